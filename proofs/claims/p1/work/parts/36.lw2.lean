/-! the law's cases, each on a fresh object and a fresh reference -/
def qFm (S : qSh) (I : qI) : Prop := isMd S ∧ (∀ j, j ≠ 18 → I 114 j = 0) ∧ I 114 18 = -1 ∧ (∀ t, t < 6 → I 145 t = -1) ∧ ∀ t, t < 6 → I 146 t = 0
def qEnd (E : qE) (Q : qPost) : Prop := ∀ S I J, qW E y_L_law b_L_law (some .boolean) 1312 600000 7302250 Q 148 3767 1275 [some (.ref (qsc E)), some (.ref (qb E + 0)), some (.ref (qb E + 114)), some (.int 0)] [] S I J
section LW2
variable {E : qE} {S : qSh} {I : qI} {J : qJ} {Q : qPost}
theorem lw_case0 (hC : qFc S I) (hD : qFm S I) (hs : qsl E = 6) (kend : qEnd E Q) : qW E y_L_law b_L_law (some .boolean) 1312 600000 7302250 Q 148 3767 184 [some (.ref (qsc E)), some (.ref (qb E + 0)), some (.ref (qb E + 114)), some (.int 0)] [] S I J := by
  obtain ⟨hM, hF, hh, hTs, hTz⟩ := hD
  refine lda_n_4_1 (pc := 184) d_L_law_184 ?_
  refine lda_n_4_0 (pc := 185) d_L_law_185 ?_
  refine ldi_n_4_3 (pc := 186) d_L_law_186 ?_
  refine r_iconst (pc := 187) (v := 1) d_L_law_187 rfl ?_
  refine r_iadd (pc := 188) d_L_law_188 ?_
  refine r_top (v := 1) (by decide) ?_
  refine r_sld (pc := 189) d_L_law_189 (by rw [hs]; unfold vp_in; decide) ?_
  refine r_top (v := (qsx E 1)) (by rfl) ?_
  refine lda_n_4_0 (pc := 190) d_L_law_190 ?_
  refine ldi_n_4_3 (pc := 191) d_L_law_191 ?_
  refine r_iconst (pc := 192) (v := 2) d_L_law_192 rfl ?_
  refine r_iadd (pc := 193) d_L_law_193 ?_
  refine r_top (v := 2) (by decide) ?_
  refine r_sld (pc := 194) d_L_law_194 (by rw [hs]; unfold vp_in; decide) ?_
  refine r_top (v := (qsx E 2)) (by rfl) ?_
  refine lda_n_4_0 (pc := 195) d_L_law_195 ?_
  refine ldi_n_4_3 (pc := 196) d_L_law_196 ?_
  refine r_iconst (pc := 197) (v := 3) d_L_law_197 rfl ?_
  refine r_iadd (pc := 198) d_L_law_198 ?_
  refine r_top (v := 3) (by decide) ?_
  refine r_sld (pc := 199) d_L_law_199 (by rw [hs]; unfold vp_in; decide) ?_
  refine r_top (v := (qsx E 3)) (by rfl) ?_
  refine r_callV (pc := 200) (As := [.int (qsx E 1), .int (qsx E 2), .int (qsx E 3)]) (k := 8) (N := 11) (T := T_On) k_L_13 im_On_mourner se_On_mourner rfl (by decide) rfl (by decide) d_L_law_200 hC.1.1 (k_On_mourner hC) rfl (Nat.le_of_ble_eq_true rfl) (by omega) (by omega) (by omega) (fun v' S' I2 J2 hq => ?_)
  obtain ⟨rfl, rfl, hfr⟩ := hq
  refine lda_n_4_2 (pc := 203) d_L_law_203 ?_
  refine lda_n_4_0 (pc := 204) d_L_law_204 ?_
  refine ldi_n_4_3 (pc := 205) d_L_law_205 ?_
  refine r_iconst (pc := 206) (v := 1) d_L_law_206 rfl ?_
  refine r_iadd (pc := 207) d_L_law_207 ?_
  refine r_top (v := 1) (by decide) ?_
  refine r_sld (pc := 208) d_L_law_208 (by rw [hs]; unfold vp_in; decide) ?_
  refine r_top (v := (qsx E 1)) (by rfl) ?_
  refine lda_n_4_0 (pc := 209) d_L_law_209 ?_
  refine ldi_n_4_3 (pc := 210) d_L_law_210 ?_
  refine r_iconst (pc := 211) (v := 2) d_L_law_211 rfl ?_
  refine r_iadd (pc := 212) d_L_law_212 ?_
  refine r_top (v := 2) (by decide) ?_
  refine r_sld (pc := 213) d_L_law_213 (by rw [hs]; unfold vp_in; decide) ?_
  refine r_top (v := (qsx E 2)) (by rfl) ?_
  refine lda_n_4_0 (pc := 214) d_L_law_214 ?_
  refine ldi_n_4_3 (pc := 215) d_L_law_215 ?_
  refine r_iconst (pc := 216) (v := 3) d_L_law_216 rfl ?_
  refine r_iadd (pc := 217) d_L_law_217 ?_
  refine r_top (v := 3) (by decide) ?_
  refine r_sld (pc := 218) d_L_law_218 (by rw [hs]; unfold vp_in; decide) ?_
  refine r_top (v := (qsx E 3)) (by rfl) ?_
  refine r_callV (pc := 219) (As := [.int (qsx E 1), .int (qsx E 2), .int (qsx E 3)]) (k := 9) (N := 56) (T := T_Md) k_L_17 im_Md_mourner se_Md_mourner rfl (by decide) rfl (by decide) d_L_law_219 hM.1 (k_Md_mourner hM (fun j hj => by rw [hfr 114 (by omega)]; exact hF j hj) (by rw [hfr 114 (by omega)]; exact hh)) rfl (Nat.le_of_ble_eq_true rfl) (by omega) (by omega) (by omega) (fun v' S' I3 J3 hq => ?_)
  subst hq
  refine r_icmp_eq (pc := 222) (tgt := 1275) d_L_law_222 (by decide) (fun _ => ?_) (fun c => absurd e_mourner c)
  exact kend _ _ _
theorem lw_case1 (hC : qFc S I) (hD : qFm S I) (hs : qsl E = 6) (kend : qEnd E Q) : qW E y_L_law b_L_law (some .boolean) 1312 600000 7302250 Q 148 3767 227 [some (.ref (qsc E)), some (.ref (qb E + 0)), some (.ref (qb E + 114)), some (.int 0)] [] S I J := by
  obtain ⟨hM, hF, hh, hTs, hTz⟩ := hD
  refine lda_n_4_1 (pc := 227) d_L_law_227 ?_
  refine lda_n_4_0 (pc := 228) d_L_law_228 ?_
  refine ldi_n_4_3 (pc := 229) d_L_law_229 ?_
  refine r_iconst (pc := 230) (v := 1) d_L_law_230 rfl ?_
  refine r_iadd (pc := 231) d_L_law_231 ?_
  refine r_top (v := 1) (by decide) ?_
  refine r_sld (pc := 232) d_L_law_232 (by rw [hs]; unfold vp_in; decide) ?_
  refine r_top (v := (qsx E 1)) (by rfl) ?_
  refine lda_n_4_0 (pc := 233) d_L_law_233 ?_
  refine ldi_n_4_3 (pc := 234) d_L_law_234 ?_
  refine r_iconst (pc := 235) (v := 2) d_L_law_235 rfl ?_
  refine r_iadd (pc := 236) d_L_law_236 ?_
  refine r_top (v := 2) (by decide) ?_
  refine r_sld (pc := 237) d_L_law_237 (by rw [hs]; unfold vp_in; decide) ?_
  refine r_top (v := (qsx E 2)) (by rfl) ?_
  refine r_callV (pc := 238) (As := [.int (qsx E 1), .int (qsx E 2)]) (k := 8) (N := 11) (T := T_On) k_L_18 im_On_of se_On_of rfl (by decide) rfl (by decide) d_L_law_238 hC.1.1 (k_On_of hC) rfl (Nat.le_of_ble_eq_true rfl) (by omega) (by omega) (by omega) (fun v' S' I2 J2 hq => ?_)
  obtain ⟨rfl, rfl, hfr⟩ := hq
  refine lda_n_4_2 (pc := 241) d_L_law_241 ?_
  refine lda_n_4_0 (pc := 242) d_L_law_242 ?_
  refine ldi_n_4_3 (pc := 243) d_L_law_243 ?_
  refine r_iconst (pc := 244) (v := 1) d_L_law_244 rfl ?_
  refine r_iadd (pc := 245) d_L_law_245 ?_
  refine r_top (v := 1) (by decide) ?_
  refine r_sld (pc := 246) d_L_law_246 (by rw [hs]; unfold vp_in; decide) ?_
  refine r_top (v := (qsx E 1)) (by rfl) ?_
  refine lda_n_4_0 (pc := 247) d_L_law_247 ?_
  refine ldi_n_4_3 (pc := 248) d_L_law_248 ?_
  refine r_iconst (pc := 249) (v := 2) d_L_law_249 rfl ?_
  refine r_iadd (pc := 250) d_L_law_250 ?_
  refine r_top (v := 2) (by decide) ?_
  refine r_sld (pc := 251) d_L_law_251 (by rw [hs]; unfold vp_in; decide) ?_
  refine r_top (v := (qsx E 2)) (by rfl) ?_
  refine r_callV (pc := 252) (As := [.int (qsx E 1), .int (qsx E 2)]) (k := 9) (N := 56) (T := T_Md) k_L_22 im_Md_of se_Md_of rfl (by decide) rfl (by decide) d_L_law_252 hM.1 (k_Md_of hM (fun j hj => by rw [hfr 114 (by omega)]; exact hF j hj) (by rw [hfr 114 (by omega)]; exact hh)) rfl (Nat.le_of_ble_eq_true rfl) (by omega) (by omega) (by omega) (fun v' S' I3 J3 hq => ?_)
  subst hq
  refine r_icmp_eq (pc := 255) (tgt := 1275) d_L_law_255 (by decide) (fun _ => ?_) (fun c => absurd e_of c)
  exact kend _ _ _
theorem lw_case2 (hC : qFc S I) (hD : qFm S I) (hs : qsl E = 6) (kend : qEnd E Q) : qW E y_L_law b_L_law (some .boolean) 1312 600000 7302250 Q 148 3767 260 [some (.ref (qsc E)), some (.ref (qb E + 0)), some (.ref (qb E + 114)), some (.int 0)] [] S I J := by
  obtain ⟨hM, hF, hh, hTs, hTz⟩ := hD
  refine lda_n_4_1 (pc := 260) d_L_law_260 ?_
  refine lda_n_4_0 (pc := 261) d_L_law_261 ?_
  refine ldi_n_4_3 (pc := 262) d_L_law_262 ?_
  refine r_iconst (pc := 263) (v := 1) d_L_law_263 rfl ?_
  refine r_iadd (pc := 264) d_L_law_264 ?_
  refine r_top (v := 1) (by decide) ?_
  refine r_sld (pc := 265) d_L_law_265 (by rw [hs]; unfold vp_in; decide) ?_
  refine r_top (v := (qsx E 1)) (by rfl) ?_
  refine lda_n_4_0 (pc := 266) d_L_law_266 ?_
  refine ldi_n_4_3 (pc := 267) d_L_law_267 ?_
  refine r_iconst (pc := 268) (v := 2) d_L_law_268 rfl ?_
  refine r_iadd (pc := 269) d_L_law_269 ?_
  refine r_top (v := 2) (by decide) ?_
  refine r_sld (pc := 270) d_L_law_270 (by rw [hs]; unfold vp_in; decide) ?_
  refine r_top (v := (qsx E 2)) (by rfl) ?_
  refine lda_n_4_0 (pc := 271) d_L_law_271 ?_
  refine ldi_n_4_3 (pc := 272) d_L_law_272 ?_
  refine r_iconst (pc := 273) (v := 3) d_L_law_273 rfl ?_
  refine r_iadd (pc := 274) d_L_law_274 ?_
  refine r_top (v := 3) (by decide) ?_
  refine r_sld (pc := 275) d_L_law_275 (by rw [hs]; unfold vp_in; decide) ?_
  refine r_top (v := (qsx E 3)) (by rfl) ?_
  refine r_callV (pc := 276) (As := [.int (qsx E 1), .int (qsx E 2), .int (qsx E 3)]) (k := 8) (N := 11) (T := T_On) k_L_23 im_On_set se_On_set rfl (by decide) rfl (by decide) d_L_law_276 hC.1.1 (k_On_set hC) rfl (Nat.le_of_ble_eq_true rfl) (by omega) (by omega) (by omega) (fun v' S' I2 J2 hq => ?_)
  obtain ⟨rfl, rfl, hfr⟩ := hq
  refine lda_n_4_2 (pc := 279) d_L_law_279 ?_
  refine lda_n_4_0 (pc := 280) d_L_law_280 ?_
  refine ldi_n_4_3 (pc := 281) d_L_law_281 ?_
  refine r_iconst (pc := 282) (v := 1) d_L_law_282 rfl ?_
  refine r_iadd (pc := 283) d_L_law_283 ?_
  refine r_top (v := 1) (by decide) ?_
  refine r_sld (pc := 284) d_L_law_284 (by rw [hs]; unfold vp_in; decide) ?_
  refine r_top (v := (qsx E 1)) (by rfl) ?_
  refine lda_n_4_0 (pc := 285) d_L_law_285 ?_
  refine ldi_n_4_3 (pc := 286) d_L_law_286 ?_
  refine r_iconst (pc := 287) (v := 2) d_L_law_287 rfl ?_
  refine r_iadd (pc := 288) d_L_law_288 ?_
  refine r_top (v := 2) (by decide) ?_
  refine r_sld (pc := 289) d_L_law_289 (by rw [hs]; unfold vp_in; decide) ?_
  refine r_top (v := (qsx E 2)) (by rfl) ?_
  refine lda_n_4_0 (pc := 290) d_L_law_290 ?_
  refine ldi_n_4_3 (pc := 291) d_L_law_291 ?_
  refine r_iconst (pc := 292) (v := 3) d_L_law_292 rfl ?_
  refine r_iadd (pc := 293) d_L_law_293 ?_
  refine r_top (v := 3) (by decide) ?_
  refine r_sld (pc := 294) d_L_law_294 (by rw [hs]; unfold vp_in; decide) ?_
  refine r_top (v := (qsx E 3)) (by rfl) ?_
  refine r_callV (pc := 295) (As := [.int (qsx E 1), .int (qsx E 2), .int (qsx E 3)]) (k := 9) (N := 56) (T := T_Md) k_L_26 im_Md_set se_Md_set rfl (by decide) rfl (by decide) d_L_law_295 hM.1 (k_Md_set hM (fun j hj => by rw [hfr 114 (by omega)]; exact hF j hj) (by rw [hfr 114 (by omega)]; exact hh)) rfl (Nat.le_of_ble_eq_true rfl) (by omega) (by omega) (by omega) (fun v' S' I3 J3 hq => ?_)
  subst hq
  refine r_icmp_eq (pc := 298) (tgt := 1275) d_L_law_298 (by decide) (fun _ => ?_) (fun c => absurd e_set c)
  exact kend _ _ _
theorem lw_case3 (hC : qFc S I) (hD : qFm S I) (hs : qsl E = 6) (kend : qEnd E Q) : qW E y_L_law b_L_law (some .boolean) 1312 600000 7302250 Q 148 3767 303 [some (.ref (qsc E)), some (.ref (qb E + 0)), some (.ref (qb E + 114)), some (.int 0)] [] S I J := by
  obtain ⟨hM, hF, hh, hTs, hTz⟩ := hD
  refine lda_n_4_1 (pc := 303) d_L_law_303 ?_
  refine lda_n_4_0 (pc := 304) d_L_law_304 ?_
  refine ldi_n_4_3 (pc := 305) d_L_law_305 ?_
  refine r_iconst (pc := 306) (v := 1) d_L_law_306 rfl ?_
  refine r_iadd (pc := 307) d_L_law_307 ?_
  refine r_top (v := 1) (by decide) ?_
  refine r_sld (pc := 308) d_L_law_308 (by rw [hs]; unfold vp_in; decide) ?_
  refine r_top (v := (qsx E 1)) (by rfl) ?_
  refine lda_n_4_0 (pc := 309) d_L_law_309 ?_
  refine ldi_n_4_3 (pc := 310) d_L_law_310 ?_
  refine r_iconst (pc := 311) (v := 2) d_L_law_311 rfl ?_
  refine r_iadd (pc := 312) d_L_law_312 ?_
  refine r_top (v := 2) (by decide) ?_
  refine r_sld (pc := 313) d_L_law_313 (by rw [hs]; unfold vp_in; decide) ?_
  refine r_top (v := (qsx E 2)) (by rfl) ?_
  refine r_if_eq (pc := 314) (tgt := 321) d_L_law_314 (by decide) (fun c1 => ?_) (fun c1 => ?_)
  · refine r_iconst (pc := 321) (v := 0) d_L_law_321 rfl ?_
    refine r_callV (pc := 322) (As := [.int (qsx E 1), .int 0]) (k := 8) (N := 11) (T := T_On) k_L_27 im_On_done se_On_done rfl (by decide) rfl (by decide) d_L_law_322 hC.1.1 (k_On_done hC) rfl (Nat.le_of_ble_eq_true rfl) (by omega) (by omega) (by omega) (fun v' S' I2 J2 hq => ?_)
    obtain ⟨rfl, rfl, hfr⟩ := hq
    refine lda_n_4_2 (pc := 325) d_L_law_325 ?_
    refine lda_n_4_0 (pc := 326) d_L_law_326 ?_
    refine ldi_n_4_3 (pc := 327) d_L_law_327 ?_
    refine r_iconst (pc := 328) (v := 1) d_L_law_328 rfl ?_
    refine r_iadd (pc := 329) d_L_law_329 ?_
    refine r_top (v := 1) (by decide) ?_
    refine r_sld (pc := 330) d_L_law_330 (by rw [hs]; unfold vp_in; decide) ?_
    refine r_top (v := (qsx E 1)) (by rfl) ?_
    refine lda_n_4_0 (pc := 331) d_L_law_331 ?_
    refine ldi_n_4_3 (pc := 332) d_L_law_332 ?_
    refine r_iconst (pc := 333) (v := 2) d_L_law_333 rfl ?_
    refine r_iadd (pc := 334) d_L_law_334 ?_
    refine r_top (v := 2) (by decide) ?_
    refine r_sld (pc := 335) d_L_law_335 (by rw [hs]; unfold vp_in; decide) ?_
    refine r_top (v := (qsx E 2)) (by rfl) ?_
    refine r_if_eq (pc := 336) (tgt := 343) d_L_law_336 (by decide) (fun c2 => ?_) (fun c2 => ?_)
    · refine r_iconst (pc := 343) (v := 0) d_L_law_343 rfl ?_
      refine r_callV (pc := 344) (As := [.int (qsx E 1), .int 0]) (k := 9) (N := 56) (T := T_Md) k_L_31 im_Md_done se_Md_done rfl (by decide) rfl (by decide) d_L_law_344 hM.1 (k_Md_done hM (fun j hj => by rw [hfr 114 (by omega)]; exact hF j hj) (by rw [hfr 114 (by omega)]; exact hh)) rfl (Nat.le_of_ble_eq_true rfl) (by omega) (by omega) (by omega) (fun v' S' I3 J3 hq => ?_)
      subst hq
      refine r_icmp_eq (pc := 347) (tgt := 1275) d_L_law_347 (by decide) (fun _ => ?_) (fun c => absurd e_done c)
      exact kend _ _ _
    · refine r_iconst (pc := 339) (v := 1) d_L_law_339 rfl ?_
      refine r_goto (pc := 340) (tgt := 344) d_L_law_340 (by decide) ?_
      refine r_callV (pc := 344) (As := [.int (qsx E 1), .int 1]) (k := 9) (N := 56) (T := T_Md) k_L_31 im_Md_done se_Md_done rfl (by decide) rfl (by decide) d_L_law_344 hM.1 (k_Md_done hM (fun j hj => by rw [hfr 114 (by omega)]; exact hF j hj) (by rw [hfr 114 (by omega)]; exact hh)) rfl (Nat.le_of_ble_eq_true rfl) (by omega) (by omega) (by omega) (fun v' S' I3 J3 hq => ?_)
      subst hq
      refine r_icmp_eq (pc := 347) (tgt := 1275) d_L_law_347 (by decide) (fun _ => ?_) (fun c => absurd e_done c)
      exact kend _ _ _
  · refine r_iconst (pc := 317) (v := 1) d_L_law_317 rfl ?_
    refine r_goto (pc := 318) (tgt := 322) d_L_law_318 (by decide) ?_
    refine r_callV (pc := 322) (As := [.int (qsx E 1), .int 1]) (k := 8) (N := 11) (T := T_On) k_L_27 im_On_done se_On_done rfl (by decide) rfl (by decide) d_L_law_322 hC.1.1 (k_On_done hC) rfl (Nat.le_of_ble_eq_true rfl) (by omega) (by omega) (by omega) (fun v' S' I2 J2 hq => ?_)
    obtain ⟨rfl, rfl, hfr⟩ := hq
    refine lda_n_4_2 (pc := 325) d_L_law_325 ?_
    refine lda_n_4_0 (pc := 326) d_L_law_326 ?_
    refine ldi_n_4_3 (pc := 327) d_L_law_327 ?_
    refine r_iconst (pc := 328) (v := 1) d_L_law_328 rfl ?_
    refine r_iadd (pc := 329) d_L_law_329 ?_
    refine r_top (v := 1) (by decide) ?_
    refine r_sld (pc := 330) d_L_law_330 (by rw [hs]; unfold vp_in; decide) ?_
    refine r_top (v := (qsx E 1)) (by rfl) ?_
    refine lda_n_4_0 (pc := 331) d_L_law_331 ?_
    refine ldi_n_4_3 (pc := 332) d_L_law_332 ?_
    refine r_iconst (pc := 333) (v := 2) d_L_law_333 rfl ?_
    refine r_iadd (pc := 334) d_L_law_334 ?_
    refine r_top (v := 2) (by decide) ?_
    refine r_sld (pc := 335) d_L_law_335 (by rw [hs]; unfold vp_in; decide) ?_
    refine r_top (v := (qsx E 2)) (by rfl) ?_
    refine r_if_eq (pc := 336) (tgt := 343) d_L_law_336 (by decide) (fun c3 => ?_) (fun c3 => ?_)
    · refine r_iconst (pc := 343) (v := 0) d_L_law_343 rfl ?_
      refine r_callV (pc := 344) (As := [.int (qsx E 1), .int 0]) (k := 9) (N := 56) (T := T_Md) k_L_31 im_Md_done se_Md_done rfl (by decide) rfl (by decide) d_L_law_344 hM.1 (k_Md_done hM (fun j hj => by rw [hfr 114 (by omega)]; exact hF j hj) (by rw [hfr 114 (by omega)]; exact hh)) rfl (Nat.le_of_ble_eq_true rfl) (by omega) (by omega) (by omega) (fun v' S' I3 J3 hq => ?_)
      subst hq
      refine r_icmp_eq (pc := 347) (tgt := 1275) d_L_law_347 (by decide) (fun _ => ?_) (fun c => absurd e_done c)
      exact kend _ _ _
    · refine r_iconst (pc := 339) (v := 1) d_L_law_339 rfl ?_
      refine r_goto (pc := 340) (tgt := 344) d_L_law_340 (by decide) ?_
      refine r_callV (pc := 344) (As := [.int (qsx E 1), .int 1]) (k := 9) (N := 56) (T := T_Md) k_L_31 im_Md_done se_Md_done rfl (by decide) rfl (by decide) d_L_law_344 hM.1 (k_Md_done hM (fun j hj => by rw [hfr 114 (by omega)]; exact hF j hj) (by rw [hfr 114 (by omega)]; exact hh)) rfl (Nat.le_of_ble_eq_true rfl) (by omega) (by omega) (by omega) (fun v' S' I3 J3 hq => ?_)
      subst hq
      refine r_icmp_eq (pc := 347) (tgt := 1275) d_L_law_347 (by decide) (fun _ => ?_) (fun c => absurd e_done c)
      exact kend _ _ _
theorem lw_case4 (hC : qFc S I) (hD : qFm S I) (hs : qsl E = 6) (kend : qEnd E Q) : qW E y_L_law b_L_law (some .boolean) 1312 600000 7302250 Q 148 3767 352 [some (.ref (qsc E)), some (.ref (qb E + 0)), some (.ref (qb E + 114)), some (.int 0)] [] S I J := by
  obtain ⟨hM, hF, hh, hTs, hTz⟩ := hD
  refine lda_n_4_1 (pc := 352) d_L_law_352 ?_
  refine lda_n_4_0 (pc := 353) d_L_law_353 ?_
  refine ldi_n_4_3 (pc := 354) d_L_law_354 ?_
  refine r_iconst (pc := 355) (v := 1) d_L_law_355 rfl ?_
  refine r_iadd (pc := 356) d_L_law_356 ?_
  refine r_top (v := 1) (by decide) ?_
  refine r_sld (pc := 357) d_L_law_357 (by rw [hs]; unfold vp_in; decide) ?_
  refine r_top (v := (qsx E 1)) (by rfl) ?_
  refine r_callV (pc := 358) (As := [.int (qsx E 1)]) (k := 8) (N := 11) (T := T_On) k_L_32 im_On_list se_On_list rfl (by decide) rfl (by decide) d_L_law_358 hC.1.1 (k_On_list hC) rfl (Nat.le_of_ble_eq_true rfl) (by omega) (by omega) (by omega) (fun v' S' I2 J2 hq => ?_)
  obtain ⟨rfl, rfl, hfr⟩ := hq
  refine lda_n_4_2 (pc := 361) d_L_law_361 ?_
  refine lda_n_4_0 (pc := 362) d_L_law_362 ?_
  refine ldi_n_4_3 (pc := 363) d_L_law_363 ?_
  refine r_iconst (pc := 364) (v := 1) d_L_law_364 rfl ?_
  refine r_iadd (pc := 365) d_L_law_365 ?_
  refine r_top (v := 1) (by decide) ?_
  refine r_sld (pc := 366) d_L_law_366 (by rw [hs]; unfold vp_in; decide) ?_
  refine r_top (v := (qsx E 1)) (by rfl) ?_
  refine r_callV (pc := 367) (As := [.int (qsx E 1)]) (k := 9) (N := 56) (T := T_Md) k_L_36 im_Md_list se_Md_list rfl (by decide) rfl (by decide) d_L_law_367 hM.1 (k_Md_list hM (fun j hj => by rw [hfr 114 (by omega)]; exact hF j hj) (by rw [hfr 114 (by omega)]; exact hh)) rfl (Nat.le_of_ble_eq_true rfl) (by omega) (by omega) (by omega) (fun v' S' I3 J3 hq => ?_)
  subst hq
  refine r_icmp_eq (pc := 370) (tgt := 1275) d_L_law_370 (by decide) (fun _ => ?_) (fun c => absurd e_list c)
  exact kend _ _ _
theorem lw_case5 (hC : qFc S I) (hD : qFm S I) (hs : qsl E = 6) (kend : qEnd E Q) : qW E y_L_law b_L_law (some .boolean) 1312 600000 7302250 Q 148 3767 375 [some (.ref (qsc E)), some (.ref (qb E + 0)), some (.ref (qb E + 114)), some (.int 0)] [] S I J := by
  obtain ⟨hM, hF, hh, hTs, hTz⟩ := hD
  refine lda_n_4_1 (pc := 375) d_L_law_375 ?_
  refine lda_n_4_0 (pc := 376) d_L_law_376 ?_
  refine ldi_n_4_3 (pc := 377) d_L_law_377 ?_
  refine r_iconst (pc := 378) (v := 1) d_L_law_378 rfl ?_
  refine r_iadd (pc := 379) d_L_law_379 ?_
  refine r_top (v := 1) (by decide) ?_
  refine r_sld (pc := 380) d_L_law_380 (by rw [hs]; unfold vp_in; decide) ?_
  refine r_top (v := (qsx E 1)) (by rfl) ?_
  refine lda_n_4_0 (pc := 381) d_L_law_381 ?_
  refine ldi_n_4_3 (pc := 382) d_L_law_382 ?_
  refine r_iconst (pc := 383) (v := 2) d_L_law_383 rfl ?_
  refine r_iadd (pc := 384) d_L_law_384 ?_
  refine r_top (v := 2) (by decide) ?_
  refine r_sld (pc := 385) d_L_law_385 (by rw [hs]; unfold vp_in; decide) ?_
  refine r_top (v := (qsx E 2)) (by rfl) ?_
  refine r_callV (pc := 386) (As := [.int (qsx E 1), .int (qsx E 2)]) (k := 8) (N := 11) (T := T_On) k_L_37 im_On_swap se_On_swap rfl (by decide) rfl (by decide) d_L_law_386 hC.1.1 (k_On_swap hC) rfl (Nat.le_of_ble_eq_true rfl) (by omega) (by omega) (by omega) (fun v' S' I2 J2 hq => ?_)
  obtain ⟨rfl, rfl, hfr⟩ := hq
  refine lda_n_4_2 (pc := 389) d_L_law_389 ?_
  refine lda_n_4_0 (pc := 390) d_L_law_390 ?_
  refine ldi_n_4_3 (pc := 391) d_L_law_391 ?_
  refine r_iconst (pc := 392) (v := 1) d_L_law_392 rfl ?_
  refine r_iadd (pc := 393) d_L_law_393 ?_
  refine r_top (v := 1) (by decide) ?_
  refine r_sld (pc := 394) d_L_law_394 (by rw [hs]; unfold vp_in; decide) ?_
  refine r_top (v := (qsx E 1)) (by rfl) ?_
  refine lda_n_4_0 (pc := 395) d_L_law_395 ?_
  refine ldi_n_4_3 (pc := 396) d_L_law_396 ?_
  refine r_iconst (pc := 397) (v := 2) d_L_law_397 rfl ?_
  refine r_iadd (pc := 398) d_L_law_398 ?_
  refine r_top (v := 2) (by decide) ?_
  refine r_sld (pc := 399) d_L_law_399 (by rw [hs]; unfold vp_in; decide) ?_
  refine r_top (v := (qsx E 2)) (by rfl) ?_
  refine r_callV (pc := 400) (As := [.int (qsx E 1), .int (qsx E 2)]) (k := 9) (N := 56) (T := T_Md) k_L_40 im_Md_swap se_Md_swap rfl (by decide) rfl (by decide) d_L_law_400 hM.1 (k_Md_swap hM (fun j hj => by rw [hfr 114 (by omega)]; exact hF j hj) (by rw [hfr 114 (by omega)]; exact hh)) rfl (Nat.le_of_ble_eq_true rfl) (by omega) (by omega) (by omega) (fun v' S' I3 J3 hq => ?_)
  subst hq
  refine r_icmp_eq (pc := 403) (tgt := 1275) d_L_law_403 (by decide) (fun _ => ?_) (fun c => absurd e_swap c)
  exact kend _ _ _
theorem lw_case6 (hC : qFc S I) (hD : qFm S I) (hs : qsl E = 6) (kend : qEnd E Q) : qW E y_L_law b_L_law (some .boolean) 1312 600000 7302250 Q 148 3767 408 [some (.ref (qsc E)), some (.ref (qb E + 0)), some (.ref (qb E + 114)), some (.int 0)] [] S I J := by
  obtain ⟨hM, hF, hh, hTs, hTz⟩ := hD
  refine lda_n_4_1 (pc := 408) d_L_law_408 ?_
  refine lda_n_4_0 (pc := 409) d_L_law_409 ?_
  refine ldi_n_4_3 (pc := 410) d_L_law_410 ?_
  refine r_iconst (pc := 411) (v := 1) d_L_law_411 rfl ?_
  refine r_iadd (pc := 412) d_L_law_412 ?_
  refine r_top (v := 1) (by decide) ?_
  refine r_sld (pc := 413) d_L_law_413 (by rw [hs]; unfold vp_in; decide) ?_
  refine r_top (v := (qsx E 1)) (by rfl) ?_
  refine lda_n_4_0 (pc := 414) d_L_law_414 ?_
  refine ldi_n_4_3 (pc := 415) d_L_law_415 ?_
  refine r_iconst (pc := 416) (v := 2) d_L_law_416 rfl ?_
  refine r_iadd (pc := 417) d_L_law_417 ?_
  refine r_top (v := 2) (by decide) ?_
  refine r_sld (pc := 418) d_L_law_418 (by rw [hs]; unfold vp_in; decide) ?_
  refine r_top (v := (qsx E 2)) (by rfl) ?_
  refine lda_n_4_0 (pc := 419) d_L_law_419 ?_
  refine ldi_n_4_3 (pc := 420) d_L_law_420 ?_
  refine r_iconst (pc := 421) (v := 3) d_L_law_421 rfl ?_
  refine r_iadd (pc := 422) d_L_law_422 ?_
  refine r_top (v := 3) (by decide) ?_
  refine r_sld (pc := 423) d_L_law_423 (by rw [hs]; unfold vp_in; decide) ?_
  refine r_top (v := (qsx E 3)) (by rfl) ?_
  refine r_callV (pc := 424) (As := [.int (qsx E 1), .int (qsx E 2), .int (qsx E 3)]) (k := 8) (N := 11) (T := T_On) k_L_41 im_On_row se_On_row rfl (by decide) rfl (by decide) d_L_law_424 hC.1.1 (k_On_row hC) rfl (Nat.le_of_ble_eq_true rfl) (by omega) (by omega) (by omega) (fun v' S' I2 J2 hq => ?_)
  obtain ⟨rfl, rfl, hfr⟩ := hq
  refine lda_n_4_2 (pc := 427) d_L_law_427 ?_
  refine lda_n_4_0 (pc := 428) d_L_law_428 ?_
  refine ldi_n_4_3 (pc := 429) d_L_law_429 ?_
  refine r_iconst (pc := 430) (v := 1) d_L_law_430 rfl ?_
  refine r_iadd (pc := 431) d_L_law_431 ?_
  refine r_top (v := 1) (by decide) ?_
  refine r_sld (pc := 432) d_L_law_432 (by rw [hs]; unfold vp_in; decide) ?_
  refine r_top (v := (qsx E 1)) (by rfl) ?_
  refine lda_n_4_0 (pc := 433) d_L_law_433 ?_
  refine ldi_n_4_3 (pc := 434) d_L_law_434 ?_
  refine r_iconst (pc := 435) (v := 2) d_L_law_435 rfl ?_
  refine r_iadd (pc := 436) d_L_law_436 ?_
  refine r_top (v := 2) (by decide) ?_
  refine r_sld (pc := 437) d_L_law_437 (by rw [hs]; unfold vp_in; decide) ?_
  refine r_top (v := (qsx E 2)) (by rfl) ?_
  refine lda_n_4_0 (pc := 438) d_L_law_438 ?_
  refine ldi_n_4_3 (pc := 439) d_L_law_439 ?_
  refine r_iconst (pc := 440) (v := 3) d_L_law_440 rfl ?_
  refine r_iadd (pc := 441) d_L_law_441 ?_
  refine r_top (v := 3) (by decide) ?_
  refine r_sld (pc := 442) d_L_law_442 (by rw [hs]; unfold vp_in; decide) ?_
  refine r_top (v := (qsx E 3)) (by rfl) ?_
  refine r_callV (pc := 443) (As := [.int (qsx E 1), .int (qsx E 2), .int (qsx E 3)]) (k := 9) (N := 56) (T := T_Md) k_L_44 im_Md_row se_Md_row rfl (by decide) rfl (by decide) d_L_law_443 hM.1 (k_Md_row hM (fun j hj => by rw [hfr 114 (by omega)]; exact hF j hj) (by rw [hfr 114 (by omega)]; exact hh)) rfl (Nat.le_of_ble_eq_true rfl) (by omega) (by omega) (by omega) (fun v' S' I3 J3 hq => ?_)
  subst hq
  refine r_icmp_eq (pc := 446) (tgt := 1275) d_L_law_446 (by decide) (fun _ => ?_) (fun c => absurd e_row c)
  exact kend _ _ _
theorem lw_case7 (hC : qFc S I) (hD : qFm S I) (hs : qsl E = 6) (kend : qEnd E Q) : qW E y_L_law b_L_law (some .boolean) 1312 600000 7302250 Q 148 3767 451 [some (.ref (qsc E)), some (.ref (qb E + 0)), some (.ref (qb E + 114)), some (.int 0)] [] S I J := by
  obtain ⟨hM, hF, hh, hTs, hTz⟩ := hD
  refine lda_n_4_1 (pc := 451) d_L_law_451 ?_
  refine lda_n_4_0 (pc := 452) d_L_law_452 ?_
  refine ldi_n_4_3 (pc := 453) d_L_law_453 ?_
  refine r_iconst (pc := 454) (v := 1) d_L_law_454 rfl ?_
  refine r_iadd (pc := 455) d_L_law_455 ?_
  refine r_top (v := 1) (by decide) ?_
  refine r_sld (pc := 456) d_L_law_456 (by rw [hs]; unfold vp_in; decide) ?_
  refine r_top (v := (qsx E 1)) (by rfl) ?_
  refine r_callV (pc := 457) (As := [.int (qsx E 1)]) (k := 8) (N := 11) (T := T_On) k_L_45 im_On_feed se_On_feed rfl (by decide) rfl (by decide) d_L_law_457 hC.1.1 (k_On_feed hC) rfl (Nat.le_of_ble_eq_true rfl) (by omega) (by omega) (by omega) (fun v' S' I2 J2 hq => ?_)
  obtain ⟨rfl, rfl, hfr⟩ := hq
  refine lda_n_4_2 (pc := 460) d_L_law_460 ?_
  refine lda_n_4_0 (pc := 461) d_L_law_461 ?_
  refine ldi_n_4_3 (pc := 462) d_L_law_462 ?_
  refine r_iconst (pc := 463) (v := 1) d_L_law_463 rfl ?_
  refine r_iadd (pc := 464) d_L_law_464 ?_
  refine r_top (v := 1) (by decide) ?_
  refine r_sld (pc := 465) d_L_law_465 (by rw [hs]; unfold vp_in; decide) ?_
  refine r_top (v := (qsx E 1)) (by rfl) ?_
  refine r_callV (pc := 466) (As := [.int (qsx E 1)]) (k := 9) (N := 56) (T := T_Md) k_L_48 im_Md_feed se_Md_feed rfl (by decide) rfl (by decide) d_L_law_466 hM.1 (k_Md_feed hM (fun j hj => by rw [hfr 114 (by omega)]; exact hF j hj) (by rw [hfr 114 (by omega)]; exact hh)) rfl (Nat.le_of_ble_eq_true rfl) (by omega) (by omega) (by omega) (fun v' S' I3 J3 hq => ?_)
  subst hq
  refine r_icmp_eq (pc := 469) (tgt := 1275) d_L_law_469 (by decide) (fun _ => ?_) (fun c => absurd e_feed c)
  exact kend _ _ _
theorem lw_case8 (hC : qFc S I) (hD : qFm S I) (hs : qsl E = 6) (kend : qEnd E Q) : qW E y_L_law b_L_law (some .boolean) 1312 600000 7302250 Q 148 3767 474 [some (.ref (qsc E)), some (.ref (qb E + 0)), some (.ref (qb E + 114)), some (.int 0)] [] S I J := by
  obtain ⟨hM, hF, hh, hTs, hTz⟩ := hD
  refine lda_n_4_1 (pc := 474) d_L_law_474 ?_
  refine r_callV (pc := 475) (As := []) (k := 8) (N := 11) (T := T_On) k_L_49 im_On_island se_On_island rfl (by decide) rfl (by decide) d_L_law_475 hC.1.1 (k_On_island hC) rfl (Nat.le_of_ble_eq_true rfl) (by omega) (by omega) (by omega) (fun v' S' I2 J2 hq => ?_)
  obtain ⟨rfl, rfl, hfr⟩ := hq
  refine lda_n_4_2 (pc := 478) d_L_law_478 ?_
  refine r_callV (pc := 479) (As := []) (k := 9) (N := 56) (T := T_Md) k_L_53 im_Md_island se_Md_island rfl (by decide) rfl (by decide) d_L_law_479 hM.1 (k_Md_island hM (fun j hj => by rw [hfr 114 (by omega)]; exact hF j hj) (by rw [hfr 114 (by omega)]; exact hh)) rfl (Nat.le_of_ble_eq_true rfl) (by omega) (by omega) (by omega) (fun v' S' I3 J3 hq => ?_)
  subst hq
  refine r_icmp_eq (pc := 482) (tgt := 1275) d_L_law_482 (by decide) (fun _ => ?_) (fun c => absurd e_island c)
  exact kend _ _ _
theorem lw_case9 (hC : qFc S I) (hD : qFm S I) (hs : qsl E = 6) (kend : qEnd E Q) : qW E y_L_law b_L_law (some .boolean) 1312 600000 7302250 Q 148 3767 487 [some (.ref (qsc E)), some (.ref (qb E + 0)), some (.ref (qb E + 114)), some (.int 0)] [] S I J := by
  obtain ⟨hM, hF, hh, hTs, hTz⟩ := hD
  refine lda_n_4_1 (pc := 487) d_L_law_487 ?_
  refine lda_n_4_0 (pc := 488) d_L_law_488 ?_
  refine ldi_n_4_3 (pc := 489) d_L_law_489 ?_
  refine r_iconst (pc := 490) (v := 1) d_L_law_490 rfl ?_
  refine r_iadd (pc := 491) d_L_law_491 ?_
  refine r_top (v := 1) (by decide) ?_
  refine r_sld (pc := 492) d_L_law_492 (by rw [hs]; unfold vp_in; decide) ?_
  refine r_top (v := (qsx E 1)) (by rfl) ?_
  refine r_callV (pc := 493) (As := [.int (qsx E 1)]) (k := 8) (N := 11) (T := T_On) k_L_54 im_On_told se_On_told rfl (by decide) rfl (by decide) d_L_law_493 hC.1.1 (k_On_told hC) rfl (Nat.le_of_ble_eq_true rfl) (by omega) (by omega) (by omega) (fun v' S' I2 J2 hq => ?_)
  obtain ⟨rfl, rfl, hfr⟩ := hq
  refine lda_n_4_2 (pc := 496) d_L_law_496 ?_
  refine lda_n_4_0 (pc := 497) d_L_law_497 ?_
  refine ldi_n_4_3 (pc := 498) d_L_law_498 ?_
  refine r_iconst (pc := 499) (v := 1) d_L_law_499 rfl ?_
  refine r_iadd (pc := 500) d_L_law_500 ?_
  refine r_top (v := 1) (by decide) ?_
  refine r_sld (pc := 501) d_L_law_501 (by rw [hs]; unfold vp_in; decide) ?_
  refine r_top (v := (qsx E 1)) (by rfl) ?_
  refine r_callV (pc := 502) (As := [.int (qsx E 1)]) (k := 9) (N := 56) (T := T_Md) k_L_57 im_Md_told se_Md_told rfl (by decide) rfl (by decide) d_L_law_502 hM.1 (k_Md_told hM (fun j hj => by rw [hfr 114 (by omega)]; exact hF j hj) (by rw [hfr 114 (by omega)]; exact hh)) rfl (Nat.le_of_ble_eq_true rfl) (by omega) (by omega) (by omega) (fun v' S' I3 J3 hq => ?_)
  subst hq
  refine r_icmp_eq (pc := 505) (tgt := 1275) d_L_law_505 (by decide) (fun _ => ?_) (fun c => absurd e_told c)
  exact kend _ _ _
theorem lw_case10 (hC : qFc S I) (hD : qFm S I) (hs : qsl E = 6) (kend : qEnd E Q) : qW E y_L_law b_L_law (some .boolean) 1312 600000 7302250 Q 148 3767 510 [some (.ref (qsc E)), some (.ref (qb E + 0)), some (.ref (qb E + 114)), some (.int 0)] [] S I J := by
  obtain ⟨hM, hF, hh, hTs, hTz⟩ := hD
  refine lda_n_4_1 (pc := 510) d_L_law_510 ?_
  refine lda_n_4_0 (pc := 511) d_L_law_511 ?_
  refine ldi_n_4_3 (pc := 512) d_L_law_512 ?_
  refine r_iconst (pc := 513) (v := 1) d_L_law_513 rfl ?_
  refine r_iadd (pc := 514) d_L_law_514 ?_
  refine r_top (v := 1) (by decide) ?_
  refine r_sld (pc := 515) d_L_law_515 (by rw [hs]; unfold vp_in; decide) ?_
  refine r_top (v := (qsx E 1)) (by rfl) ?_
  refine r_callV (pc := 516) (As := [.int (qsx E 1)]) (k := 8) (N := 11) (T := T_On) k_L_58 im_On_pass se_On_pass rfl (by decide) rfl (by decide) d_L_law_516 hC.1.1 (k_On_pass hC) rfl (Nat.le_of_ble_eq_true rfl) (by omega) (by omega) (by omega) (fun v' S' I2 J2 hq => ?_)
  obtain ⟨rfl, rfl, hfr⟩ := hq
  refine lda_n_4_2 (pc := 519) d_L_law_519 ?_
  refine lda_n_4_0 (pc := 520) d_L_law_520 ?_
  refine ldi_n_4_3 (pc := 521) d_L_law_521 ?_
  refine r_iconst (pc := 522) (v := 1) d_L_law_522 rfl ?_
  refine r_iadd (pc := 523) d_L_law_523 ?_
  refine r_top (v := 1) (by decide) ?_
  refine r_sld (pc := 524) d_L_law_524 (by rw [hs]; unfold vp_in; decide) ?_
  refine r_top (v := (qsx E 1)) (by rfl) ?_
  refine r_callV (pc := 525) (As := [.int (qsx E 1)]) (k := 9) (N := 56) (T := T_Md) k_L_61 im_Md_pass se_Md_pass rfl (by decide) rfl (by decide) d_L_law_525 hM.1 (k_Md_pass hM (fun j hj => by rw [hfr 114 (by omega)]; exact hF j hj) (by rw [hfr 114 (by omega)]; exact hh)) rfl (Nat.le_of_ble_eq_true rfl) (by omega) (by omega) (by omega) (fun v' S' I3 J3 hq => ?_)
  subst hq
  refine r_icmp_eq (pc := 528) (tgt := 1275) d_L_law_528 (by decide) (fun _ => ?_) (fun c => absurd e_pass c)
  exact kend _ _ _
theorem lw_case11 (hC : qFc S I) (hD : qFm S I) (hs : qsl E = 6) (kend : qEnd E Q) : qW E y_L_law b_L_law (some .boolean) 1312 600000 7302250 Q 148 3767 533 [some (.ref (qsc E)), some (.ref (qb E + 0)), some (.ref (qb E + 114)), some (.int 0)] [] S I J := by
  obtain ⟨hM, hF, hh, hTs, hTz⟩ := hD
  refine lda_n_4_1 (pc := 533) d_L_law_533 ?_
  refine lda_n_4_0 (pc := 534) d_L_law_534 ?_
  refine ldi_n_4_3 (pc := 535) d_L_law_535 ?_
  refine r_iconst (pc := 536) (v := 1) d_L_law_536 rfl ?_
  refine r_iadd (pc := 537) d_L_law_537 ?_
  refine r_top (v := 1) (by decide) ?_
  refine r_sld (pc := 538) d_L_law_538 (by rw [hs]; unfold vp_in; decide) ?_
  refine r_top (v := (qsx E 1)) (by rfl) ?_
  refine lda_n_4_0 (pc := 539) d_L_law_539 ?_
  refine ldi_n_4_3 (pc := 540) d_L_law_540 ?_
  refine r_iconst (pc := 541) (v := 2) d_L_law_541 rfl ?_
  refine r_iadd (pc := 542) d_L_law_542 ?_
  refine r_top (v := 2) (by decide) ?_
  refine r_sld (pc := 543) d_L_law_543 (by rw [hs]; unfold vp_in; decide) ?_
  refine r_top (v := (qsx E 2)) (by rfl) ?_
  refine r_callV (pc := 544) (As := [.int (qsx E 1), .int (qsx E 2)]) (k := 8) (N := 11) (T := T_On) k_L_62 im_On_on se_On_on rfl (by decide) rfl (by decide) d_L_law_544 hC.1.1 (k_On_on hC) rfl (Nat.le_of_ble_eq_true rfl) (by omega) (by omega) (by omega) (fun v' S' I2 J2 hq => ?_)
  obtain ⟨rfl, rfl, hfr⟩ := hq
  refine lda_n_4_2 (pc := 547) d_L_law_547 ?_
  refine lda_n_4_0 (pc := 548) d_L_law_548 ?_
  refine ldi_n_4_3 (pc := 549) d_L_law_549 ?_
  refine r_iconst (pc := 550) (v := 1) d_L_law_550 rfl ?_
  refine r_iadd (pc := 551) d_L_law_551 ?_
  refine r_top (v := 1) (by decide) ?_
  refine r_sld (pc := 552) d_L_law_552 (by rw [hs]; unfold vp_in; decide) ?_
  refine r_top (v := (qsx E 1)) (by rfl) ?_
  refine lda_n_4_0 (pc := 553) d_L_law_553 ?_
  refine ldi_n_4_3 (pc := 554) d_L_law_554 ?_
  refine r_iconst (pc := 555) (v := 2) d_L_law_555 rfl ?_
  refine r_iadd (pc := 556) d_L_law_556 ?_
  refine r_top (v := 2) (by decide) ?_
  refine r_sld (pc := 557) d_L_law_557 (by rw [hs]; unfold vp_in; decide) ?_
  refine r_top (v := (qsx E 2)) (by rfl) ?_
  refine r_callV (pc := 558) (As := [.int (qsx E 1), .int (qsx E 2)]) (k := 9) (N := 56) (T := T_Md) k_L_65 im_Md_on se_Md_on rfl (by decide) rfl (by decide) d_L_law_558 hM.1 (k_Md_on hM (fun j hj => by rw [hfr 114 (by omega)]; exact hF j hj) (by rw [hfr 114 (by omega)]; exact hh)) rfl (Nat.le_of_ble_eq_true rfl) (by omega) (by omega) (by omega) (fun v' S' I3 J3 hq => ?_)
  subst hq
  refine r_icmp_eq (pc := 561) (tgt := 1275) d_L_law_561 (by decide) (fun _ => ?_) (fun c => absurd e_on c)
  exact kend _ _ _
theorem lw_case12 (hC : qFc S I) (hD : qFm S I) (hs : qsl E = 6) (kend : qEnd E Q) : qW E y_L_law b_L_law (some .boolean) 1312 600000 7302250 Q 148 3767 566 [some (.ref (qsc E)), some (.ref (qb E + 0)), some (.ref (qb E + 114)), some (.int 0)] [] S I J := by
  obtain ⟨hM, hF, hh, hTs, hTz⟩ := hD
  refine lda_n_4_1 (pc := 566) d_L_law_566 ?_
  refine lda_n_4_0 (pc := 567) d_L_law_567 ?_
  refine ldi_n_4_3 (pc := 568) d_L_law_568 ?_
  refine r_iconst (pc := 569) (v := 1) d_L_law_569 rfl ?_
  refine r_iadd (pc := 570) d_L_law_570 ?_
  refine r_top (v := 1) (by decide) ?_
  refine r_sld (pc := 571) d_L_law_571 (by rw [hs]; unfold vp_in; decide) ?_
  refine r_top (v := (qsx E 1)) (by rfl) ?_
  refine r_callV (pc := 572) (As := [.int (qsx E 1)]) (k := 8) (N := 11) (T := T_On) k_L_66 im_On_turn se_On_turn rfl (by decide) rfl (by decide) d_L_law_572 hC.1.1 (k_On_turn hC) rfl (Nat.le_of_ble_eq_true rfl) (by omega) (by omega) (by omega) (fun v' S' I2 J2 hq => ?_)
  obtain ⟨rfl, rfl, hfr⟩ := hq
  refine lda_n_4_2 (pc := 575) d_L_law_575 ?_
  refine lda_n_4_0 (pc := 576) d_L_law_576 ?_
  refine ldi_n_4_3 (pc := 577) d_L_law_577 ?_
  refine r_iconst (pc := 578) (v := 1) d_L_law_578 rfl ?_
  refine r_iadd (pc := 579) d_L_law_579 ?_
  refine r_top (v := 1) (by decide) ?_
  refine r_sld (pc := 580) d_L_law_580 (by rw [hs]; unfold vp_in; decide) ?_
  refine r_top (v := (qsx E 1)) (by rfl) ?_
  refine r_callV (pc := 581) (As := [.int (qsx E 1)]) (k := 9) (N := 56) (T := T_Md) k_L_69 im_Md_turn se_Md_turn rfl (by decide) rfl (by decide) d_L_law_581 hM.1 (k_Md_turn hM (fun j hj => by rw [hfr 114 (by omega)]; exact hF j hj) (by rw [hfr 114 (by omega)]; exact hh)) rfl (Nat.le_of_ble_eq_true rfl) (by omega) (by omega) (by omega) (fun v' S' I3 J3 hq => ?_)
  subst hq
  refine r_icmp_eq (pc := 584) (tgt := 1275) d_L_law_584 (by decide) (fun _ => ?_) (fun c => absurd e_turn c)
  exact kend _ _ _
theorem lw_case13 (hC : qFc S I) (hD : qFm S I) (hs : qsl E = 6) (kend : qEnd E Q) : qW E y_L_law b_L_law (some .boolean) 1312 600000 7302250 Q 148 3767 589 [some (.ref (qsc E)), some (.ref (qb E + 0)), some (.ref (qb E + 114)), some (.int 0)] [] S I J := by
  obtain ⟨hM, hF, hh, hTs, hTz⟩ := hD
  refine lda_n_4_1 (pc := 589) d_L_law_589 ?_
  refine r_callV (pc := 590) (As := []) (k := 8) (N := 11) (T := T_On) k_L_70 im_On_empty se_On_empty rfl (by decide) rfl (by decide) d_L_law_590 hC.1.1 (k_On_empty hC) rfl (Nat.le_of_ble_eq_true rfl) (by omega) (by omega) (by omega) (fun v' S' I2 J2 hq => ?_)
  obtain ⟨rfl, rfl, hfr⟩ := hq
  refine lda_n_4_2 (pc := 593) d_L_law_593 ?_
  refine r_callV (pc := 594) (As := []) (k := 9) (N := 56) (T := T_Md) k_L_73 im_Md_empty se_Md_empty rfl (by decide) rfl (by decide) d_L_law_594 hM.1 (k_Md_empty hM (fun j hj => by rw [hfr 114 (by omega)]; exact hF j hj) (by rw [hfr 114 (by omega)]; exact hh)) rfl (Nat.le_of_ble_eq_true rfl) (by omega) (by omega) (by omega) (fun v' S' I3 J3 hq => ?_)
  subst hq
  refine r_icmp_eq (pc := 597) (tgt := 1275) d_L_law_597 (by decide) (fun _ => ?_) (fun c => absurd e_empty c)
  exact kend _ _ _
theorem lw_case14 (hC : qFc S I) (hD : qFm S I) (hs : qsl E = 6) (kend : qEnd E Q) : qW E y_L_law b_L_law (some .boolean) 1312 600000 7302250 Q 148 3767 602 [some (.ref (qsc E)), some (.ref (qb E + 0)), some (.ref (qb E + 114)), some (.int 0)] [] S I J := by
  obtain ⟨hM, hF, hh, hTs, hTz⟩ := hD
  refine lda_n_4_1 (pc := 602) d_L_law_602 ?_
  refine lda_n_4_0 (pc := 603) d_L_law_603 ?_
  refine ldi_n_4_3 (pc := 604) d_L_law_604 ?_
  refine r_iconst (pc := 605) (v := 1) d_L_law_605 rfl ?_
  refine r_iadd (pc := 606) d_L_law_606 ?_
  refine r_top (v := 1) (by decide) ?_
  refine r_sld (pc := 607) d_L_law_607 (by rw [hs]; unfold vp_in; decide) ?_
  refine r_top (v := (qsx E 1)) (by rfl) ?_
  refine lda_n_4_0 (pc := 608) d_L_law_608 ?_
  refine ldi_n_4_3 (pc := 609) d_L_law_609 ?_
  refine r_iconst (pc := 610) (v := 2) d_L_law_610 rfl ?_
  refine r_iadd (pc := 611) d_L_law_611 ?_
  refine r_top (v := 2) (by decide) ?_
  refine r_sld (pc := 612) d_L_law_612 (by rw [hs]; unfold vp_in; decide) ?_
  refine r_top (v := (qsx E 2)) (by rfl) ?_
  refine r_callV (pc := 613) (As := [.int (qsx E 1), .int (qsx E 2)]) (k := 8) (N := 11) (T := T_On) k_L_74 im_On_best se_On_best rfl (by decide) rfl (by decide) d_L_law_613 hC.1.1 (k_On_best hC) rfl (Nat.le_of_ble_eq_true rfl) (by omega) (by omega) (by omega) (fun v' S' I2 J2 hq => ?_)
  obtain ⟨rfl, rfl, hfr⟩ := hq
  refine lda_n_4_2 (pc := 616) d_L_law_616 ?_
  refine lda_n_4_0 (pc := 617) d_L_law_617 ?_
  refine ldi_n_4_3 (pc := 618) d_L_law_618 ?_
  refine r_iconst (pc := 619) (v := 1) d_L_law_619 rfl ?_
  refine r_iadd (pc := 620) d_L_law_620 ?_
  refine r_top (v := 1) (by decide) ?_
  refine r_sld (pc := 621) d_L_law_621 (by rw [hs]; unfold vp_in; decide) ?_
  refine r_top (v := (qsx E 1)) (by rfl) ?_
  refine lda_n_4_0 (pc := 622) d_L_law_622 ?_
  refine ldi_n_4_3 (pc := 623) d_L_law_623 ?_
  refine r_iconst (pc := 624) (v := 2) d_L_law_624 rfl ?_
  refine r_iadd (pc := 625) d_L_law_625 ?_
  refine r_top (v := 2) (by decide) ?_
  refine r_sld (pc := 626) d_L_law_626 (by rw [hs]; unfold vp_in; decide) ?_
  refine r_top (v := (qsx E 2)) (by rfl) ?_
  refine r_callV (pc := 627) (As := [.int (qsx E 1), .int (qsx E 2)]) (k := 9) (N := 56) (T := T_Md) k_L_77 im_Md_best se_Md_best rfl (by decide) rfl (by decide) d_L_law_627 hM.1 (k_Md_best hM (fun j hj => by rw [hfr 114 (by omega)]; exact hF j hj) (by rw [hfr 114 (by omega)]; exact hh)) rfl (Nat.le_of_ble_eq_true rfl) (by omega) (by omega) (by omega) (fun v' S' I3 J3 hq => ?_)
  subst hq
  refine r_icmp_eq (pc := 630) (tgt := 1275) d_L_law_630 (by decide) (fun _ => ?_) (fun c => absurd e_best c)
  exact kend _ _ _
theorem lw_case15 (hC : qFc S I) (hD : qFm S I) (hs : qsl E = 6) (kend : qEnd E Q) : qW E y_L_law b_L_law (some .boolean) 1312 600000 7302250 Q 148 3767 635 [some (.ref (qsc E)), some (.ref (qb E + 0)), some (.ref (qb E + 114)), some (.int 0)] [] S I J := by
  obtain ⟨hM, hF, hh, hTs, hTz⟩ := hD
  refine lda_n_4_1 (pc := 635) d_L_law_635 ?_
  refine lda_n_4_0 (pc := 636) d_L_law_636 ?_
  refine ldi_n_4_3 (pc := 637) d_L_law_637 ?_
  refine r_iconst (pc := 638) (v := 1) d_L_law_638 rfl ?_
  refine r_iadd (pc := 639) d_L_law_639 ?_
  refine r_top (v := 1) (by decide) ?_
  refine r_sld (pc := 640) d_L_law_640 (by rw [hs]; unfold vp_in; decide) ?_
  refine r_top (v := (qsx E 1)) (by rfl) ?_
  refine lda_n_4_0 (pc := 641) d_L_law_641 ?_
  refine ldi_n_4_3 (pc := 642) d_L_law_642 ?_
  refine r_iconst (pc := 643) (v := 2) d_L_law_643 rfl ?_
  refine r_iadd (pc := 644) d_L_law_644 ?_
  refine r_top (v := 2) (by decide) ?_
  refine r_sld (pc := 645) d_L_law_645 (by rw [hs]; unfold vp_in; decide) ?_
  refine r_top (v := (qsx E 2)) (by rfl) ?_
  refine lda_n_4_0 (pc := 646) d_L_law_646 ?_
  refine ldi_n_4_3 (pc := 647) d_L_law_647 ?_
  refine r_iconst (pc := 648) (v := 3) d_L_law_648 rfl ?_
  refine r_iadd (pc := 649) d_L_law_649 ?_
  refine r_top (v := 3) (by decide) ?_
  refine r_sld (pc := 650) d_L_law_650 (by rw [hs]; unfold vp_in; decide) ?_
  refine r_top (v := (qsx E 3)) (by rfl) ?_
  refine r_callV (pc := 651) (As := [.int (qsx E 1), .int (qsx E 2), .int (qsx E 3)]) (k := 8) (N := 11) (T := T_On) k_L_78 im_On_see se_On_see rfl (by decide) rfl (by decide) d_L_law_651 hC.1.1 (k_On_see hC) rfl (Nat.le_of_ble_eq_true rfl) (by omega) (by omega) (by omega) (fun v' S' I2 J2 hq => ?_)
  obtain ⟨rfl, rfl, hfr⟩ := hq
  refine lda_n_4_2 (pc := 654) d_L_law_654 ?_
  refine lda_n_4_0 (pc := 655) d_L_law_655 ?_
  refine ldi_n_4_3 (pc := 656) d_L_law_656 ?_
  refine r_iconst (pc := 657) (v := 1) d_L_law_657 rfl ?_
  refine r_iadd (pc := 658) d_L_law_658 ?_
  refine r_top (v := 1) (by decide) ?_
  refine r_sld (pc := 659) d_L_law_659 (by rw [hs]; unfold vp_in; decide) ?_
  refine r_top (v := (qsx E 1)) (by rfl) ?_
  refine lda_n_4_0 (pc := 660) d_L_law_660 ?_
  refine ldi_n_4_3 (pc := 661) d_L_law_661 ?_
  refine r_iconst (pc := 662) (v := 2) d_L_law_662 rfl ?_
  refine r_iadd (pc := 663) d_L_law_663 ?_
  refine r_top (v := 2) (by decide) ?_
  refine r_sld (pc := 664) d_L_law_664 (by rw [hs]; unfold vp_in; decide) ?_
  refine r_top (v := (qsx E 2)) (by rfl) ?_
  refine lda_n_4_0 (pc := 665) d_L_law_665 ?_
  refine ldi_n_4_3 (pc := 666) d_L_law_666 ?_
  refine r_iconst (pc := 667) (v := 3) d_L_law_667 rfl ?_
  refine r_iadd (pc := 668) d_L_law_668 ?_
  refine r_top (v := 3) (by decide) ?_
  refine r_sld (pc := 669) d_L_law_669 (by rw [hs]; unfold vp_in; decide) ?_
  refine r_top (v := (qsx E 3)) (by rfl) ?_
  refine r_callV (pc := 670) (As := [.int (qsx E 1), .int (qsx E 2), .int (qsx E 3)]) (k := 9) (N := 56) (T := T_Md) k_L_81 im_Md_see se_Md_see rfl (by decide) rfl (by decide) d_L_law_670 hM.1 (k_Md_see hM (fun j hj => by rw [hfr 114 (by omega)]; exact hF j hj) (by rw [hfr 114 (by omega)]; exact hh)) rfl (Nat.le_of_ble_eq_true rfl) (by omega) (by omega) (by omega) (fun v' S' I3 J3 hq => ?_)
  subst hq
  refine r_icmp_eq (pc := 673) (tgt := 1275) d_L_law_673 (by decide) (fun _ => ?_) (fun c => absurd e_see c)
  exact kend _ _ _
theorem lw_case16 (hC : qFc S I) (hD : qFm S I) (hs : qsl E = 6) (kend : qEnd E Q) : qW E y_L_law b_L_law (some .boolean) 1312 600000 7302250 Q 148 3767 678 [some (.ref (qsc E)), some (.ref (qb E + 0)), some (.ref (qb E + 114)), some (.int 0)] [] S I J := by
  obtain ⟨hM, hF, hh, hTs, hTz⟩ := hD
  refine lda_n_4_1 (pc := 678) d_L_law_678 ?_
  refine lda_n_4_0 (pc := 679) d_L_law_679 ?_
  refine ldi_n_4_3 (pc := 680) d_L_law_680 ?_
  refine r_iconst (pc := 681) (v := 1) d_L_law_681 rfl ?_
  refine r_iadd (pc := 682) d_L_law_682 ?_
  refine r_top (v := 1) (by decide) ?_
  refine r_sld (pc := 683) d_L_law_683 (by rw [hs]; unfold vp_in; decide) ?_
  refine r_top (v := (qsx E 1)) (by rfl) ?_
  refine lda_n_4_0 (pc := 684) d_L_law_684 ?_
  refine ldi_n_4_3 (pc := 685) d_L_law_685 ?_
  refine r_iconst (pc := 686) (v := 2) d_L_law_686 rfl ?_
  refine r_iadd (pc := 687) d_L_law_687 ?_
  refine r_top (v := 2) (by decide) ?_
  refine r_sld (pc := 688) d_L_law_688 (by rw [hs]; unfold vp_in; decide) ?_
  refine r_top (v := (qsx E 2)) (by rfl) ?_
  refine lda_n_4_0 (pc := 689) d_L_law_689 ?_
  refine ldi_n_4_3 (pc := 690) d_L_law_690 ?_
  refine r_iconst (pc := 691) (v := 3) d_L_law_691 rfl ?_
  refine r_iadd (pc := 692) d_L_law_692 ?_
  refine r_top (v := 3) (by decide) ?_
  refine r_sld (pc := 693) d_L_law_693 (by rw [hs]; unfold vp_in; decide) ?_
  refine r_top (v := (qsx E 3)) (by rfl) ?_
  refine r_callV (pc := 694) (As := [.int (qsx E 1), .int (qsx E 2), .int (qsx E 3)]) (k := 8) (N := 11) (T := T_On) k_L_82 im_On_can se_On_can rfl (by decide) rfl (by decide) d_L_law_694 hC.1.1 (k_On_can hC) rfl (Nat.le_of_ble_eq_true rfl) (by omega) (by omega) (by omega) (fun v' S' I2 J2 hq => ?_)
  obtain ⟨rfl, rfl, hfr⟩ := hq
  refine lda_n_4_2 (pc := 697) d_L_law_697 ?_
  refine lda_n_4_0 (pc := 698) d_L_law_698 ?_
  refine ldi_n_4_3 (pc := 699) d_L_law_699 ?_
  refine r_iconst (pc := 700) (v := 1) d_L_law_700 rfl ?_
  refine r_iadd (pc := 701) d_L_law_701 ?_
  refine r_top (v := 1) (by decide) ?_
  refine r_sld (pc := 702) d_L_law_702 (by rw [hs]; unfold vp_in; decide) ?_
  refine r_top (v := (qsx E 1)) (by rfl) ?_
  refine lda_n_4_0 (pc := 703) d_L_law_703 ?_
  refine ldi_n_4_3 (pc := 704) d_L_law_704 ?_
  refine r_iconst (pc := 705) (v := 2) d_L_law_705 rfl ?_
  refine r_iadd (pc := 706) d_L_law_706 ?_
  refine r_top (v := 2) (by decide) ?_
  refine r_sld (pc := 707) d_L_law_707 (by rw [hs]; unfold vp_in; decide) ?_
  refine r_top (v := (qsx E 2)) (by rfl) ?_
  refine lda_n_4_0 (pc := 708) d_L_law_708 ?_
  refine ldi_n_4_3 (pc := 709) d_L_law_709 ?_
  refine r_iconst (pc := 710) (v := 3) d_L_law_710 rfl ?_
  refine r_iadd (pc := 711) d_L_law_711 ?_
  refine r_top (v := 3) (by decide) ?_
  refine r_sld (pc := 712) d_L_law_712 (by rw [hs]; unfold vp_in; decide) ?_
  refine r_top (v := (qsx E 3)) (by rfl) ?_
  refine r_callV (pc := 713) (As := [.int (qsx E 1), .int (qsx E 2), .int (qsx E 3)]) (k := 9) (N := 56) (T := T_Md) k_L_85 im_Md_can se_Md_can rfl (by decide) rfl (by decide) d_L_law_713 hM.1 (k_Md_can hM (fun j hj => by rw [hfr 114 (by omega)]; exact hF j hj) (by rw [hfr 114 (by omega)]; exact hh)) rfl (Nat.le_of_ble_eq_true rfl) (by omega) (by omega) (by omega) (fun v' S' I3 J3 hq => ?_)
  subst hq
  refine r_icmp_eq (pc := 716) (tgt := 1275) d_L_law_716 (by decide) (fun _ => ?_) (fun c => absurd e_can c)
  exact kend _ _ _
theorem lw_case17 (hC : qFc S I) (hD : qFm S I) (hs : qsl E = 6) (kend : qEnd E Q) : qW E y_L_law b_L_law (some .boolean) 1312 600000 7302250 Q 148 3767 721 [some (.ref (qsc E)), some (.ref (qb E + 0)), some (.ref (qb E + 114)), some (.int 0)] [] S I J := by
  obtain ⟨hM, hF, hh, hTs, hTz⟩ := hD
  refine lda_n_4_1 (pc := 721) d_L_law_721 ?_
  refine lda_n_4_0 (pc := 722) d_L_law_722 ?_
  refine ldi_n_4_3 (pc := 723) d_L_law_723 ?_
  refine r_iconst (pc := 724) (v := 1) d_L_law_724 rfl ?_
  refine r_iadd (pc := 725) d_L_law_725 ?_
  refine r_top (v := 1) (by decide) ?_
  refine r_sld (pc := 726) d_L_law_726 (by rw [hs]; unfold vp_in; decide) ?_
  refine r_top (v := (qsx E 1)) (by rfl) ?_
  refine lda_n_4_0 (pc := 727) d_L_law_727 ?_
  refine ldi_n_4_3 (pc := 728) d_L_law_728 ?_
  refine r_iconst (pc := 729) (v := 2) d_L_law_729 rfl ?_
  refine r_iadd (pc := 730) d_L_law_730 ?_
  refine r_top (v := 2) (by decide) ?_
  refine r_sld (pc := 731) d_L_law_731 (by rw [hs]; unfold vp_in; decide) ?_
  refine r_top (v := (qsx E 2)) (by rfl) ?_
  refine r_callV (pc := 732) (As := [.int (qsx E 1), .int (qsx E 2)]) (k := 8) (N := 11) (T := T_On) k_L_86 im_On_odds se_On_odds rfl (by decide) rfl (by decide) d_L_law_732 hC.1.1 (k_On_odds hC) rfl (Nat.le_of_ble_eq_true rfl) (by omega) (by omega) (by omega) (fun v' S' I2 J2 hq => ?_)
  obtain ⟨rfl, rfl, hfr⟩ := hq
  refine lda_n_4_2 (pc := 735) d_L_law_735 ?_
  refine lda_n_4_0 (pc := 736) d_L_law_736 ?_
  refine ldi_n_4_3 (pc := 737) d_L_law_737 ?_
  refine r_iconst (pc := 738) (v := 1) d_L_law_738 rfl ?_
  refine r_iadd (pc := 739) d_L_law_739 ?_
  refine r_top (v := 1) (by decide) ?_
  refine r_sld (pc := 740) d_L_law_740 (by rw [hs]; unfold vp_in; decide) ?_
  refine r_top (v := (qsx E 1)) (by rfl) ?_
  refine lda_n_4_0 (pc := 741) d_L_law_741 ?_
  refine ldi_n_4_3 (pc := 742) d_L_law_742 ?_
  refine r_iconst (pc := 743) (v := 2) d_L_law_743 rfl ?_
  refine r_iadd (pc := 744) d_L_law_744 ?_
  refine r_top (v := 2) (by decide) ?_
  refine r_sld (pc := 745) d_L_law_745 (by rw [hs]; unfold vp_in; decide) ?_
  refine r_top (v := (qsx E 2)) (by rfl) ?_
  refine r_callV (pc := 746) (As := [.int (qsx E 1), .int (qsx E 2)]) (k := 9) (N := 56) (T := T_Md) k_L_90 im_Md_odds se_Md_odds rfl (by decide) rfl (by decide) d_L_law_746 hM.1 (k_Md_odds hM (fun j hj => by rw [hfr 114 (by omega)]; exact hF j hj) (by rw [hfr 114 (by omega)]; exact hh)) rfl (Nat.le_of_ble_eq_true rfl) (by omega) (by omega) (by omega) (fun v' S' I3 J3 hq => ?_)
  subst hq
  refine r_lcmp (pc := 749) d_L_law_749 ?_
  refine r_if_eq (pc := 750) (tgt := 1275) d_L_law_750 (by decide) (fun _ => ?_) (fun c => absurd (lcmp_self e_odds) c)
  exact kend _ _ _
theorem lw_case18 (hC : qFc S I) (hD : qFm S I) (hs : qsl E = 6) (kend : qEnd E Q) : qW E y_L_law b_L_law (some .boolean) 1312 600000 7302250 Q 148 3767 755 [some (.ref (qsc E)), some (.ref (qb E + 0)), some (.ref (qb E + 114)), some (.int 0)] [] S I J := by
  obtain ⟨hM, hF, hh, hTs, hTz⟩ := hD
  refine lda_n_4_1 (pc := 755) d_L_law_755 ?_
  refine lda_n_4_0 (pc := 756) d_L_law_756 ?_
  refine ldi_n_4_3 (pc := 757) d_L_law_757 ?_
  refine r_iconst (pc := 758) (v := 1) d_L_law_758 rfl ?_
  refine r_iadd (pc := 759) d_L_law_759 ?_
  refine r_top (v := 1) (by decide) ?_
  refine r_sld (pc := 760) d_L_law_760 (by rw [hs]; unfold vp_in; decide) ?_
  refine r_top (v := (qsx E 1)) (by rfl) ?_
  refine r_callV (pc := 761) (As := [.int (qsx E 1)]) (k := 8) (N := 11) (T := T_On) k_L_91 im_On_mean se_On_mean rfl (by decide) rfl (by decide) d_L_law_761 hC.1.1 (k_On_mean hC) rfl (Nat.le_of_ble_eq_true rfl) (by omega) (by omega) (by omega) (fun v' S' I2 J2 hq => ?_)
  obtain ⟨rfl, rfl, hfr⟩ := hq
  refine lda_n_4_2 (pc := 764) d_L_law_764 ?_
  refine lda_n_4_0 (pc := 765) d_L_law_765 ?_
  refine ldi_n_4_3 (pc := 766) d_L_law_766 ?_
  refine r_iconst (pc := 767) (v := 1) d_L_law_767 rfl ?_
  refine r_iadd (pc := 768) d_L_law_768 ?_
  refine r_top (v := 1) (by decide) ?_
  refine r_sld (pc := 769) d_L_law_769 (by rw [hs]; unfold vp_in; decide) ?_
  refine r_top (v := (qsx E 1)) (by rfl) ?_
  refine r_callV (pc := 770) (As := [.int (qsx E 1)]) (k := 9) (N := 56) (T := T_Md) k_L_95 im_Md_mean se_Md_mean rfl (by decide) rfl (by decide) d_L_law_770 hM.1 (k_Md_mean hM (fun j hj => by rw [hfr 114 (by omega)]; exact hF j hj) (by rw [hfr 114 (by omega)]; exact hh)) rfl (Nat.le_of_ble_eq_true rfl) (by omega) (by omega) (by omega) (fun v' S' I3 J3 hq => ?_)
  subst hq
  refine r_lcmp (pc := 773) d_L_law_773 ?_
  refine r_if_eq (pc := 774) (tgt := 1275) d_L_law_774 (by decide) (fun _ => ?_) (fun c => absurd (lcmp_self e_mean) c)
  exact kend _ _ _
theorem lw_case19 (hC : qFc S I) (hD : qFm S I) (hs : qsl E = 6) (kend : qEnd E Q) : qW E y_L_law b_L_law (some .boolean) 1312 600000 7302250 Q 148 3767 779 [some (.ref (qsc E)), some (.ref (qb E + 0)), some (.ref (qb E + 114)), some (.int 0)] [] S I J := by
  obtain ⟨hM, hF, hh, hTs, hTz⟩ := hD
  refine lda_n_4_1 (pc := 779) d_L_law_779 ?_
  refine lda_n_4_0 (pc := 780) d_L_law_780 ?_
  refine ldi_n_4_3 (pc := 781) d_L_law_781 ?_
  refine r_iconst (pc := 782) (v := 1) d_L_law_782 rfl ?_
  refine r_iadd (pc := 783) d_L_law_783 ?_
  refine r_top (v := 1) (by decide) ?_
  refine r_sld (pc := 784) d_L_law_784 (by rw [hs]; unfold vp_in; decide) ?_
  refine r_top (v := (qsx E 1)) (by rfl) ?_
  refine lda_n_4_0 (pc := 785) d_L_law_785 ?_
  refine ldi_n_4_3 (pc := 786) d_L_law_786 ?_
  refine r_iconst (pc := 787) (v := 2) d_L_law_787 rfl ?_
  refine r_iadd (pc := 788) d_L_law_788 ?_
  refine r_top (v := 2) (by decide) ?_
  refine r_sld (pc := 789) d_L_law_789 (by rw [hs]; unfold vp_in; decide) ?_
  refine r_top (v := (qsx E 2)) (by rfl) ?_
  refine r_callV (pc := 790) (As := [.int (qsx E 1), .int (qsx E 2)]) (k := 8) (N := 11) (T := T_On) k_L_96 im_On_plan se_On_plan rfl (by decide) rfl (by decide) d_L_law_790 hC.1.1 (k_On_plan hC) rfl (Nat.le_of_ble_eq_true rfl) (by omega) (by omega) (by omega) (fun v' S' I2 J2 hq => ?_)
  obtain ⟨rfl, rfl, hfr⟩ := hq
  refine lda_n_4_2 (pc := 793) d_L_law_793 ?_
  refine lda_n_4_0 (pc := 794) d_L_law_794 ?_
  refine ldi_n_4_3 (pc := 795) d_L_law_795 ?_
  refine r_iconst (pc := 796) (v := 1) d_L_law_796 rfl ?_
  refine r_iadd (pc := 797) d_L_law_797 ?_
  refine r_top (v := 1) (by decide) ?_
  refine r_sld (pc := 798) d_L_law_798 (by rw [hs]; unfold vp_in; decide) ?_
  refine r_top (v := (qsx E 1)) (by rfl) ?_
  refine lda_n_4_0 (pc := 799) d_L_law_799 ?_
  refine ldi_n_4_3 (pc := 800) d_L_law_800 ?_
  refine r_iconst (pc := 801) (v := 2) d_L_law_801 rfl ?_
  refine r_iadd (pc := 802) d_L_law_802 ?_
  refine r_top (v := 2) (by decide) ?_
  refine r_sld (pc := 803) d_L_law_803 (by rw [hs]; unfold vp_in; decide) ?_
  refine r_top (v := (qsx E 2)) (by rfl) ?_
  refine r_callV (pc := 804) (As := [.int (qsx E 1), .int (qsx E 2)]) (k := 9) (N := 56) (T := T_Md) k_L_99 im_Md_plan se_Md_plan rfl (by decide) rfl (by decide) d_L_law_804 hM.1 (k_Md_plan hM (fun j hj => by rw [hfr 114 (by omega)]; exact hF j hj) (by rw [hfr 114 (by omega)]; exact hh)) rfl (Nat.le_of_ble_eq_true rfl) (by omega) (by omega) (by omega) (fun v' S' I3 J3 hq => ?_)
  subst hq
  refine r_icmp_eq (pc := 807) (tgt := 1275) d_L_law_807 (by decide) (fun _ => ?_) (fun c => absurd e_plan c)
  exact kend _ _ _
theorem lw_case20 (hC : qFc S I) (hD : qFm S I) (hs : qsl E = 6) (kend : qEnd E Q) : qW E y_L_law b_L_law (some .boolean) 1312 600000 7302250 Q 148 3767 812 [some (.ref (qsc E)), some (.ref (qb E + 0)), some (.ref (qb E + 114)), some (.int 0)] [] S I J := by
  obtain ⟨hM, hF, hh, hTs, hTz⟩ := hD
  refine lda_n_4_1 (pc := 812) d_L_law_812 ?_
  refine lda_n_4_0 (pc := 813) d_L_law_813 ?_
  refine ldi_n_4_3 (pc := 814) d_L_law_814 ?_
  refine r_iconst (pc := 815) (v := 1) d_L_law_815 rfl ?_
  refine r_iadd (pc := 816) d_L_law_816 ?_
  refine r_top (v := 1) (by decide) ?_
  refine r_sld (pc := 817) d_L_law_817 (by rw [hs]; unfold vp_in; decide) ?_
  refine r_top (v := (qsx E 1)) (by rfl) ?_
  refine r_callV (pc := 818) (As := [.int (qsx E 1)]) (k := 8) (N := 11) (T := T_On) k_L_100 im_On_ends se_On_ends rfl (by decide) rfl (by decide) d_L_law_818 hC.1.1 (k_On_ends hC) rfl (Nat.le_of_ble_eq_true rfl) (by omega) (by omega) (by omega) (fun v' S' I2 J2 hq => ?_)
  obtain ⟨rfl, rfl, hfr⟩ := hq
  refine lda_n_4_2 (pc := 821) d_L_law_821 ?_
  refine lda_n_4_0 (pc := 822) d_L_law_822 ?_
  refine ldi_n_4_3 (pc := 823) d_L_law_823 ?_
  refine r_iconst (pc := 824) (v := 1) d_L_law_824 rfl ?_
  refine r_iadd (pc := 825) d_L_law_825 ?_
  refine r_top (v := 1) (by decide) ?_
  refine r_sld (pc := 826) d_L_law_826 (by rw [hs]; unfold vp_in; decide) ?_
  refine r_top (v := (qsx E 1)) (by rfl) ?_
  refine r_callV (pc := 827) (As := [.int (qsx E 1)]) (k := 9) (N := 56) (T := T_Md) k_L_103 im_Md_ends se_Md_ends rfl (by decide) rfl (by decide) d_L_law_827 hM.1 (k_Md_ends hM (fun j hj => by rw [hfr 114 (by omega)]; exact hF j hj) (by rw [hfr 114 (by omega)]; exact hh)) rfl (Nat.le_of_ble_eq_true rfl) (by omega) (by omega) (by omega) (fun v' S' I3 J3 hq => ?_)
  subst hq
  refine r_icmp_eq (pc := 830) (tgt := 1275) d_L_law_830 (by decide) (fun _ => ?_) (fun c => absurd e_ends c)
  exact kend _ _ _
theorem lw_case21 (hC : qFc S I) (hD : qFm S I) (hs : qsl E = 6) (kend : qEnd E Q) : qW E y_L_law b_L_law (some .boolean) 1312 600000 7302250 Q 148 3767 835 [some (.ref (qsc E)), some (.ref (qb E + 0)), some (.ref (qb E + 114)), some (.int 0)] [] S I J := by
  obtain ⟨hM, hF, hh, hTs, hTz⟩ := hD
  refine lda_n_4_1 (pc := 835) d_L_law_835 ?_
  refine lda_n_4_0 (pc := 836) d_L_law_836 ?_
  refine ldi_n_4_3 (pc := 837) d_L_law_837 ?_
  refine r_iconst (pc := 838) (v := 1) d_L_law_838 rfl ?_
  refine r_iadd (pc := 839) d_L_law_839 ?_
  refine r_top (v := 1) (by decide) ?_
  refine r_sld (pc := 840) d_L_law_840 (by rw [hs]; unfold vp_in; decide) ?_
  refine r_top (v := (qsx E 1)) (by rfl) ?_
  refine lda_n_4_0 (pc := 841) d_L_law_841 ?_
  refine ldi_n_4_3 (pc := 842) d_L_law_842 ?_
  refine r_iconst (pc := 843) (v := 2) d_L_law_843 rfl ?_
  refine r_iadd (pc := 844) d_L_law_844 ?_
  refine r_top (v := 2) (by decide) ?_
  refine r_sld (pc := 845) d_L_law_845 (by rw [hs]; unfold vp_in; decide) ?_
  refine r_top (v := (qsx E 2)) (by rfl) ?_
  refine r_callV (pc := 846) (As := [.int (qsx E 1), .int (qsx E 2)]) (k := 8) (N := 11) (T := T_On) k_L_104 im_On_book se_On_book rfl (by decide) rfl (by decide) d_L_law_846 hC.1.1 (k_On_book hC) rfl (Nat.le_of_ble_eq_true rfl) (by omega) (by omega) (by omega) (fun v' S' I2 J2 hq => ?_)
  obtain ⟨rfl, rfl, hfr⟩ := hq
  refine lda_n_4_2 (pc := 849) d_L_law_849 ?_
  refine lda_n_4_0 (pc := 850) d_L_law_850 ?_
  refine ldi_n_4_3 (pc := 851) d_L_law_851 ?_
  refine r_iconst (pc := 852) (v := 1) d_L_law_852 rfl ?_
  refine r_iadd (pc := 853) d_L_law_853 ?_
  refine r_top (v := 1) (by decide) ?_
  refine r_sld (pc := 854) d_L_law_854 (by rw [hs]; unfold vp_in; decide) ?_
  refine r_top (v := (qsx E 1)) (by rfl) ?_
  refine lda_n_4_0 (pc := 855) d_L_law_855 ?_
  refine ldi_n_4_3 (pc := 856) d_L_law_856 ?_
  refine r_iconst (pc := 857) (v := 2) d_L_law_857 rfl ?_
  refine r_iadd (pc := 858) d_L_law_858 ?_
  refine r_top (v := 2) (by decide) ?_
  refine r_sld (pc := 859) d_L_law_859 (by rw [hs]; unfold vp_in; decide) ?_
  refine r_top (v := (qsx E 2)) (by rfl) ?_
  refine r_callV (pc := 860) (As := [.int (qsx E 1), .int (qsx E 2)]) (k := 9) (N := 56) (T := T_Md) k_L_107 im_Md_book se_Md_book rfl (by decide) rfl (by decide) d_L_law_860 hM.1 (k_Md_book hM (fun j hj => by rw [hfr 114 (by omega)]; exact hF j hj) (by rw [hfr 114 (by omega)]; exact hh)) rfl (Nat.le_of_ble_eq_true rfl) (by omega) (by omega) (by omega) (fun v' S' I3 J3 hq => ?_)
  subst hq
  refine r_icmp_eq (pc := 863) (tgt := 1275) d_L_law_863 (by decide) (fun _ => ?_) (fun c => absurd e_book c)
  exact kend _ _ _
theorem lw_case22 (hC : qFc S I) (hD : qFm S I) (hs : qsl E = 6) (kend : qEnd E Q) : qW E y_L_law b_L_law (some .boolean) 1312 600000 7302250 Q 148 3767 868 [some (.ref (qsc E)), some (.ref (qb E + 0)), some (.ref (qb E + 114)), some (.int 0)] [] S I J := by
  obtain ⟨hM, hF, hh, hTs, hTz⟩ := hD
  refine lda_n_4_1 (pc := 868) d_L_law_868 ?_
  refine r_callV (pc := 869) (As := []) (k := 8) (N := 11) (T := T_On) k_L_108 im_On_looked se_On_looked rfl (by decide) rfl (by decide) d_L_law_869 hC.1.1 (k_On_looked hC) rfl (Nat.le_of_ble_eq_true rfl) (by omega) (by omega) (by omega) (fun v' S' I2 J2 hq => ?_)
  obtain ⟨rfl, rfl, hfr⟩ := hq
  refine lda_n_4_2 (pc := 872) d_L_law_872 ?_
  refine r_callV (pc := 873) (As := []) (k := 9) (N := 56) (T := T_Md) k_L_111 im_Md_looked se_Md_looked rfl (by decide) rfl (by decide) d_L_law_873 hM.1 (k_Md_looked hM (fun j hj => by rw [hfr 114 (by omega)]; exact hF j hj) (by rw [hfr 114 (by omega)]; exact hh)) rfl (Nat.le_of_ble_eq_true rfl) (by omega) (by omega) (by omega) (fun v' S' I3 J3 hq => ?_)
  subst hq
  refine r_icmp_eq (pc := 876) (tgt := 1275) d_L_law_876 (by decide) (fun _ => ?_) (fun c => absurd e_looked c)
  exact kend _ _ _
theorem lw_case23 (hC : qFc S I) (hD : qFm S I) (hs : qsl E = 6) (kend : qEnd E Q) : qW E y_L_law b_L_law (some .boolean) 1312 600000 7302250 Q 148 3767 881 [some (.ref (qsc E)), some (.ref (qb E + 0)), some (.ref (qb E + 114)), some (.int 0)] [] S I J := by
  obtain ⟨hM, hF, hh, hTs, hTz⟩ := hD
  refine lda_n_4_1 (pc := 881) d_L_law_881 ?_
  refine lda_n_4_0 (pc := 882) d_L_law_882 ?_
  refine ldi_n_4_3 (pc := 883) d_L_law_883 ?_
  refine r_iconst (pc := 884) (v := 1) d_L_law_884 rfl ?_
  refine r_iadd (pc := 885) d_L_law_885 ?_
  refine r_top (v := 1) (by decide) ?_
  refine r_sld (pc := 886) d_L_law_886 (by rw [hs]; unfold vp_in; decide) ?_
  refine r_top (v := (qsx E 1)) (by rfl) ?_
  refine lda_n_4_0 (pc := 887) d_L_law_887 ?_
  refine ldi_n_4_3 (pc := 888) d_L_law_888 ?_
  refine r_iconst (pc := 889) (v := 2) d_L_law_889 rfl ?_
  refine r_iadd (pc := 890) d_L_law_890 ?_
  refine r_top (v := 2) (by decide) ?_
  refine r_sld (pc := 891) d_L_law_891 (by rw [hs]; unfold vp_in; decide) ?_
  refine r_top (v := (qsx E 2)) (by rfl) ?_
  refine r_callV (pc := 892) (As := [.int (qsx E 1), .int (qsx E 2)]) (k := 8) (N := 11) (T := T_On) k_L_112 im_On_judge se_On_judge rfl (by decide) rfl (by decide) d_L_law_892 hC.1.1 (k_On_judge hC) rfl (Nat.le_of_ble_eq_true rfl) (by omega) (by omega) (by omega) (fun v' S' I2 J2 hq => ?_)
  obtain ⟨rfl, rfl, hfr⟩ := hq
  refine lda_n_4_2 (pc := 895) d_L_law_895 ?_
  refine lda_n_4_0 (pc := 896) d_L_law_896 ?_
  refine ldi_n_4_3 (pc := 897) d_L_law_897 ?_
  refine r_iconst (pc := 898) (v := 1) d_L_law_898 rfl ?_
  refine r_iadd (pc := 899) d_L_law_899 ?_
  refine r_top (v := 1) (by decide) ?_
  refine r_sld (pc := 900) d_L_law_900 (by rw [hs]; unfold vp_in; decide) ?_
  refine r_top (v := (qsx E 1)) (by rfl) ?_
  refine lda_n_4_0 (pc := 901) d_L_law_901 ?_
  refine ldi_n_4_3 (pc := 902) d_L_law_902 ?_
  refine r_iconst (pc := 903) (v := 2) d_L_law_903 rfl ?_
  refine r_iadd (pc := 904) d_L_law_904 ?_
  refine r_top (v := 2) (by decide) ?_
  refine r_sld (pc := 905) d_L_law_905 (by rw [hs]; unfold vp_in; decide) ?_
  refine r_top (v := (qsx E 2)) (by rfl) ?_
  refine r_callV (pc := 906) (As := [.int (qsx E 1), .int (qsx E 2)]) (k := 9) (N := 56) (T := T_Md) k_L_115 im_Md_judge se_Md_judge rfl (by decide) rfl (by decide) d_L_law_906 hM.1 (k_Md_judge hM (fun j hj => by rw [hfr 114 (by omega)]; exact hF j hj) (by rw [hfr 114 (by omega)]; exact hh) (fun t ht => by rw [hfr 145 (by omega)]; exact hTs t ht) (fun t ht => by rw [hfr 146 (by omega)]; exact hTz t ht)) rfl (Nat.le_of_ble_eq_true rfl) (by omega) (by omega) (by omega) (fun v' S' I3 J3 hq => ?_)
  subst hq
  refine r_icmp_eq (pc := 909) (tgt := 1275) d_L_law_909 (by decide) (fun _ => ?_) (fun c => absurd e_judge c)
  exact kend _ _ _
theorem lw_case24 (hC : qFc S I) (hD : qFm S I) (hs : qsl E = 6) (kend : qEnd E Q) : qW E y_L_law b_L_law (some .boolean) 1312 600000 7302250 Q 148 3767 914 [some (.ref (qsc E)), some (.ref (qb E + 0)), some (.ref (qb E + 114)), some (.int 0)] [] S I J := by
  obtain ⟨hM, hF, hh, hTs, hTz⟩ := hD
  refine lda_n_4_1 (pc := 914) d_L_law_914 ?_
  refine r_callV (pc := 915) (As := []) (k := 8) (N := 11) (T := T_On) k_L_116 im_On_image se_On_image rfl (by decide) rfl (by decide) d_L_law_915 hC.1.1 (k_On_image hC) rfl (Nat.le_of_ble_eq_true rfl) (by omega) (by omega) (by omega) (fun v' S' I2 J2 hq => ?_)
  obtain ⟨rfl, rfl, hfr⟩ := hq
  refine lda_n_4_2 (pc := 918) d_L_law_918 ?_
  refine r_callV (pc := 919) (As := []) (k := 9) (N := 56) (T := T_Md) k_L_119 im_Md_image se_Md_image rfl (by decide) rfl (by decide) d_L_law_919 hM.1 (k_Md_image hM (fun j hj => by rw [hfr 114 (by omega)]; exact hF j hj) (by rw [hfr 114 (by omega)]; exact hh)) rfl (Nat.le_of_ble_eq_true rfl) (by omega) (by omega) (by omega) (fun v' S' I3 J3 hq => ?_)
  subst hq
  refine r_icmp_eq (pc := 922) (tgt := 1275) d_L_law_922 (by decide) (fun _ => ?_) (fun c => absurd e_image c)
  exact kend _ _ _
theorem lw_case25 (hC : qFc S I) (hD : qFm S I) (hs : qsl E = 6) (kend : qEnd E Q) : qW E y_L_law b_L_law (some .boolean) 1312 600000 7302250 Q 148 3767 927 [some (.ref (qsc E)), some (.ref (qb E + 0)), some (.ref (qb E + 114)), some (.int 0)] [] S I J := by
  obtain ⟨hM, hF, hh, hTs, hTz⟩ := hD
  refine lda_n_4_1 (pc := 927) d_L_law_927 ?_
  refine r_callV (pc := 928) (As := []) (k := 8) (N := 11) (T := T_On) k_L_120 im_On_undo se_On_undo rfl (by decide) rfl (by decide) d_L_law_928 hC.1.1 (k_On_undo hC) rfl (Nat.le_of_ble_eq_true rfl) (by omega) (by omega) (by omega) (fun v' S' I2 J2 hq => ?_)
  obtain ⟨rfl, rfl, hfr⟩ := hq
  refine lda_n_4_2 (pc := 931) d_L_law_931 ?_
  refine r_callV (pc := 932) (As := []) (k := 9) (N := 56) (T := T_Md) k_L_123 im_Md_undo se_Md_undo rfl (by decide) rfl (by decide) d_L_law_932 hM.1 (k_Md_undo hM (fun j hj => by rw [hfr 114 (by omega)]; exact hF j hj) (by rw [hfr 114 (by omega)]; exact hh)) rfl (Nat.le_of_ble_eq_true rfl) (by omega) (by omega) (by omega) (fun v' S' I3 J3 hq => ?_)
  subst hq
  refine r_icmp_eq (pc := 935) (tgt := 1275) d_L_law_935 (by decide) (fun _ => ?_) (fun c => absurd e_undo c)
  exact kend _ _ _
theorem lw_case26 (hC : qFc S I) (hD : qFm S I) (hs : qsl E = 6) (kend : qEnd E Q) : qW E y_L_law b_L_law (some .boolean) 1312 600000 7302250 Q 148 3767 940 [some (.ref (qsc E)), some (.ref (qb E + 0)), some (.ref (qb E + 114)), some (.int 0)] [] S I J := by
  obtain ⟨hM, hF, hh, hTs, hTz⟩ := hD
  refine lda_n_4_1 (pc := 940) d_L_law_940 ?_
  refine lda_n_4_0 (pc := 941) d_L_law_941 ?_
  refine ldi_n_4_3 (pc := 942) d_L_law_942 ?_
  refine r_iconst (pc := 943) (v := 1) d_L_law_943 rfl ?_
  refine r_iadd (pc := 944) d_L_law_944 ?_
  refine r_top (v := 1) (by decide) ?_
  refine r_sld (pc := 945) d_L_law_945 (by rw [hs]; unfold vp_in; decide) ?_
  refine r_top (v := (qsx E 1)) (by rfl) ?_
  refine lda_n_4_0 (pc := 946) d_L_law_946 ?_
  refine ldi_n_4_3 (pc := 947) d_L_law_947 ?_
  refine r_iconst (pc := 948) (v := 2) d_L_law_948 rfl ?_
  refine r_iadd (pc := 949) d_L_law_949 ?_
  refine r_top (v := 2) (by decide) ?_
  refine r_sld (pc := 950) d_L_law_950 (by rw [hs]; unfold vp_in; decide) ?_
  refine r_top (v := (qsx E 2)) (by rfl) ?_
  refine lda_n_4_0 (pc := 951) d_L_law_951 ?_
  refine ldi_n_4_3 (pc := 952) d_L_law_952 ?_
  refine r_iconst (pc := 953) (v := 3) d_L_law_953 rfl ?_
  refine r_iadd (pc := 954) d_L_law_954 ?_
  refine r_top (v := 3) (by decide) ?_
  refine r_sld (pc := 955) d_L_law_955 (by rw [hs]; unfold vp_in; decide) ?_
  refine r_top (v := (qsx E 3)) (by rfl) ?_
  refine r_callV (pc := 956) (As := [.int (qsx E 1), .int (qsx E 2), .int (qsx E 3)]) (k := 8) (N := 11) (T := T_On) k_L_124 im_On_act se_On_act rfl (by decide) rfl (by decide) d_L_law_956 hC.1.1 (k_On_act hC) rfl (Nat.le_of_ble_eq_true rfl) (by omega) (by omega) (by omega) (fun v' S' I2 J2 hq => ?_)
  obtain ⟨rfl, rfl, hfr⟩ := hq
  refine lda_n_4_2 (pc := 959) d_L_law_959 ?_
  refine lda_n_4_0 (pc := 960) d_L_law_960 ?_
  refine ldi_n_4_3 (pc := 961) d_L_law_961 ?_
  refine r_iconst (pc := 962) (v := 1) d_L_law_962 rfl ?_
  refine r_iadd (pc := 963) d_L_law_963 ?_
  refine r_top (v := 1) (by decide) ?_
  refine r_sld (pc := 964) d_L_law_964 (by rw [hs]; unfold vp_in; decide) ?_
  refine r_top (v := (qsx E 1)) (by rfl) ?_
  refine lda_n_4_0 (pc := 965) d_L_law_965 ?_
  refine ldi_n_4_3 (pc := 966) d_L_law_966 ?_
  refine r_iconst (pc := 967) (v := 2) d_L_law_967 rfl ?_
  refine r_iadd (pc := 968) d_L_law_968 ?_
  refine r_top (v := 2) (by decide) ?_
  refine r_sld (pc := 969) d_L_law_969 (by rw [hs]; unfold vp_in; decide) ?_
  refine r_top (v := (qsx E 2)) (by rfl) ?_
  refine lda_n_4_0 (pc := 970) d_L_law_970 ?_
  refine ldi_n_4_3 (pc := 971) d_L_law_971 ?_
  refine r_iconst (pc := 972) (v := 3) d_L_law_972 rfl ?_
  refine r_iadd (pc := 973) d_L_law_973 ?_
  refine r_top (v := 3) (by decide) ?_
  refine r_sld (pc := 974) d_L_law_974 (by rw [hs]; unfold vp_in; decide) ?_
  refine r_top (v := (qsx E 3)) (by rfl) ?_
  refine r_callV (pc := 975) (As := [.int (qsx E 1), .int (qsx E 2), .int (qsx E 3)]) (k := 9) (N := 56) (T := T_Md) k_L_127 im_Md_act se_Md_act rfl (by decide) rfl (by decide) d_L_law_975 hM.1 (k_Md_act hM (fun j hj => by rw [hfr 114 (by omega)]; exact hF j hj) (by rw [hfr 114 (by omega)]; exact hh)) rfl (Nat.le_of_ble_eq_true rfl) (by omega) (by omega) (by omega) (fun v' S' I3 J3 hq => ?_)
  subst hq
  refine r_icmp_eq (pc := 978) (tgt := 1275) d_L_law_978 (by decide) (fun _ => ?_) (fun c => absurd e_act c)
  exact kend _ _ _
theorem lw_case27 (hC : qFc S I) (hD : qFm S I) (hs : qsl E = 6) (kend : qEnd E Q) : qW E y_L_law b_L_law (some .boolean) 1312 600000 7302250 Q 148 3767 983 [some (.ref (qsc E)), some (.ref (qb E + 0)), some (.ref (qb E + 114)), some (.int 0)] [] S I J := by
  obtain ⟨hM, hF, hh, hTs, hTz⟩ := hD
  refine lda_n_4_1 (pc := 983) d_L_law_983 ?_
  refine lda_n_4_0 (pc := 984) d_L_law_984 ?_
  refine ldi_n_4_3 (pc := 985) d_L_law_985 ?_
  refine r_iconst (pc := 986) (v := 1) d_L_law_986 rfl ?_
  refine r_iadd (pc := 987) d_L_law_987 ?_
  refine r_top (v := 1) (by decide) ?_
  refine r_sld (pc := 988) d_L_law_988 (by rw [hs]; unfold vp_in; decide) ?_
  refine r_top (v := (qsx E 1)) (by rfl) ?_
  refine r_callV (pc := 989) (As := [.int (qsx E 1)]) (k := 8) (N := 11) (T := T_On) k_L_128 im_On_trace se_On_trace rfl (by decide) rfl (by decide) d_L_law_989 hC.1.1 (k_On_trace hC) rfl (Nat.le_of_ble_eq_true rfl) (by omega) (by omega) (by omega) (fun v' S' I2 J2 hq => ?_)
  obtain ⟨rfl, rfl, hfr⟩ := hq
  refine lda_n_4_2 (pc := 992) d_L_law_992 ?_
  refine lda_n_4_0 (pc := 993) d_L_law_993 ?_
  refine ldi_n_4_3 (pc := 994) d_L_law_994 ?_
  refine r_iconst (pc := 995) (v := 1) d_L_law_995 rfl ?_
  refine r_iadd (pc := 996) d_L_law_996 ?_
  refine r_top (v := 1) (by decide) ?_
  refine r_sld (pc := 997) d_L_law_997 (by rw [hs]; unfold vp_in; decide) ?_
  refine r_top (v := (qsx E 1)) (by rfl) ?_
  refine r_callV (pc := 998) (As := [.int (qsx E 1)]) (k := 9) (N := 56) (T := T_Md) k_L_131 im_Md_trace se_Md_trace rfl (by decide) rfl (by decide) d_L_law_998 hM.1 (k_Md_trace hM (fun j hj => by rw [hfr 114 (by omega)]; exact hF j hj) (by rw [hfr 114 (by omega)]; exact hh)) rfl (Nat.le_of_ble_eq_true rfl) (by omega) (by omega) (by omega) (fun v' S' I3 J3 hq => ?_)
  subst hq
  refine r_icmp_eq (pc := 1001) (tgt := 1275) d_L_law_1001 (by decide) (fun _ => ?_) (fun c => absurd e_trace c)
  exact kend _ _ _
theorem lw_case28 (hC : qFc S I) (hD : qFm S I) (hs : qsl E = 6) (kend : qEnd E Q) : qW E y_L_law b_L_law (some .boolean) 1312 600000 7302250 Q 148 3767 1006 [some (.ref (qsc E)), some (.ref (qb E + 0)), some (.ref (qb E + 114)), some (.int 0)] [] S I J := by
  obtain ⟨hM, hF, hh, hTs, hTz⟩ := hD
  refine lda_n_4_1 (pc := 1006) d_L_law_1006 ?_
  refine lda_n_4_0 (pc := 1007) d_L_law_1007 ?_
  refine ldi_n_4_3 (pc := 1008) d_L_law_1008 ?_
  refine r_iconst (pc := 1009) (v := 1) d_L_law_1009 rfl ?_
  refine r_iadd (pc := 1010) d_L_law_1010 ?_
  refine r_top (v := 1) (by decide) ?_
  refine r_sld (pc := 1011) d_L_law_1011 (by rw [hs]; unfold vp_in; decide) ?_
  refine r_top (v := (qsx E 1)) (by rfl) ?_
  refine lda_n_4_0 (pc := 1012) d_L_law_1012 ?_
  refine ldi_n_4_3 (pc := 1013) d_L_law_1013 ?_
  refine r_iconst (pc := 1014) (v := 2) d_L_law_1014 rfl ?_
  refine r_iadd (pc := 1015) d_L_law_1015 ?_
  refine r_top (v := 2) (by decide) ?_
  refine r_sld (pc := 1016) d_L_law_1016 (by rw [hs]; unfold vp_in; decide) ?_
  refine r_top (v := (qsx E 2)) (by rfl) ?_
  refine r_callV (pc := 1017) (As := [.int (qsx E 1), .int (qsx E 2)]) (k := 8) (N := 11) (T := T_On) k_L_132 im_On_taken se_On_taken rfl (by decide) rfl (by decide) d_L_law_1017 hC.1.1 (k_On_taken hC) rfl (Nat.le_of_ble_eq_true rfl) (by omega) (by omega) (by omega) (fun v' S' I2 J2 hq => ?_)
  obtain ⟨rfl, rfl, hfr⟩ := hq
  refine lda_n_4_2 (pc := 1020) d_L_law_1020 ?_
  refine lda_n_4_0 (pc := 1021) d_L_law_1021 ?_
  refine ldi_n_4_3 (pc := 1022) d_L_law_1022 ?_
  refine r_iconst (pc := 1023) (v := 1) d_L_law_1023 rfl ?_
  refine r_iadd (pc := 1024) d_L_law_1024 ?_
  refine r_top (v := 1) (by decide) ?_
  refine r_sld (pc := 1025) d_L_law_1025 (by rw [hs]; unfold vp_in; decide) ?_
  refine r_top (v := (qsx E 1)) (by rfl) ?_
  refine lda_n_4_0 (pc := 1026) d_L_law_1026 ?_
  refine ldi_n_4_3 (pc := 1027) d_L_law_1027 ?_
  refine r_iconst (pc := 1028) (v := 2) d_L_law_1028 rfl ?_
  refine r_iadd (pc := 1029) d_L_law_1029 ?_
  refine r_top (v := 2) (by decide) ?_
  refine r_sld (pc := 1030) d_L_law_1030 (by rw [hs]; unfold vp_in; decide) ?_
  refine r_top (v := (qsx E 2)) (by rfl) ?_
  refine r_callV (pc := 1031) (As := [.int (qsx E 1), .int (qsx E 2)]) (k := 9) (N := 56) (T := T_Md) k_L_135 im_Md_taken se_Md_taken rfl (by decide) rfl (by decide) d_L_law_1031 hM.1 (k_Md_taken hM (fun j hj => by rw [hfr 114 (by omega)]; exact hF j hj) (by rw [hfr 114 (by omega)]; exact hh)) rfl (Nat.le_of_ble_eq_true rfl) (by omega) (by omega) (by omega) (fun v' S' I3 J3 hq => ?_)
  subst hq
  refine r_icmp_eq (pc := 1034) (tgt := 1275) d_L_law_1034 (by decide) (fun _ => ?_) (fun c => absurd e_taken c)
  exact kend _ _ _
theorem lw_case29 (hC : qFc S I) (hD : qFm S I) (hs : qsl E = 6) (kend : qEnd E Q) : qW E y_L_law b_L_law (some .boolean) 1312 600000 7302250 Q 148 3767 1039 [some (.ref (qsc E)), some (.ref (qb E + 0)), some (.ref (qb E + 114)), some (.int 0)] [] S I J := by
  obtain ⟨hM, hF, hh, hTs, hTz⟩ := hD
  refine lda_n_4_1 (pc := 1039) d_L_law_1039 ?_
  refine lda_n_4_0 (pc := 1040) d_L_law_1040 ?_
  refine ldi_n_4_3 (pc := 1041) d_L_law_1041 ?_
  refine r_iconst (pc := 1042) (v := 1) d_L_law_1042 rfl ?_
  refine r_iadd (pc := 1043) d_L_law_1043 ?_
  refine r_top (v := 1) (by decide) ?_
  refine r_sld (pc := 1044) d_L_law_1044 (by rw [hs]; unfold vp_in; decide) ?_
  refine r_top (v := (qsx E 1)) (by rfl) ?_
  refine r_callV (pc := 1045) (As := [.int (qsx E 1)]) (k := 8) (N := 11) (T := T_On) k_L_136 im_On_count se_On_count rfl (by decide) rfl (by decide) d_L_law_1045 hC.1.1 (k_On_count hC) rfl (Nat.le_of_ble_eq_true rfl) (by omega) (by omega) (by omega) (fun v' S' I2 J2 hq => ?_)
  obtain ⟨rfl, rfl, hfr⟩ := hq
  refine lda_n_4_2 (pc := 1048) d_L_law_1048 ?_
  refine lda_n_4_0 (pc := 1049) d_L_law_1049 ?_
  refine ldi_n_4_3 (pc := 1050) d_L_law_1050 ?_
  refine r_iconst (pc := 1051) (v := 1) d_L_law_1051 rfl ?_
  refine r_iadd (pc := 1052) d_L_law_1052 ?_
  refine r_top (v := 1) (by decide) ?_
  refine r_sld (pc := 1053) d_L_law_1053 (by rw [hs]; unfold vp_in; decide) ?_
  refine r_top (v := (qsx E 1)) (by rfl) ?_
  refine r_callV (pc := 1054) (As := [.int (qsx E 1)]) (k := 9) (N := 56) (T := T_Md) k_L_139 im_Md_count se_Md_count rfl (by decide) rfl (by decide) d_L_law_1054 hM.1 (k_Md_count hM (fun j hj => by rw [hfr 114 (by omega)]; exact hF j hj) (by rw [hfr 114 (by omega)]; exact hh)) rfl (Nat.le_of_ble_eq_true rfl) (by omega) (by omega) (by omega) (fun v' S' I3 J3 hq => ?_)
  subst hq
  refine r_icmp_eq (pc := 1057) (tgt := 1275) d_L_law_1057 (by decide) (fun _ => ?_) (fun c => absurd e_count c)
  exact kend _ _ _
theorem lw_case30 (hC : qFc S I) (hD : qFm S I) (hs : qsl E = 6) (kend : qEnd E Q) : qW E y_L_law b_L_law (some .boolean) 1312 600000 7302250 Q 148 3767 1062 [some (.ref (qsc E)), some (.ref (qb E + 0)), some (.ref (qb E + 114)), some (.int 0)] [] S I J := by
  obtain ⟨hM, hF, hh, hTs, hTz⟩ := hD
  refine lda_n_4_1 (pc := 1062) d_L_law_1062 ?_
  refine lda_n_4_0 (pc := 1063) d_L_law_1063 ?_
  refine ldi_n_4_3 (pc := 1064) d_L_law_1064 ?_
  refine r_iconst (pc := 1065) (v := 1) d_L_law_1065 rfl ?_
  refine r_iadd (pc := 1066) d_L_law_1066 ?_
  refine r_top (v := 1) (by decide) ?_
  refine r_sld (pc := 1067) d_L_law_1067 (by rw [hs]; unfold vp_in; decide) ?_
  refine r_top (v := (qsx E 1)) (by rfl) ?_
  refine lda_n_4_0 (pc := 1068) d_L_law_1068 ?_
  refine ldi_n_4_3 (pc := 1069) d_L_law_1069 ?_
  refine r_iconst (pc := 1070) (v := 2) d_L_law_1070 rfl ?_
  refine r_iadd (pc := 1071) d_L_law_1071 ?_
  refine r_top (v := 2) (by decide) ?_
  refine r_sld (pc := 1072) d_L_law_1072 (by rw [hs]; unfold vp_in; decide) ?_
  refine r_top (v := (qsx E 2)) (by rfl) ?_
  refine lda_n_4_0 (pc := 1073) d_L_law_1073 ?_
  refine ldi_n_4_3 (pc := 1074) d_L_law_1074 ?_
  refine r_iconst (pc := 1075) (v := 3) d_L_law_1075 rfl ?_
  refine r_iadd (pc := 1076) d_L_law_1076 ?_
  refine r_top (v := 3) (by decide) ?_
  refine r_sld (pc := 1077) d_L_law_1077 (by rw [hs]; unfold vp_in; decide) ?_
  refine r_top (v := (qsx E 3)) (by rfl) ?_
  refine r_callV (pc := 1078) (As := [.int (qsx E 1), .int (qsx E 2), .int (qsx E 3)]) (k := 8) (N := 11) (T := T_On) k_L_140 im_On_tape se_On_tape rfl (by decide) rfl (by decide) d_L_law_1078 hC.1.1 (k_On_tape hC) rfl (Nat.le_of_ble_eq_true rfl) (by omega) (by omega) (by omega) (fun v' S' I2 J2 hq => ?_)
  obtain ⟨rfl, rfl, hfr⟩ := hq
  refine lda_n_4_2 (pc := 1081) d_L_law_1081 ?_
  refine lda_n_4_0 (pc := 1082) d_L_law_1082 ?_
  refine ldi_n_4_3 (pc := 1083) d_L_law_1083 ?_
  refine r_iconst (pc := 1084) (v := 1) d_L_law_1084 rfl ?_
  refine r_iadd (pc := 1085) d_L_law_1085 ?_
  refine r_top (v := 1) (by decide) ?_
  refine r_sld (pc := 1086) d_L_law_1086 (by rw [hs]; unfold vp_in; decide) ?_
  refine r_top (v := (qsx E 1)) (by rfl) ?_
  refine lda_n_4_0 (pc := 1087) d_L_law_1087 ?_
  refine ldi_n_4_3 (pc := 1088) d_L_law_1088 ?_
  refine r_iconst (pc := 1089) (v := 2) d_L_law_1089 rfl ?_
  refine r_iadd (pc := 1090) d_L_law_1090 ?_
  refine r_top (v := 2) (by decide) ?_
  refine r_sld (pc := 1091) d_L_law_1091 (by rw [hs]; unfold vp_in; decide) ?_
  refine r_top (v := (qsx E 2)) (by rfl) ?_
  refine lda_n_4_0 (pc := 1092) d_L_law_1092 ?_
  refine ldi_n_4_3 (pc := 1093) d_L_law_1093 ?_
  refine r_iconst (pc := 1094) (v := 3) d_L_law_1094 rfl ?_
  refine r_iadd (pc := 1095) d_L_law_1095 ?_
  refine r_top (v := 3) (by decide) ?_
  refine r_sld (pc := 1096) d_L_law_1096 (by rw [hs]; unfold vp_in; decide) ?_
  refine r_top (v := (qsx E 3)) (by rfl) ?_
  refine r_callV (pc := 1097) (As := [.int (qsx E 1), .int (qsx E 2), .int (qsx E 3)]) (k := 9) (N := 56) (T := T_Md) k_L_143 im_Md_tape se_Md_tape rfl (by decide) rfl (by decide) d_L_law_1097 hM.1 (k_Md_tape hM (fun j hj => by rw [hfr 114 (by omega)]; exact hF j hj) (by rw [hfr 114 (by omega)]; exact hh) (fun t ht => by rw [hfr 145 (by omega)]; exact hTs t ht) (fun t ht => by rw [hfr 146 (by omega)]; exact hTz t ht)) rfl (Nat.le_of_ble_eq_true rfl) (by omega) (by omega) (by omega) (fun v' S' I3 J3 hq => ?_)
  subst hq
  refine r_icmp_eq (pc := 1100) (tgt := 1275) d_L_law_1100 (by decide) (fun _ => ?_) (fun c => absurd e_tape c)
  exact kend _ _ _
theorem lw_case31 (hC : qFc S I) (hD : qFm S I) (hs : qsl E = 6) (kend : qEnd E Q) : qW E y_L_law b_L_law (some .boolean) 1312 600000 7302250 Q 148 3767 1105 [some (.ref (qsc E)), some (.ref (qb E + 0)), some (.ref (qb E + 114)), some (.int 0)] [] S I J := by
  obtain ⟨hM, hF, hh, hTs, hTz⟩ := hD
  refine lda_n_4_1 (pc := 1105) d_L_law_1105 ?_
  refine lda_n_4_0 (pc := 1106) d_L_law_1106 ?_
  refine ldi_n_4_3 (pc := 1107) d_L_law_1107 ?_
  refine r_iconst (pc := 1108) (v := 1) d_L_law_1108 rfl ?_
  refine r_iadd (pc := 1109) d_L_law_1109 ?_
  refine r_top (v := 1) (by decide) ?_
  refine r_sld (pc := 1110) d_L_law_1110 (by rw [hs]; unfold vp_in; decide) ?_
  refine r_top (v := (qsx E 1)) (by rfl) ?_
  refine lda_n_4_0 (pc := 1111) d_L_law_1111 ?_
  refine ldi_n_4_3 (pc := 1112) d_L_law_1112 ?_
  refine r_iconst (pc := 1113) (v := 2) d_L_law_1113 rfl ?_
  refine r_iadd (pc := 1114) d_L_law_1114 ?_
  refine r_top (v := 2) (by decide) ?_
  refine r_sld (pc := 1115) d_L_law_1115 (by rw [hs]; unfold vp_in; decide) ?_
  refine r_top (v := (qsx E 2)) (by rfl) ?_
  refine lda_n_4_0 (pc := 1116) d_L_law_1116 ?_
  refine ldi_n_4_3 (pc := 1117) d_L_law_1117 ?_
  refine r_iconst (pc := 1118) (v := 3) d_L_law_1118 rfl ?_
  refine r_iadd (pc := 1119) d_L_law_1119 ?_
  refine r_top (v := 3) (by decide) ?_
  refine r_sld (pc := 1120) d_L_law_1120 (by rw [hs]; unfold vp_in; decide) ?_
  refine r_top (v := (qsx E 3)) (by rfl) ?_
  refine r_i2l (pc := 1121) d_L_law_1121 ?_
  refine r_bipush (pc := 1122) (v := 32) d_L_law_1122 rfl ?_
  refine r_lshl (pc := 1124) d_L_law_1124 rfl ?_
  refine lda_n_4_0 (pc := 1125) d_L_law_1125 ?_
  refine ldi_n_4_3 (pc := 1126) d_L_law_1126 ?_
  refine r_iconst (pc := 1127) (v := 4) d_L_law_1127 rfl ?_
  refine r_iadd (pc := 1128) d_L_law_1128 ?_
  refine r_top (v := 4) (by decide) ?_
  refine r_sld (pc := 1129) d_L_law_1129 (by rw [hs]; unfold vp_in; decide) ?_
  refine r_top (v := (qsx E 4)) (by rfl) ?_
  refine r_i2l (pc := 1130) d_L_law_1130 ?_
  refine r_ldc2 (pc := 1131) cl_L_144 d_L_law_1131 ?_
  refine r_land (pc := 1134) d_L_law_1134 ?_
  refine r_lor (pc := 1135) d_L_law_1135 ?_
  refine r_callV (pc := 1136) (As := [.int (qsx E 1), .int (qsx E 2), _]) (k := 8) (N := 11) (T := T_On) k_L_146 im_On_item se_On_item rfl (by decide) rfl (by decide) d_L_law_1136 hC.1.1 (k_On_item hC) rfl (Nat.le_of_ble_eq_true rfl) (by omega) (by omega) (by omega) (fun v' S' I2 J2 hq => ?_)
  obtain ⟨rfl, rfl, hfr⟩ := hq
  refine lda_n_4_2 (pc := 1139) d_L_law_1139 ?_
  refine lda_n_4_0 (pc := 1140) d_L_law_1140 ?_
  refine ldi_n_4_3 (pc := 1141) d_L_law_1141 ?_
  refine r_iconst (pc := 1142) (v := 1) d_L_law_1142 rfl ?_
  refine r_iadd (pc := 1143) d_L_law_1143 ?_
  refine r_top (v := 1) (by decide) ?_
  refine r_sld (pc := 1144) d_L_law_1144 (by rw [hs]; unfold vp_in; decide) ?_
  refine r_top (v := (qsx E 1)) (by rfl) ?_
  refine lda_n_4_0 (pc := 1145) d_L_law_1145 ?_
  refine ldi_n_4_3 (pc := 1146) d_L_law_1146 ?_
  refine r_iconst (pc := 1147) (v := 2) d_L_law_1147 rfl ?_
  refine r_iadd (pc := 1148) d_L_law_1148 ?_
  refine r_top (v := 2) (by decide) ?_
  refine r_sld (pc := 1149) d_L_law_1149 (by rw [hs]; unfold vp_in; decide) ?_
  refine r_top (v := (qsx E 2)) (by rfl) ?_
  refine lda_n_4_0 (pc := 1150) d_L_law_1150 ?_
  refine ldi_n_4_3 (pc := 1151) d_L_law_1151 ?_
  refine r_iconst (pc := 1152) (v := 3) d_L_law_1152 rfl ?_
  refine r_iadd (pc := 1153) d_L_law_1153 ?_
  refine r_top (v := 3) (by decide) ?_
  refine r_sld (pc := 1154) d_L_law_1154 (by rw [hs]; unfold vp_in; decide) ?_
  refine r_top (v := (qsx E 3)) (by rfl) ?_
  refine r_i2l (pc := 1155) d_L_law_1155 ?_
  refine r_bipush (pc := 1156) (v := 32) d_L_law_1156 rfl ?_
  refine r_lshl (pc := 1158) d_L_law_1158 rfl ?_
  refine lda_n_4_0 (pc := 1159) d_L_law_1159 ?_
  refine ldi_n_4_3 (pc := 1160) d_L_law_1160 ?_
  refine r_iconst (pc := 1161) (v := 4) d_L_law_1161 rfl ?_
  refine r_iadd (pc := 1162) d_L_law_1162 ?_
  refine r_top (v := 4) (by decide) ?_
  refine r_sld (pc := 1163) d_L_law_1163 (by rw [hs]; unfold vp_in; decide) ?_
  refine r_top (v := (qsx E 4)) (by rfl) ?_
  refine r_i2l (pc := 1164) d_L_law_1164 ?_
  refine r_ldc2 (pc := 1165) cl_L_144 d_L_law_1165 ?_
  refine r_land (pc := 1168) d_L_law_1168 ?_
  refine r_lor (pc := 1169) d_L_law_1169 ?_
  refine r_callV (pc := 1170) (As := [.int (qsx E 1), .int (qsx E 2), _]) (k := 9) (N := 56) (T := T_Md) k_L_150 im_Md_item se_Md_item rfl (by decide) rfl (by decide) d_L_law_1170 hM.1 (k_Md_item hM (fun j hj => by rw [hfr 114 (by omega)]; exact hF j hj) (by rw [hfr 114 (by omega)]; exact hh) (fun t ht => by rw [hfr 145 (by omega)]; exact hTs t ht) (fun t ht => by rw [hfr 146 (by omega)]; exact hTz t ht)) rfl (Nat.le_of_ble_eq_true rfl) (by omega) (by omega) (by omega) (fun v' S' I3 J3 hq => ?_)
  subst hq
  refine r_icmp_eq (pc := 1173) (tgt := 1275) d_L_law_1173 (by decide) (fun _ => ?_) (fun c => absurd e_item c)
  exact kend _ _ _
theorem lw_case32 (hC : qFc S I) (hD : qFm S I) (hs : qsl E = 6) (kend : qEnd E Q) : qW E y_L_law b_L_law (some .boolean) 1312 600000 7302250 Q 148 3767 1178 [some (.ref (qsc E)), some (.ref (qb E + 0)), some (.ref (qb E + 114)), some (.int 0)] [] S I J := by
  obtain ⟨hM, hF, hh, hTs, hTz⟩ := hD
  refine lda_n_4_1 (pc := 1178) d_L_law_1178 ?_
  refine lda_n_4_0 (pc := 1179) d_L_law_1179 ?_
  refine ldi_n_4_3 (pc := 1180) d_L_law_1180 ?_
  refine r_iconst (pc := 1181) (v := 1) d_L_law_1181 rfl ?_
  refine r_iadd (pc := 1182) d_L_law_1182 ?_
  refine r_top (v := 1) (by decide) ?_
  refine r_sld (pc := 1183) d_L_law_1183 (by rw [hs]; unfold vp_in; decide) ?_
  refine r_top (v := (qsx E 1)) (by rfl) ?_
  refine lda_n_4_0 (pc := 1184) d_L_law_1184 ?_
  refine ldi_n_4_3 (pc := 1185) d_L_law_1185 ?_
  refine r_iconst (pc := 1186) (v := 2) d_L_law_1186 rfl ?_
  refine r_iadd (pc := 1187) d_L_law_1187 ?_
  refine r_top (v := 2) (by decide) ?_
  refine r_sld (pc := 1188) d_L_law_1188 (by rw [hs]; unfold vp_in; decide) ?_
  refine r_top (v := (qsx E 2)) (by rfl) ?_
  refine r_callV (pc := 1189) (As := [.int (qsx E 1), .int (qsx E 2)]) (k := 8) (N := 11) (T := T_On) k_L_151 im_On_read se_On_read rfl (by decide) rfl (by decide) d_L_law_1189 hC.1.1 (k_On_read hC) rfl (Nat.le_of_ble_eq_true rfl) (by omega) (by omega) (by omega) (fun v' S' I2 J2 hq => ?_)
  obtain ⟨rfl, rfl, hfr⟩ := hq
  refine lda_n_4_2 (pc := 1192) d_L_law_1192 ?_
  refine lda_n_4_0 (pc := 1193) d_L_law_1193 ?_
  refine ldi_n_4_3 (pc := 1194) d_L_law_1194 ?_
  refine r_iconst (pc := 1195) (v := 1) d_L_law_1195 rfl ?_
  refine r_iadd (pc := 1196) d_L_law_1196 ?_
  refine r_top (v := 1) (by decide) ?_
  refine r_sld (pc := 1197) d_L_law_1197 (by rw [hs]; unfold vp_in; decide) ?_
  refine r_top (v := (qsx E 1)) (by rfl) ?_
  refine lda_n_4_0 (pc := 1198) d_L_law_1198 ?_
  refine ldi_n_4_3 (pc := 1199) d_L_law_1199 ?_
  refine r_iconst (pc := 1200) (v := 2) d_L_law_1200 rfl ?_
  refine r_iadd (pc := 1201) d_L_law_1201 ?_
  refine r_top (v := 2) (by decide) ?_
  refine r_sld (pc := 1202) d_L_law_1202 (by rw [hs]; unfold vp_in; decide) ?_
  refine r_top (v := (qsx E 2)) (by rfl) ?_
  refine r_callV (pc := 1203) (As := [.int (qsx E 1), .int (qsx E 2)]) (k := 9) (N := 56) (T := T_Md) k_L_154 im_Md_read se_Md_read rfl (by decide) rfl (by decide) d_L_law_1203 hM.1 (k_Md_read hM (fun j hj => by rw [hfr 114 (by omega)]; exact hF j hj) (by rw [hfr 114 (by omega)]; exact hh) (fun t ht => by rw [hfr 145 (by omega)]; exact hTs t ht) (fun t ht => by rw [hfr 146 (by omega)]; exact hTz t ht)) rfl (Nat.le_of_ble_eq_true rfl) (by omega) (by omega) (by omega) (fun v' S' I3 J3 hq => ?_)
  subst hq
  refine r_lcmp (pc := 1206) d_L_law_1206 ?_
  refine r_if_eq (pc := 1207) (tgt := 1275) d_L_law_1207 (by decide) (fun _ => ?_) (fun c => absurd (lcmp_self e_read) c)
  exact kend _ _ _
theorem lw_case33 (hC : qFc S I) (hD : qFm S I) (hs : qsl E = 6) (kend : qEnd E Q) : qW E y_L_law b_L_law (some .boolean) 1312 600000 7302250 Q 148 3767 1212 [some (.ref (qsc E)), some (.ref (qb E + 0)), some (.ref (qb E + 114)), some (.int 0)] [] S I J := by
  obtain ⟨hM, hF, hh, hTs, hTz⟩ := hD
  refine lda_n_4_1 (pc := 1212) d_L_law_1212 ?_
  refine lda_n_4_0 (pc := 1213) d_L_law_1213 ?_
  refine ldi_n_4_3 (pc := 1214) d_L_law_1214 ?_
  refine r_iconst (pc := 1215) (v := 1) d_L_law_1215 rfl ?_
  refine r_iadd (pc := 1216) d_L_law_1216 ?_
  refine r_top (v := 1) (by decide) ?_
  refine r_sld (pc := 1217) d_L_law_1217 (by rw [hs]; unfold vp_in; decide) ?_
  refine r_top (v := (qsx E 1)) (by rfl) ?_
  refine lda_n_4_0 (pc := 1218) d_L_law_1218 ?_
  refine ldi_n_4_3 (pc := 1219) d_L_law_1219 ?_
  refine r_iconst (pc := 1220) (v := 2) d_L_law_1220 rfl ?_
  refine r_iadd (pc := 1221) d_L_law_1221 ?_
  refine r_top (v := 2) (by decide) ?_
  refine r_sld (pc := 1222) d_L_law_1222 (by rw [hs]; unfold vp_in; decide) ?_
  refine r_top (v := (qsx E 2)) (by rfl) ?_
  refine lda_n_4_0 (pc := 1223) d_L_law_1223 ?_
  refine ldi_n_4_3 (pc := 1224) d_L_law_1224 ?_
  refine r_iconst (pc := 1225) (v := 3) d_L_law_1225 rfl ?_
  refine r_iadd (pc := 1226) d_L_law_1226 ?_
  refine r_top (v := 3) (by decide) ?_
  refine r_sld (pc := 1227) d_L_law_1227 (by rw [hs]; unfold vp_in; decide) ?_
  refine r_top (v := (qsx E 3)) (by rfl) ?_
  refine lda_n_4_0 (pc := 1228) d_L_law_1228 ?_
  refine ldi_n_4_3 (pc := 1229) d_L_law_1229 ?_
  refine r_iconst (pc := 1230) (v := 4) d_L_law_1230 rfl ?_
  refine r_iadd (pc := 1231) d_L_law_1231 ?_
  refine r_top (v := 4) (by decide) ?_
  refine r_sld (pc := 1232) d_L_law_1232 (by rw [hs]; unfold vp_in; decide) ?_
  refine r_top (v := (qsx E 4)) (by rfl) ?_
  refine lda_n_4_0 (pc := 1233) d_L_law_1233 ?_
  refine ldi_n_4_3 (pc := 1234) d_L_law_1234 ?_
  refine r_iconst (pc := 1235) (v := 5) d_L_law_1235 rfl ?_
  refine r_iadd (pc := 1236) d_L_law_1236 ?_
  refine r_top (v := 5) (by decide) ?_
  refine r_sld (pc := 1237) d_L_law_1237 (by rw [hs]; unfold vp_in; decide) ?_
  refine r_top (v := (qsx E 5)) (by rfl) ?_
  refine r_callV (pc := 1238) (As := [.int (qsx E 1), .int (qsx E 2), .int (qsx E 3), .int (qsx E 4), .int (qsx E 5)]) (k := 8) (N := 11) (T := T_On) k_L_155 im_On_shift se_On_shift rfl (by decide) rfl (by decide) d_L_law_1238 hC.1.1 (k_On_shift hC) rfl (Nat.le_of_ble_eq_true rfl) (by omega) (by omega) (by omega) (fun v' S' I2 J2 hq => ?_)
  obtain ⟨rfl, rfl, hfr⟩ := hq
  refine lda_n_4_2 (pc := 1241) d_L_law_1241 ?_
  refine lda_n_4_0 (pc := 1242) d_L_law_1242 ?_
  refine ldi_n_4_3 (pc := 1243) d_L_law_1243 ?_
  refine r_iconst (pc := 1244) (v := 1) d_L_law_1244 rfl ?_
  refine r_iadd (pc := 1245) d_L_law_1245 ?_
  refine r_top (v := 1) (by decide) ?_
  refine r_sld (pc := 1246) d_L_law_1246 (by rw [hs]; unfold vp_in; decide) ?_
  refine r_top (v := (qsx E 1)) (by rfl) ?_
  refine lda_n_4_0 (pc := 1247) d_L_law_1247 ?_
  refine ldi_n_4_3 (pc := 1248) d_L_law_1248 ?_
  refine r_iconst (pc := 1249) (v := 2) d_L_law_1249 rfl ?_
  refine r_iadd (pc := 1250) d_L_law_1250 ?_
  refine r_top (v := 2) (by decide) ?_
  refine r_sld (pc := 1251) d_L_law_1251 (by rw [hs]; unfold vp_in; decide) ?_
  refine r_top (v := (qsx E 2)) (by rfl) ?_
  refine lda_n_4_0 (pc := 1252) d_L_law_1252 ?_
  refine ldi_n_4_3 (pc := 1253) d_L_law_1253 ?_
  refine r_iconst (pc := 1254) (v := 3) d_L_law_1254 rfl ?_
  refine r_iadd (pc := 1255) d_L_law_1255 ?_
  refine r_top (v := 3) (by decide) ?_
  refine r_sld (pc := 1256) d_L_law_1256 (by rw [hs]; unfold vp_in; decide) ?_
  refine r_top (v := (qsx E 3)) (by rfl) ?_
  refine lda_n_4_0 (pc := 1257) d_L_law_1257 ?_
  refine ldi_n_4_3 (pc := 1258) d_L_law_1258 ?_
  refine r_iconst (pc := 1259) (v := 4) d_L_law_1259 rfl ?_
  refine r_iadd (pc := 1260) d_L_law_1260 ?_
  refine r_top (v := 4) (by decide) ?_
  refine r_sld (pc := 1261) d_L_law_1261 (by rw [hs]; unfold vp_in; decide) ?_
  refine r_top (v := (qsx E 4)) (by rfl) ?_
  refine lda_n_4_0 (pc := 1262) d_L_law_1262 ?_
  refine ldi_n_4_3 (pc := 1263) d_L_law_1263 ?_
  refine r_iconst (pc := 1264) (v := 5) d_L_law_1264 rfl ?_
  refine r_iadd (pc := 1265) d_L_law_1265 ?_
  refine r_top (v := 5) (by decide) ?_
  refine r_sld (pc := 1266) d_L_law_1266 (by rw [hs]; unfold vp_in; decide) ?_
  refine r_top (v := (qsx E 5)) (by rfl) ?_
  refine r_callV (pc := 1267) (As := [.int (qsx E 1), .int (qsx E 2), .int (qsx E 3), .int (qsx E 4), .int (qsx E 5)]) (k := 9) (N := 56) (T := T_Md) k_L_159 im_Md_shift se_Md_shift rfl (by decide) rfl (by decide) d_L_law_1267 hM.1 (k_Md_shift hM (fun j hj => by rw [hfr 114 (by omega)]; exact hF j hj) (by rw [hfr 114 (by omega)]; exact hh) (fun t ht => by rw [hfr 145 (by omega)]; exact hTs t ht) (fun t ht => by rw [hfr 146 (by omega)]; exact hTz t ht)) rfl (Nat.le_of_ble_eq_true rfl) (by omega) (by omega) (by omega) (fun v' S' I3 J3 hq => ?_)
  subst hq
  refine r_icmp_eq (pc := 1270) (tgt := 1275) d_L_law_1270 (by decide) (fun _ => ?_) (fun c => absurd e_shift c)
  exact kend _ _ _
end LW2
