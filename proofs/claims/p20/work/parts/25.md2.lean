/-! the reference keeps all, and is again as it was: which cells are touched -/
theorem vp_add {c : Int32} {k n : Nat} (m : Nat) (hc : c = nI m) (h : m + k < n) (hn : n < 2 ^ 31) : vp_in (c + nI k) n := by
  rw [hc, nI_add]
  exact vp_in_nI h hn
/-- only the cells told are touched -/
def qOnly (P : Nat → Prop) (I I' : qI) : Prop := ∀ a, ¬ P a → I' a = I a
theorem qOnly.rf {P : Nat → Prop} {I : qI} : qOnly P I I := fun _ _ => rfl
theorem qOnly.up {P : Nat → Prop} {I I' : qI} {o j : Nat} {x : Int32} (h : qOnly P I I') (ho : P o) : qOnly P I (qup I' o j x) := fun a ha => by
  have e : a ≠ o := fun q => ha (by rw [q]; exact ho)
  rw [qup_row e]; exact h a ha
theorem qOnly.tr {P : Nat → Prop} {I I' I'' : qI} (h : qOnly P I I') (h2 : qOnly P I' I'') : qOnly P I I'' := fun a ha => (h2 a ha).trans (h a ha)
theorem qOnly.mo {P R : Nat → Prop} {I I' : qI} (h : qOnly P I I') (hs : ∀ a, P a → R a) : qOnly R I I' := fun a ha => h a (fun q => ha (hs a q))
section MD2
variable {E : qE} {S : qSh} {I : qI} {J : qJ}
theorem c_Md_keep0 {o : Nat} (hM : isMd S) (hA : qAr S o 11 125) : qMet E y_Md_keep b_Md_keep 3 none 0 0 0 [.ref (qb E + 114), .ref (qb E + o)] S I J (fun v S' I' J' => v = none ∧ S = S' ∧ qOnly (fun a => a = o) I I' ∧ J = J') := by
  have f1 := hM.r 0 rfl
  have f2 := hM.r 1 rfl
  have f3 := hM.r 2 rfl
  have f4 := hM.r 3 rfl
  have f5 := hM.r 4 rfl
  have f6 := hM.r 5 rfl
  have f7 := hM.r 6 rfl
  have f9 := hM.r 7 rfl
  have f28 := hM.r 16 rfl
  have f29 := hM.r 17 rfl
  have f30 := hM.r 18 rfl
  have f32 := hM.r 19 rfl
  have f33 := hM.r 20 rfl
  have f35 := hM.r 21 rfl
  have f36 := hM.r 22 rfl
  have g1 := hM.a 0 rfl
  have g2 := hM.a 1 rfl
  have g3 := hM.a 2 rfl
  have g4 := hM.a 3 rfl
  have g5 := hM.a 4 rfl
  have g6 := hM.a 5 rfl
  have g7 := hM.a 6 rfl
  have g9 := hM.a 7 rfl
  have g28 := hM.a 16 rfl
  have g29 := hM.a 17 rfl
  have g30 := hM.a 18 rfl
  have g32 := hM.a 19 rfl
  have g33 := hM.a 20 rfl
  have g35 := hM.a 21 rfl
  have g36 := hM.a 22 rfl
  have hT := hM.1
  refine qMet.of (L := [some (.ref (qb E + 114)), some (.ref (qb E + o)), none]) (by decide +kernel) (Nat.le_of_ble_eq_true rfl) rfl ?_
  refine r_iconst (pc := 0) (v := 0) d_Md_keep_0 rfl ?_
  refine sti_n_3_2 (pc := 1) d_Md_keep_1 rfl ?_
  rw [q0]
  have key5 : ∀ k, k ≤ 8 → ∀ I2, qOnly (fun a => a = o) I I2 → qW E y_Md_keep b_Md_keep none 0 0 0 (fun v S' I' J' => v = none ∧ S = S' ∧ qOnly (fun a => a = o) I I' ∧ J = J') 0 0 210 [some (.ref (qb E + 114)), some (.ref (qb E + o)), some (.int (nI k))] [] S I2 J := by
    refine qfor 8 ?_ ?_
    · intro I2 h2
      refine ldi_n_3_2 (pc := 210) d_Md_keep_210 ?_
      refine r_bipush (pc := 211) (v := 8) d_Md_keep_211 rfl ?_
      refine r_icmp_ge (pc := 213) (tgt := 246) d_Md_keep_213 (by decide) (fun c => ?_) (fun c => ?_)
      · refine lda_n_3_1 (pc := 246) d_Md_keep_246 ?_
        refine r_bipush (pc := 247) (v := 117) d_Md_keep_247 rfl ?_
        refine lda_n_3_0 (pc := 249) d_Md_keep_249 ?_
        refine g_Md_117 (pc := 250) rfl d_Md_keep_250 (by assumption) ?_
        refine r_iast (pc := 253) d_Md_keep_253 (by assumption) (by first | exact vp_in_nI (by omega) (by omega) | (unfold vp_in; decide) | exact vp_add 18 rfl (by omega) (by omega) | exact vp_add 6 rfl (by omega) (by omega) | exact vp_add 12 rfl (by omega) (by omega) | exact vp_add 24 rfl (by omega) (by omega) | exact vp_add 30 rfl (by omega) (by omega) | exact vp_add 36 rfl (by omega) (by omega) | exact vp_add 42 rfl (by omega) (by omega) | exact vp_add 66 rfl (by omega) (by omega) | exact vp_add 71 rfl (by omega) (by omega) | exact vp_add 76 rfl (by omega) (by omega) | exact vp_add 81 rfl (by omega) (by omega) | exact vp_add 91 rfl (by omega) (by omega) | exact vp_add 101 rfl (by omega) (by omega) | exact vp_add 109 rfl (by omega) (by omega)) ?_
        refine lda_n_3_1 (pc := 254) d_Md_keep_254 ?_
        refine r_bipush (pc := 255) (v := 118) d_Md_keep_255 rfl ?_
        refine lda_n_3_0 (pc := 257) d_Md_keep_257 ?_
        refine g_Md_124 (pc := 258) rfl d_Md_keep_258 (by assumption) ?_
        refine r_iast (pc := 261) d_Md_keep_261 (by assumption) (by first | exact vp_in_nI (by omega) (by omega) | (unfold vp_in; decide) | exact vp_add 18 rfl (by omega) (by omega) | exact vp_add 6 rfl (by omega) (by omega) | exact vp_add 12 rfl (by omega) (by omega) | exact vp_add 24 rfl (by omega) (by omega) | exact vp_add 30 rfl (by omega) (by omega) | exact vp_add 36 rfl (by omega) (by omega) | exact vp_add 42 rfl (by omega) (by omega) | exact vp_add 66 rfl (by omega) (by omega) | exact vp_add 71 rfl (by omega) (by omega) | exact vp_add 76 rfl (by omega) (by omega) | exact vp_add 81 rfl (by omega) (by omega) | exact vp_add 91 rfl (by omega) (by omega) | exact vp_add 101 rfl (by omega) (by omega) | exact vp_add 109 rfl (by omega) (by omega)) ?_
        refine lda_n_3_1 (pc := 262) d_Md_keep_262 ?_
        refine r_bipush (pc := 263) (v := 119) d_Md_keep_263 rfl ?_
        refine lda_n_3_0 (pc := 265) d_Md_keep_265 ?_
        refine g_Md_135 (pc := 266) rfl d_Md_keep_266 (by assumption) ?_
        refine r_iast (pc := 269) d_Md_keep_269 (by assumption) (by first | exact vp_in_nI (by omega) (by omega) | (unfold vp_in; decide) | exact vp_add 18 rfl (by omega) (by omega) | exact vp_add 6 rfl (by omega) (by omega) | exact vp_add 12 rfl (by omega) (by omega) | exact vp_add 24 rfl (by omega) (by omega) | exact vp_add 30 rfl (by omega) (by omega) | exact vp_add 36 rfl (by omega) (by omega) | exact vp_add 42 rfl (by omega) (by omega) | exact vp_add 66 rfl (by omega) (by omega) | exact vp_add 71 rfl (by omega) (by omega) | exact vp_add 76 rfl (by omega) (by omega) | exact vp_add 81 rfl (by omega) (by omega) | exact vp_add 91 rfl (by omega) (by omega) | exact vp_add 101 rfl (by omega) (by omega) | exact vp_add 109 rfl (by omega) (by omega)) ?_
        refine lda_n_3_1 (pc := 270) d_Md_keep_270 ?_
        refine r_bipush (pc := 271) (v := 120) d_Md_keep_271 rfl ?_
        refine lda_n_3_0 (pc := 273) d_Md_keep_273 ?_
        refine g_Md_314 (pc := 274) rfl d_Md_keep_274 (by assumption) ?_
        refine r_iast (pc := 277) d_Md_keep_277 (by assumption) (by first | exact vp_in_nI (by omega) (by omega) | (unfold vp_in; decide) | exact vp_add 18 rfl (by omega) (by omega) | exact vp_add 6 rfl (by omega) (by omega) | exact vp_add 12 rfl (by omega) (by omega) | exact vp_add 24 rfl (by omega) (by omega) | exact vp_add 30 rfl (by omega) (by omega) | exact vp_add 36 rfl (by omega) (by omega) | exact vp_add 42 rfl (by omega) (by omega) | exact vp_add 66 rfl (by omega) (by omega) | exact vp_add 71 rfl (by omega) (by omega) | exact vp_add 76 rfl (by omega) (by omega) | exact vp_add 81 rfl (by omega) (by omega) | exact vp_add 91 rfl (by omega) (by omega) | exact vp_add 101 rfl (by omega) (by omega) | exact vp_add 109 rfl (by omega) (by omega)) ?_
        refine lda_n_3_1 (pc := 278) d_Md_keep_278 ?_
        refine r_bipush (pc := 279) (v := 121) d_Md_keep_279 rfl ?_
        refine lda_n_3_0 (pc := 281) d_Md_keep_281 ?_
        refine g_Md_333 (pc := 282) rfl d_Md_keep_282 (by assumption) ?_
        refine r_iast (pc := 285) d_Md_keep_285 (by assumption) (by first | exact vp_in_nI (by omega) (by omega) | (unfold vp_in; decide) | exact vp_add 18 rfl (by omega) (by omega) | exact vp_add 6 rfl (by omega) (by omega) | exact vp_add 12 rfl (by omega) (by omega) | exact vp_add 24 rfl (by omega) (by omega) | exact vp_add 30 rfl (by omega) (by omega) | exact vp_add 36 rfl (by omega) (by omega) | exact vp_add 42 rfl (by omega) (by omega) | exact vp_add 66 rfl (by omega) (by omega) | exact vp_add 71 rfl (by omega) (by omega) | exact vp_add 76 rfl (by omega) (by omega) | exact vp_add 81 rfl (by omega) (by omega) | exact vp_add 91 rfl (by omega) (by omega) | exact vp_add 101 rfl (by omega) (by omega) | exact vp_add 109 rfl (by omega) (by omega)) ?_
        refine lda_n_3_1 (pc := 286) d_Md_keep_286 ?_
        refine r_bipush (pc := 287) (v := 122) d_Md_keep_287 rfl ?_
        refine lda_n_3_0 (pc := 289) d_Md_keep_289 ?_
        refine g_Md_336 (pc := 290) rfl d_Md_keep_290 (by assumption) ?_
        refine r_iast (pc := 293) d_Md_keep_293 (by assumption) (by first | exact vp_in_nI (by omega) (by omega) | (unfold vp_in; decide) | exact vp_add 18 rfl (by omega) (by omega) | exact vp_add 6 rfl (by omega) (by omega) | exact vp_add 12 rfl (by omega) (by omega) | exact vp_add 24 rfl (by omega) (by omega) | exact vp_add 30 rfl (by omega) (by omega) | exact vp_add 36 rfl (by omega) (by omega) | exact vp_add 42 rfl (by omega) (by omega) | exact vp_add 66 rfl (by omega) (by omega) | exact vp_add 71 rfl (by omega) (by omega) | exact vp_add 76 rfl (by omega) (by omega) | exact vp_add 81 rfl (by omega) (by omega) | exact vp_add 91 rfl (by omega) (by omega) | exact vp_add 101 rfl (by omega) (by omega) | exact vp_add 109 rfl (by omega) (by omega)) ?_
        refine lda_n_3_1 (pc := 294) d_Md_keep_294 ?_
        refine r_bipush (pc := 295) (v := 123) d_Md_keep_295 rfl ?_
        refine lda_n_3_0 (pc := 297) d_Md_keep_297 ?_
        refine g_Md_113 (pc := 298) rfl d_Md_keep_298 (by assumption) ?_
        refine r_iast (pc := 301) d_Md_keep_301 (by assumption) (by first | exact vp_in_nI (by omega) (by omega) | (unfold vp_in; decide) | exact vp_add 18 rfl (by omega) (by omega) | exact vp_add 6 rfl (by omega) (by omega) | exact vp_add 12 rfl (by omega) (by omega) | exact vp_add 24 rfl (by omega) (by omega) | exact vp_add 30 rfl (by omega) (by omega) | exact vp_add 36 rfl (by omega) (by omega) | exact vp_add 42 rfl (by omega) (by omega) | exact vp_add 66 rfl (by omega) (by omega) | exact vp_add 71 rfl (by omega) (by omega) | exact vp_add 76 rfl (by omega) (by omega) | exact vp_add 81 rfl (by omega) (by omega) | exact vp_add 91 rfl (by omega) (by omega) | exact vp_add 101 rfl (by omega) (by omega) | exact vp_add 109 rfl (by omega) (by omega)) ?_
        exact r_vret d_Md_keep_302 rfl (by omega) (by omega) (⟨rfl, rfl, ((((((h2.up rfl).up rfl).up rfl).up rfl).up rfl).up rfl).up rfl, rfl⟩)
      · exact absurd (show nI 8 ≤ nI 8 from by decide) c
    · intro k hk ih I2 h2
      refine ldi_n_3_2 (pc := 210) d_Md_keep_210 ?_
      refine r_bipush (pc := 211) (v := 8) d_Md_keep_211 rfl ?_
      refine r_icmp_ge (pc := 213) (tgt := 246) d_Md_keep_213 (by decide) (fun c => ?_) (fun c => ?_)
      · exact absurd (show nI 8 ≤ nI k from c) (nI_ge hk (by omega))
      · refine lda_n_3_1 (pc := 216) d_Md_keep_216 ?_
        refine r_bipush (pc := 217) (v := 101) d_Md_keep_217 rfl ?_
        refine ldi_n_3_2 (pc := 219) d_Md_keep_219 ?_
        refine r_iadd (pc := 220) d_Md_keep_220 ?_
        refine lda_n_3_0 (pc := 221) d_Md_keep_221 ?_
        refine g_Md_76 (pc := 222) rfl d_Md_keep_222 (by assumption) (by assumption) ?_
        refine ldi_n_3_2 (pc := 225) d_Md_keep_225 ?_
        refine r_iald (pc := 226) d_Md_keep_226 (by assumption) (by first | exact vp_in_nI (by omega) (by omega) | (unfold vp_in; decide) | exact vp_add 18 rfl (by omega) (by omega) | exact vp_add 6 rfl (by omega) (by omega) | exact vp_add 12 rfl (by omega) (by omega) | exact vp_add 24 rfl (by omega) (by omega) | exact vp_add 30 rfl (by omega) (by omega) | exact vp_add 36 rfl (by omega) (by omega) | exact vp_add 42 rfl (by omega) (by omega) | exact vp_add 66 rfl (by omega) (by omega) | exact vp_add 71 rfl (by omega) (by omega) | exact vp_add 76 rfl (by omega) (by omega) | exact vp_add 81 rfl (by omega) (by omega) | exact vp_add 91 rfl (by omega) (by omega) | exact vp_add 101 rfl (by omega) (by omega) | exact vp_add 109 rfl (by omega) (by omega)) ?_
        refine r_iast (pc := 227) d_Md_keep_227 (by assumption) (by first | exact vp_in_nI (by omega) (by omega) | (unfold vp_in; decide) | exact vp_add 18 rfl (by omega) (by omega) | exact vp_add 6 rfl (by omega) (by omega) | exact vp_add 12 rfl (by omega) (by omega) | exact vp_add 24 rfl (by omega) (by omega) | exact vp_add 30 rfl (by omega) (by omega) | exact vp_add 36 rfl (by omega) (by omega) | exact vp_add 42 rfl (by omega) (by omega) | exact vp_add 66 rfl (by omega) (by omega) | exact vp_add 71 rfl (by omega) (by omega) | exact vp_add 76 rfl (by omega) (by omega) | exact vp_add 81 rfl (by omega) (by omega) | exact vp_add 91 rfl (by omega) (by omega) | exact vp_add 101 rfl (by omega) (by omega) | exact vp_add 109 rfl (by omega) (by omega)) ?_
        refine lda_n_3_1 (pc := 228) d_Md_keep_228 ?_
        refine r_bipush (pc := 229) (v := 109) d_Md_keep_229 rfl ?_
        refine ldi_n_3_2 (pc := 231) d_Md_keep_231 ?_
        refine r_iadd (pc := 232) d_Md_keep_232 ?_
        refine lda_n_3_0 (pc := 233) d_Md_keep_233 ?_
        refine g_Md_79 (pc := 234) rfl d_Md_keep_234 (by assumption) (by assumption) ?_
        refine ldi_n_3_2 (pc := 237) d_Md_keep_237 ?_
        refine r_iald (pc := 238) d_Md_keep_238 (by assumption) (by first | exact vp_in_nI (by omega) (by omega) | (unfold vp_in; decide) | exact vp_add 18 rfl (by omega) (by omega) | exact vp_add 6 rfl (by omega) (by omega) | exact vp_add 12 rfl (by omega) (by omega) | exact vp_add 24 rfl (by omega) (by omega) | exact vp_add 30 rfl (by omega) (by omega) | exact vp_add 36 rfl (by omega) (by omega) | exact vp_add 42 rfl (by omega) (by omega) | exact vp_add 66 rfl (by omega) (by omega) | exact vp_add 71 rfl (by omega) (by omega) | exact vp_add 76 rfl (by omega) (by omega) | exact vp_add 81 rfl (by omega) (by omega) | exact vp_add 91 rfl (by omega) (by omega) | exact vp_add 101 rfl (by omega) (by omega) | exact vp_add 109 rfl (by omega) (by omega)) ?_
        refine r_iast (pc := 239) d_Md_keep_239 (by assumption) (by first | exact vp_in_nI (by omega) (by omega) | (unfold vp_in; decide) | exact vp_add 18 rfl (by omega) (by omega) | exact vp_add 6 rfl (by omega) (by omega) | exact vp_add 12 rfl (by omega) (by omega) | exact vp_add 24 rfl (by omega) (by omega) | exact vp_add 30 rfl (by omega) (by omega) | exact vp_add 36 rfl (by omega) (by omega) | exact vp_add 42 rfl (by omega) (by omega) | exact vp_add 66 rfl (by omega) (by omega) | exact vp_add 71 rfl (by omega) (by omega) | exact vp_add 76 rfl (by omega) (by omega) | exact vp_add 81 rfl (by omega) (by omega) | exact vp_add 91 rfl (by omega) (by omega) | exact vp_add 101 rfl (by omega) (by omega) | exact vp_add 109 rfl (by omega) (by omega)) ?_
        refine inc_3_2 (pc := 240) (w := 1) d_Md_keep_240 rfl rfl ?_
        refine r_goto (pc := 243) (tgt := 210) d_Md_keep_243 (by decide) ?_
        rw [q1]
        exact ih _ ((h2.up rfl).up rfl)
  have key4 : ∀ k, k ≤ 10 → ∀ I2, qOnly (fun a => a = o) I I2 → qW E y_Md_keep b_Md_keep none 0 0 0 (fun v S' I' J' => v = none ∧ S = S' ∧ qOnly (fun a => a = o) I I' ∧ J = J') 0 0 172 [some (.ref (qb E + 114)), some (.ref (qb E + o)), some (.int (nI k))] [] S I2 J := by
    refine qfor 10 ?_ ?_
    · intro I2 h2
      refine ldi_n_3_2 (pc := 172) d_Md_keep_172 ?_
      refine r_bipush (pc := 173) (v := 10) d_Md_keep_173 rfl ?_
      refine r_icmp_ge (pc := 175) (tgt := 208) d_Md_keep_175 (by decide) (fun c => ?_) (fun c => ?_)
      · refine r_iconst (pc := 208) (v := 0) d_Md_keep_208 rfl ?_
        refine sti_n_3_2 (pc := 209) d_Md_keep_209 rfl ?_
        rw [q0]
        exact key5 0 (by omega) I2 h2
      · exact absurd (show nI 10 ≤ nI 10 from by decide) c
    · intro k hk ih I2 h2
      refine ldi_n_3_2 (pc := 172) d_Md_keep_172 ?_
      refine r_bipush (pc := 173) (v := 10) d_Md_keep_173 rfl ?_
      refine r_icmp_ge (pc := 175) (tgt := 208) d_Md_keep_175 (by decide) (fun c => ?_) (fun c => ?_)
      · exact absurd (show nI 10 ≤ nI k from c) (nI_ge hk (by omega))
      · refine lda_n_3_1 (pc := 178) d_Md_keep_178 ?_
        refine r_bipush (pc := 179) (v := 81) d_Md_keep_179 rfl ?_
        refine ldi_n_3_2 (pc := 181) d_Md_keep_181 ?_
        refine r_iadd (pc := 182) d_Md_keep_182 ?_
        refine lda_n_3_0 (pc := 183) d_Md_keep_183 ?_
        refine g_Md_70 (pc := 184) rfl d_Md_keep_184 (by assumption) (by assumption) ?_
        refine ldi_n_3_2 (pc := 187) d_Md_keep_187 ?_
        refine r_iald (pc := 188) d_Md_keep_188 (by assumption) (by first | exact vp_in_nI (by omega) (by omega) | (unfold vp_in; decide) | exact vp_add 18 rfl (by omega) (by omega) | exact vp_add 6 rfl (by omega) (by omega) | exact vp_add 12 rfl (by omega) (by omega) | exact vp_add 24 rfl (by omega) (by omega) | exact vp_add 30 rfl (by omega) (by omega) | exact vp_add 36 rfl (by omega) (by omega) | exact vp_add 42 rfl (by omega) (by omega) | exact vp_add 66 rfl (by omega) (by omega) | exact vp_add 71 rfl (by omega) (by omega) | exact vp_add 76 rfl (by omega) (by omega) | exact vp_add 81 rfl (by omega) (by omega) | exact vp_add 91 rfl (by omega) (by omega) | exact vp_add 101 rfl (by omega) (by omega) | exact vp_add 109 rfl (by omega) (by omega)) ?_
        refine r_iast (pc := 189) d_Md_keep_189 (by assumption) (by first | exact vp_in_nI (by omega) (by omega) | (unfold vp_in; decide) | exact vp_add 18 rfl (by omega) (by omega) | exact vp_add 6 rfl (by omega) (by omega) | exact vp_add 12 rfl (by omega) (by omega) | exact vp_add 24 rfl (by omega) (by omega) | exact vp_add 30 rfl (by omega) (by omega) | exact vp_add 36 rfl (by omega) (by omega) | exact vp_add 42 rfl (by omega) (by omega) | exact vp_add 66 rfl (by omega) (by omega) | exact vp_add 71 rfl (by omega) (by omega) | exact vp_add 76 rfl (by omega) (by omega) | exact vp_add 81 rfl (by omega) (by omega) | exact vp_add 91 rfl (by omega) (by omega) | exact vp_add 101 rfl (by omega) (by omega) | exact vp_add 109 rfl (by omega) (by omega)) ?_
        refine lda_n_3_1 (pc := 190) d_Md_keep_190 ?_
        refine r_bipush (pc := 191) (v := 91) d_Md_keep_191 rfl ?_
        refine ldi_n_3_2 (pc := 193) d_Md_keep_193 ?_
        refine r_iadd (pc := 194) d_Md_keep_194 ?_
        refine lda_n_3_0 (pc := 195) d_Md_keep_195 ?_
        refine g_Md_73 (pc := 196) rfl d_Md_keep_196 (by assumption) (by assumption) ?_
        refine ldi_n_3_2 (pc := 199) d_Md_keep_199 ?_
        refine r_iald (pc := 200) d_Md_keep_200 (by assumption) (by first | exact vp_in_nI (by omega) (by omega) | (unfold vp_in; decide) | exact vp_add 18 rfl (by omega) (by omega) | exact vp_add 6 rfl (by omega) (by omega) | exact vp_add 12 rfl (by omega) (by omega) | exact vp_add 24 rfl (by omega) (by omega) | exact vp_add 30 rfl (by omega) (by omega) | exact vp_add 36 rfl (by omega) (by omega) | exact vp_add 42 rfl (by omega) (by omega) | exact vp_add 66 rfl (by omega) (by omega) | exact vp_add 71 rfl (by omega) (by omega) | exact vp_add 76 rfl (by omega) (by omega) | exact vp_add 81 rfl (by omega) (by omega) | exact vp_add 91 rfl (by omega) (by omega) | exact vp_add 101 rfl (by omega) (by omega) | exact vp_add 109 rfl (by omega) (by omega)) ?_
        refine r_iast (pc := 201) d_Md_keep_201 (by assumption) (by first | exact vp_in_nI (by omega) (by omega) | (unfold vp_in; decide) | exact vp_add 18 rfl (by omega) (by omega) | exact vp_add 6 rfl (by omega) (by omega) | exact vp_add 12 rfl (by omega) (by omega) | exact vp_add 24 rfl (by omega) (by omega) | exact vp_add 30 rfl (by omega) (by omega) | exact vp_add 36 rfl (by omega) (by omega) | exact vp_add 42 rfl (by omega) (by omega) | exact vp_add 66 rfl (by omega) (by omega) | exact vp_add 71 rfl (by omega) (by omega) | exact vp_add 76 rfl (by omega) (by omega) | exact vp_add 81 rfl (by omega) (by omega) | exact vp_add 91 rfl (by omega) (by omega) | exact vp_add 101 rfl (by omega) (by omega) | exact vp_add 109 rfl (by omega) (by omega)) ?_
        refine inc_3_2 (pc := 202) (w := 1) d_Md_keep_202 rfl rfl ?_
        refine r_goto (pc := 205) (tgt := 172) d_Md_keep_205 (by decide) ?_
        rw [q1]
        exact ih _ ((h2.up rfl).up rfl)
  have key3 : ∀ k, k ≤ 5 → ∀ I2, qOnly (fun a => a = o) I I2 → qW E y_Md_keep b_Md_keep none 0 0 0 (fun v S' I' J' => v = none ∧ S = S' ∧ qOnly (fun a => a = o) I I' ∧ J = J') 0 0 123 [some (.ref (qb E + 114)), some (.ref (qb E + o)), some (.int (nI k))] [] S I2 J := by
    refine qfor 5 ?_ ?_
    · intro I2 h2
      refine ldi_n_3_2 (pc := 123) d_Md_keep_123 ?_
      refine r_iconst (pc := 124) (v := 5) d_Md_keep_124 rfl ?_
      refine r_icmp_ge (pc := 125) (tgt := 170) d_Md_keep_125 (by decide) (fun c => ?_) (fun c => ?_)
      · refine r_iconst (pc := 170) (v := 0) d_Md_keep_170 rfl ?_
        refine sti_n_3_2 (pc := 171) d_Md_keep_171 rfl ?_
        rw [q0]
        exact key4 0 (by omega) I2 h2
      · exact absurd (show nI 5 ≤ nI 5 from by decide) c
    · intro k hk ih I2 h2
      refine ldi_n_3_2 (pc := 123) d_Md_keep_123 ?_
      refine r_iconst (pc := 124) (v := 5) d_Md_keep_124 rfl ?_
      refine r_icmp_ge (pc := 125) (tgt := 170) d_Md_keep_125 (by decide) (fun c => ?_) (fun c => ?_)
      · exact absurd (show nI 5 ≤ nI k from c) (nI_ge hk (by omega))
      · refine lda_n_3_1 (pc := 128) d_Md_keep_128 ?_
        refine r_bipush (pc := 129) (v := 66) d_Md_keep_129 rfl ?_
        refine ldi_n_3_2 (pc := 131) d_Md_keep_131 ?_
        refine r_iadd (pc := 132) d_Md_keep_132 ?_
        refine lda_n_3_0 (pc := 133) d_Md_keep_133 ?_
        refine g_Md_61 (pc := 134) rfl d_Md_keep_134 (by assumption) (by assumption) ?_
        refine ldi_n_3_2 (pc := 137) d_Md_keep_137 ?_
        refine r_iald (pc := 138) d_Md_keep_138 (by assumption) (by first | exact vp_in_nI (by omega) (by omega) | (unfold vp_in; decide) | exact vp_add 18 rfl (by omega) (by omega) | exact vp_add 6 rfl (by omega) (by omega) | exact vp_add 12 rfl (by omega) (by omega) | exact vp_add 24 rfl (by omega) (by omega) | exact vp_add 30 rfl (by omega) (by omega) | exact vp_add 36 rfl (by omega) (by omega) | exact vp_add 42 rfl (by omega) (by omega) | exact vp_add 66 rfl (by omega) (by omega) | exact vp_add 71 rfl (by omega) (by omega) | exact vp_add 76 rfl (by omega) (by omega) | exact vp_add 81 rfl (by omega) (by omega) | exact vp_add 91 rfl (by omega) (by omega) | exact vp_add 101 rfl (by omega) (by omega) | exact vp_add 109 rfl (by omega) (by omega)) ?_
        refine r_iast (pc := 139) d_Md_keep_139 (by assumption) (by first | exact vp_in_nI (by omega) (by omega) | (unfold vp_in; decide) | exact vp_add 18 rfl (by omega) (by omega) | exact vp_add 6 rfl (by omega) (by omega) | exact vp_add 12 rfl (by omega) (by omega) | exact vp_add 24 rfl (by omega) (by omega) | exact vp_add 30 rfl (by omega) (by omega) | exact vp_add 36 rfl (by omega) (by omega) | exact vp_add 42 rfl (by omega) (by omega) | exact vp_add 66 rfl (by omega) (by omega) | exact vp_add 71 rfl (by omega) (by omega) | exact vp_add 76 rfl (by omega) (by omega) | exact vp_add 81 rfl (by omega) (by omega) | exact vp_add 91 rfl (by omega) (by omega) | exact vp_add 101 rfl (by omega) (by omega) | exact vp_add 109 rfl (by omega) (by omega)) ?_
        refine lda_n_3_1 (pc := 140) d_Md_keep_140 ?_
        refine r_bipush (pc := 141) (v := 71) d_Md_keep_141 rfl ?_
        refine ldi_n_3_2 (pc := 143) d_Md_keep_143 ?_
        refine r_iadd (pc := 144) d_Md_keep_144 ?_
        refine lda_n_3_0 (pc := 145) d_Md_keep_145 ?_
        refine g_Md_64 (pc := 146) rfl d_Md_keep_146 (by assumption) (by assumption) ?_
        refine ldi_n_3_2 (pc := 149) d_Md_keep_149 ?_
        refine r_iald (pc := 150) d_Md_keep_150 (by assumption) (by first | exact vp_in_nI (by omega) (by omega) | (unfold vp_in; decide) | exact vp_add 18 rfl (by omega) (by omega) | exact vp_add 6 rfl (by omega) (by omega) | exact vp_add 12 rfl (by omega) (by omega) | exact vp_add 24 rfl (by omega) (by omega) | exact vp_add 30 rfl (by omega) (by omega) | exact vp_add 36 rfl (by omega) (by omega) | exact vp_add 42 rfl (by omega) (by omega) | exact vp_add 66 rfl (by omega) (by omega) | exact vp_add 71 rfl (by omega) (by omega) | exact vp_add 76 rfl (by omega) (by omega) | exact vp_add 81 rfl (by omega) (by omega) | exact vp_add 91 rfl (by omega) (by omega) | exact vp_add 101 rfl (by omega) (by omega) | exact vp_add 109 rfl (by omega) (by omega)) ?_
        refine r_iast (pc := 151) d_Md_keep_151 (by assumption) (by first | exact vp_in_nI (by omega) (by omega) | (unfold vp_in; decide) | exact vp_add 18 rfl (by omega) (by omega) | exact vp_add 6 rfl (by omega) (by omega) | exact vp_add 12 rfl (by omega) (by omega) | exact vp_add 24 rfl (by omega) (by omega) | exact vp_add 30 rfl (by omega) (by omega) | exact vp_add 36 rfl (by omega) (by omega) | exact vp_add 42 rfl (by omega) (by omega) | exact vp_add 66 rfl (by omega) (by omega) | exact vp_add 71 rfl (by omega) (by omega) | exact vp_add 76 rfl (by omega) (by omega) | exact vp_add 81 rfl (by omega) (by omega) | exact vp_add 91 rfl (by omega) (by omega) | exact vp_add 101 rfl (by omega) (by omega) | exact vp_add 109 rfl (by omega) (by omega)) ?_
        refine lda_n_3_1 (pc := 152) d_Md_keep_152 ?_
        refine r_bipush (pc := 153) (v := 76) d_Md_keep_153 rfl ?_
        refine ldi_n_3_2 (pc := 155) d_Md_keep_155 ?_
        refine r_iadd (pc := 156) d_Md_keep_156 ?_
        refine lda_n_3_0 (pc := 157) d_Md_keep_157 ?_
        refine g_Md_67 (pc := 158) rfl d_Md_keep_158 (by assumption) (by assumption) ?_
        refine ldi_n_3_2 (pc := 161) d_Md_keep_161 ?_
        refine r_iald (pc := 162) d_Md_keep_162 (by assumption) (by first | exact vp_in_nI (by omega) (by omega) | (unfold vp_in; decide) | exact vp_add 18 rfl (by omega) (by omega) | exact vp_add 6 rfl (by omega) (by omega) | exact vp_add 12 rfl (by omega) (by omega) | exact vp_add 24 rfl (by omega) (by omega) | exact vp_add 30 rfl (by omega) (by omega) | exact vp_add 36 rfl (by omega) (by omega) | exact vp_add 42 rfl (by omega) (by omega) | exact vp_add 66 rfl (by omega) (by omega) | exact vp_add 71 rfl (by omega) (by omega) | exact vp_add 76 rfl (by omega) (by omega) | exact vp_add 81 rfl (by omega) (by omega) | exact vp_add 91 rfl (by omega) (by omega) | exact vp_add 101 rfl (by omega) (by omega) | exact vp_add 109 rfl (by omega) (by omega)) ?_
        refine r_iast (pc := 163) d_Md_keep_163 (by assumption) (by first | exact vp_in_nI (by omega) (by omega) | (unfold vp_in; decide) | exact vp_add 18 rfl (by omega) (by omega) | exact vp_add 6 rfl (by omega) (by omega) | exact vp_add 12 rfl (by omega) (by omega) | exact vp_add 24 rfl (by omega) (by omega) | exact vp_add 30 rfl (by omega) (by omega) | exact vp_add 36 rfl (by omega) (by omega) | exact vp_add 42 rfl (by omega) (by omega) | exact vp_add 66 rfl (by omega) (by omega) | exact vp_add 71 rfl (by omega) (by omega) | exact vp_add 76 rfl (by omega) (by omega) | exact vp_add 81 rfl (by omega) (by omega) | exact vp_add 91 rfl (by omega) (by omega) | exact vp_add 101 rfl (by omega) (by omega) | exact vp_add 109 rfl (by omega) (by omega)) ?_
        refine inc_3_2 (pc := 164) (w := 1) d_Md_keep_164 rfl rfl ?_
        refine r_goto (pc := 167) (tgt := 123) d_Md_keep_167 (by decide) ?_
        rw [q1]
        exact ih _ (((h2.up rfl).up rfl).up rfl)
  have key2 : ∀ k, k ≤ 24 → ∀ I2, qOnly (fun a => a = o) I I2 → qW E y_Md_keep b_Md_keep none 0 0 0 (fun v S' I' J' => v = none ∧ S = S' ∧ qOnly (fun a => a = o) I I' ∧ J = J') 0 0 97 [some (.ref (qb E + 114)), some (.ref (qb E + o)), some (.int (nI k))] [] S I2 J := by
    refine qfor 24 ?_ ?_
    · intro I2 h2
      refine ldi_n_3_2 (pc := 97) d_Md_keep_97 ?_
      refine r_bipush (pc := 98) (v := 24) d_Md_keep_98 rfl ?_
      refine r_icmp_ge (pc := 100) (tgt := 121) d_Md_keep_100 (by decide) (fun c => ?_) (fun c => ?_)
      · refine r_iconst (pc := 121) (v := 0) d_Md_keep_121 rfl ?_
        refine sti_n_3_2 (pc := 122) d_Md_keep_122 rfl ?_
        rw [q0]
        exact key3 0 (by omega) I2 h2
      · exact absurd (show nI 24 ≤ nI 24 from by decide) c
    · intro k hk ih I2 h2
      refine ldi_n_3_2 (pc := 97) d_Md_keep_97 ?_
      refine r_bipush (pc := 98) (v := 24) d_Md_keep_98 rfl ?_
      refine r_icmp_ge (pc := 100) (tgt := 121) d_Md_keep_100 (by decide) (fun c => ?_) (fun c => ?_)
      · exact absurd (show nI 24 ≤ nI k from c) (nI_ge hk (by omega))
      · refine lda_n_3_1 (pc := 103) d_Md_keep_103 ?_
        refine r_bipush (pc := 104) (v := 42) d_Md_keep_104 rfl ?_
        refine ldi_n_3_2 (pc := 106) d_Md_keep_106 ?_
        refine r_iadd (pc := 107) d_Md_keep_107 ?_
        refine lda_n_3_0 (pc := 108) d_Md_keep_108 ?_
        refine g_Md_30 (pc := 109) rfl d_Md_keep_109 (by assumption) (by assumption) ?_
        refine ldi_n_3_2 (pc := 112) d_Md_keep_112 ?_
        refine r_iald (pc := 113) d_Md_keep_113 (by assumption) (by first | exact vp_in_nI (by omega) (by omega) | (unfold vp_in; decide) | exact vp_add 18 rfl (by omega) (by omega) | exact vp_add 6 rfl (by omega) (by omega) | exact vp_add 12 rfl (by omega) (by omega) | exact vp_add 24 rfl (by omega) (by omega) | exact vp_add 30 rfl (by omega) (by omega) | exact vp_add 36 rfl (by omega) (by omega) | exact vp_add 42 rfl (by omega) (by omega) | exact vp_add 66 rfl (by omega) (by omega) | exact vp_add 71 rfl (by omega) (by omega) | exact vp_add 76 rfl (by omega) (by omega) | exact vp_add 81 rfl (by omega) (by omega) | exact vp_add 91 rfl (by omega) (by omega) | exact vp_add 101 rfl (by omega) (by omega) | exact vp_add 109 rfl (by omega) (by omega)) ?_
        refine r_iast (pc := 114) d_Md_keep_114 (by assumption) (by first | exact vp_in_nI (by omega) (by omega) | (unfold vp_in; decide) | exact vp_add 18 rfl (by omega) (by omega) | exact vp_add 6 rfl (by omega) (by omega) | exact vp_add 12 rfl (by omega) (by omega) | exact vp_add 24 rfl (by omega) (by omega) | exact vp_add 30 rfl (by omega) (by omega) | exact vp_add 36 rfl (by omega) (by omega) | exact vp_add 42 rfl (by omega) (by omega) | exact vp_add 66 rfl (by omega) (by omega) | exact vp_add 71 rfl (by omega) (by omega) | exact vp_add 76 rfl (by omega) (by omega) | exact vp_add 81 rfl (by omega) (by omega) | exact vp_add 91 rfl (by omega) (by omega) | exact vp_add 101 rfl (by omega) (by omega) | exact vp_add 109 rfl (by omega) (by omega)) ?_
        refine inc_3_2 (pc := 115) (w := 1) d_Md_keep_115 rfl rfl ?_
        refine r_goto (pc := 118) (tgt := 97) d_Md_keep_118 (by decide) ?_
        rw [q1]
        exact ih _ (h2.up rfl)
  have key1 : ∀ k, k ≤ 6 → ∀ I2, qOnly (fun a => a = o) I I2 → qW E y_Md_keep b_Md_keep none 0 0 0 (fun v S' I' J' => v = none ∧ S = S' ∧ qOnly (fun a => a = o) I I' ∧ J = J') 0 0 2 [some (.ref (qb E + 114)), some (.ref (qb E + o)), some (.int (nI k))] [] S I2 J := by
    refine qfor 6 ?_ ?_
    · intro I2 h2
      refine ldi_n_3_2 (pc := 2) d_Md_keep_2 ?_
      refine r_bipush (pc := 3) (v := 6) d_Md_keep_3 rfl ?_
      refine r_icmp_ge (pc := 5) (tgt := 95) d_Md_keep_5 (by decide) (fun c => ?_) (fun c => ?_)
      · refine r_iconst (pc := 95) (v := 0) d_Md_keep_95 rfl ?_
        refine sti_n_3_2 (pc := 96) d_Md_keep_96 rfl ?_
        rw [q0]
        exact key2 0 (by omega) I2 h2
      · exact absurd (show nI 6 ≤ nI 6 from by decide) c
    · intro k hk ih I2 h2
      refine ldi_n_3_2 (pc := 2) d_Md_keep_2 ?_
      refine r_bipush (pc := 3) (v := 6) d_Md_keep_3 rfl ?_
      refine r_icmp_ge (pc := 5) (tgt := 95) d_Md_keep_5 (by decide) (fun c => ?_) (fun c => ?_)
      · exact absurd (show nI 6 ≤ nI k from c) (nI_ge hk (by omega))
      · refine lda_n_3_1 (pc := 8) d_Md_keep_8 ?_
        refine ldi_n_3_2 (pc := 9) d_Md_keep_9 ?_
        refine lda_n_3_0 (pc := 10) d_Md_keep_10 ?_
        refine g_Md_9 (pc := 11) rfl d_Md_keep_11 (by assumption) (by assumption) ?_
        refine ldi_n_3_2 (pc := 14) d_Md_keep_14 ?_
        refine r_iald (pc := 15) d_Md_keep_15 (by assumption) (by first | exact vp_in_nI (by omega) (by omega) | (unfold vp_in; decide) | exact vp_add 18 rfl (by omega) (by omega) | exact vp_add 6 rfl (by omega) (by omega) | exact vp_add 12 rfl (by omega) (by omega) | exact vp_add 24 rfl (by omega) (by omega) | exact vp_add 30 rfl (by omega) (by omega) | exact vp_add 36 rfl (by omega) (by omega) | exact vp_add 42 rfl (by omega) (by omega) | exact vp_add 66 rfl (by omega) (by omega) | exact vp_add 71 rfl (by omega) (by omega) | exact vp_add 76 rfl (by omega) (by omega) | exact vp_add 81 rfl (by omega) (by omega) | exact vp_add 91 rfl (by omega) (by omega) | exact vp_add 101 rfl (by omega) (by omega) | exact vp_add 109 rfl (by omega) (by omega)) ?_
        refine r_iast (pc := 16) d_Md_keep_16 (by assumption) (by first | exact vp_in_nI (by omega) (by omega) | (unfold vp_in; decide) | exact vp_add 18 rfl (by omega) (by omega) | exact vp_add 6 rfl (by omega) (by omega) | exact vp_add 12 rfl (by omega) (by omega) | exact vp_add 24 rfl (by omega) (by omega) | exact vp_add 30 rfl (by omega) (by omega) | exact vp_add 36 rfl (by omega) (by omega) | exact vp_add 42 rfl (by omega) (by omega) | exact vp_add 66 rfl (by omega) (by omega) | exact vp_add 71 rfl (by omega) (by omega) | exact vp_add 76 rfl (by omega) (by omega) | exact vp_add 81 rfl (by omega) (by omega) | exact vp_add 91 rfl (by omega) (by omega) | exact vp_add 101 rfl (by omega) (by omega) | exact vp_add 109 rfl (by omega) (by omega)) ?_
        refine lda_n_3_1 (pc := 17) d_Md_keep_17 ?_
        refine r_bipush (pc := 18) (v := 6) d_Md_keep_18 rfl ?_
        refine ldi_n_3_2 (pc := 20) d_Md_keep_20 ?_
        refine r_iadd (pc := 21) d_Md_keep_21 ?_
        refine lda_n_3_0 (pc := 22) d_Md_keep_22 ?_
        refine g_Md_15 (pc := 23) rfl d_Md_keep_23 (by assumption) (by assumption) ?_
        refine ldi_n_3_2 (pc := 26) d_Md_keep_26 ?_
        refine r_iald (pc := 27) d_Md_keep_27 (by assumption) (by first | exact vp_in_nI (by omega) (by omega) | (unfold vp_in; decide) | exact vp_add 18 rfl (by omega) (by omega) | exact vp_add 6 rfl (by omega) (by omega) | exact vp_add 12 rfl (by omega) (by omega) | exact vp_add 24 rfl (by omega) (by omega) | exact vp_add 30 rfl (by omega) (by omega) | exact vp_add 36 rfl (by omega) (by omega) | exact vp_add 42 rfl (by omega) (by omega) | exact vp_add 66 rfl (by omega) (by omega) | exact vp_add 71 rfl (by omega) (by omega) | exact vp_add 76 rfl (by omega) (by omega) | exact vp_add 81 rfl (by omega) (by omega) | exact vp_add 91 rfl (by omega) (by omega) | exact vp_add 101 rfl (by omega) (by omega) | exact vp_add 109 rfl (by omega) (by omega)) ?_
        refine r_iast (pc := 28) d_Md_keep_28 (by assumption) (by first | exact vp_in_nI (by omega) (by omega) | (unfold vp_in; decide) | exact vp_add 18 rfl (by omega) (by omega) | exact vp_add 6 rfl (by omega) (by omega) | exact vp_add 12 rfl (by omega) (by omega) | exact vp_add 24 rfl (by omega) (by omega) | exact vp_add 30 rfl (by omega) (by omega) | exact vp_add 36 rfl (by omega) (by omega) | exact vp_add 42 rfl (by omega) (by omega) | exact vp_add 66 rfl (by omega) (by omega) | exact vp_add 71 rfl (by omega) (by omega) | exact vp_add 76 rfl (by omega) (by omega) | exact vp_add 81 rfl (by omega) (by omega) | exact vp_add 91 rfl (by omega) (by omega) | exact vp_add 101 rfl (by omega) (by omega) | exact vp_add 109 rfl (by omega) (by omega)) ?_
        refine lda_n_3_1 (pc := 29) d_Md_keep_29 ?_
        refine r_bipush (pc := 30) (v := 12) d_Md_keep_30 rfl ?_
        refine ldi_n_3_2 (pc := 32) d_Md_keep_32 ?_
        refine r_iadd (pc := 33) d_Md_keep_33 ?_
        refine lda_n_3_0 (pc := 34) d_Md_keep_34 ?_
        refine g_Md_18 (pc := 35) rfl d_Md_keep_35 (by assumption) (by assumption) ?_
        refine ldi_n_3_2 (pc := 38) d_Md_keep_38 ?_
        refine r_iald (pc := 39) d_Md_keep_39 (by assumption) (by first | exact vp_in_nI (by omega) (by omega) | (unfold vp_in; decide) | exact vp_add 18 rfl (by omega) (by omega) | exact vp_add 6 rfl (by omega) (by omega) | exact vp_add 12 rfl (by omega) (by omega) | exact vp_add 24 rfl (by omega) (by omega) | exact vp_add 30 rfl (by omega) (by omega) | exact vp_add 36 rfl (by omega) (by omega) | exact vp_add 42 rfl (by omega) (by omega) | exact vp_add 66 rfl (by omega) (by omega) | exact vp_add 71 rfl (by omega) (by omega) | exact vp_add 76 rfl (by omega) (by omega) | exact vp_add 81 rfl (by omega) (by omega) | exact vp_add 91 rfl (by omega) (by omega) | exact vp_add 101 rfl (by omega) (by omega) | exact vp_add 109 rfl (by omega) (by omega)) ?_
        refine r_iast (pc := 40) d_Md_keep_40 (by assumption) (by first | exact vp_in_nI (by omega) (by omega) | (unfold vp_in; decide) | exact vp_add 18 rfl (by omega) (by omega) | exact vp_add 6 rfl (by omega) (by omega) | exact vp_add 12 rfl (by omega) (by omega) | exact vp_add 24 rfl (by omega) (by omega) | exact vp_add 30 rfl (by omega) (by omega) | exact vp_add 36 rfl (by omega) (by omega) | exact vp_add 42 rfl (by omega) (by omega) | exact vp_add 66 rfl (by omega) (by omega) | exact vp_add 71 rfl (by omega) (by omega) | exact vp_add 76 rfl (by omega) (by omega) | exact vp_add 81 rfl (by omega) (by omega) | exact vp_add 91 rfl (by omega) (by omega) | exact vp_add 101 rfl (by omega) (by omega) | exact vp_add 109 rfl (by omega) (by omega)) ?_
        refine lda_n_3_1 (pc := 41) d_Md_keep_41 ?_
        refine r_bipush (pc := 42) (v := 18) d_Md_keep_42 rfl ?_
        refine ldi_n_3_2 (pc := 44) d_Md_keep_44 ?_
        refine r_iadd (pc := 45) d_Md_keep_45 ?_
        refine lda_n_3_0 (pc := 46) d_Md_keep_46 ?_
        refine g_Md_21 (pc := 47) rfl d_Md_keep_47 (by assumption) (by assumption) ?_
        refine ldi_n_3_2 (pc := 50) d_Md_keep_50 ?_
        refine r_iald (pc := 51) d_Md_keep_51 (by assumption) (by first | exact vp_in_nI (by omega) (by omega) | (unfold vp_in; decide) | exact vp_add 18 rfl (by omega) (by omega) | exact vp_add 6 rfl (by omega) (by omega) | exact vp_add 12 rfl (by omega) (by omega) | exact vp_add 24 rfl (by omega) (by omega) | exact vp_add 30 rfl (by omega) (by omega) | exact vp_add 36 rfl (by omega) (by omega) | exact vp_add 42 rfl (by omega) (by omega) | exact vp_add 66 rfl (by omega) (by omega) | exact vp_add 71 rfl (by omega) (by omega) | exact vp_add 76 rfl (by omega) (by omega) | exact vp_add 81 rfl (by omega) (by omega) | exact vp_add 91 rfl (by omega) (by omega) | exact vp_add 101 rfl (by omega) (by omega) | exact vp_add 109 rfl (by omega) (by omega)) ?_
        refine r_iast (pc := 52) d_Md_keep_52 (by assumption) (by first | exact vp_in_nI (by omega) (by omega) | (unfold vp_in; decide) | exact vp_add 18 rfl (by omega) (by omega) | exact vp_add 6 rfl (by omega) (by omega) | exact vp_add 12 rfl (by omega) (by omega) | exact vp_add 24 rfl (by omega) (by omega) | exact vp_add 30 rfl (by omega) (by omega) | exact vp_add 36 rfl (by omega) (by omega) | exact vp_add 42 rfl (by omega) (by omega) | exact vp_add 66 rfl (by omega) (by omega) | exact vp_add 71 rfl (by omega) (by omega) | exact vp_add 76 rfl (by omega) (by omega) | exact vp_add 81 rfl (by omega) (by omega) | exact vp_add 91 rfl (by omega) (by omega) | exact vp_add 101 rfl (by omega) (by omega) | exact vp_add 109 rfl (by omega) (by omega)) ?_
        refine lda_n_3_1 (pc := 53) d_Md_keep_53 ?_
        refine r_bipush (pc := 54) (v := 24) d_Md_keep_54 rfl ?_
        refine ldi_n_3_2 (pc := 56) d_Md_keep_56 ?_
        refine r_iadd (pc := 57) d_Md_keep_57 ?_
        refine lda_n_3_0 (pc := 58) d_Md_keep_58 ?_
        refine g_Md_24 (pc := 59) rfl d_Md_keep_59 (by assumption) (by assumption) ?_
        refine ldi_n_3_2 (pc := 62) d_Md_keep_62 ?_
        refine r_iald (pc := 63) d_Md_keep_63 (by assumption) (by first | exact vp_in_nI (by omega) (by omega) | (unfold vp_in; decide) | exact vp_add 18 rfl (by omega) (by omega) | exact vp_add 6 rfl (by omega) (by omega) | exact vp_add 12 rfl (by omega) (by omega) | exact vp_add 24 rfl (by omega) (by omega) | exact vp_add 30 rfl (by omega) (by omega) | exact vp_add 36 rfl (by omega) (by omega) | exact vp_add 42 rfl (by omega) (by omega) | exact vp_add 66 rfl (by omega) (by omega) | exact vp_add 71 rfl (by omega) (by omega) | exact vp_add 76 rfl (by omega) (by omega) | exact vp_add 81 rfl (by omega) (by omega) | exact vp_add 91 rfl (by omega) (by omega) | exact vp_add 101 rfl (by omega) (by omega) | exact vp_add 109 rfl (by omega) (by omega)) ?_
        refine r_iast (pc := 64) d_Md_keep_64 (by assumption) (by first | exact vp_in_nI (by omega) (by omega) | (unfold vp_in; decide) | exact vp_add 18 rfl (by omega) (by omega) | exact vp_add 6 rfl (by omega) (by omega) | exact vp_add 12 rfl (by omega) (by omega) | exact vp_add 24 rfl (by omega) (by omega) | exact vp_add 30 rfl (by omega) (by omega) | exact vp_add 36 rfl (by omega) (by omega) | exact vp_add 42 rfl (by omega) (by omega) | exact vp_add 66 rfl (by omega) (by omega) | exact vp_add 71 rfl (by omega) (by omega) | exact vp_add 76 rfl (by omega) (by omega) | exact vp_add 81 rfl (by omega) (by omega) | exact vp_add 91 rfl (by omega) (by omega) | exact vp_add 101 rfl (by omega) (by omega) | exact vp_add 109 rfl (by omega) (by omega)) ?_
        refine lda_n_3_1 (pc := 65) d_Md_keep_65 ?_
        refine r_bipush (pc := 66) (v := 30) d_Md_keep_66 rfl ?_
        refine ldi_n_3_2 (pc := 68) d_Md_keep_68 ?_
        refine r_iadd (pc := 69) d_Md_keep_69 ?_
        refine lda_n_3_0 (pc := 70) d_Md_keep_70 ?_
        refine g_Md_27 (pc := 71) rfl d_Md_keep_71 (by assumption) (by assumption) ?_
        refine ldi_n_3_2 (pc := 74) d_Md_keep_74 ?_
        refine r_iald (pc := 75) d_Md_keep_75 (by assumption) (by first | exact vp_in_nI (by omega) (by omega) | (unfold vp_in; decide) | exact vp_add 18 rfl (by omega) (by omega) | exact vp_add 6 rfl (by omega) (by omega) | exact vp_add 12 rfl (by omega) (by omega) | exact vp_add 24 rfl (by omega) (by omega) | exact vp_add 30 rfl (by omega) (by omega) | exact vp_add 36 rfl (by omega) (by omega) | exact vp_add 42 rfl (by omega) (by omega) | exact vp_add 66 rfl (by omega) (by omega) | exact vp_add 71 rfl (by omega) (by omega) | exact vp_add 76 rfl (by omega) (by omega) | exact vp_add 81 rfl (by omega) (by omega) | exact vp_add 91 rfl (by omega) (by omega) | exact vp_add 101 rfl (by omega) (by omega) | exact vp_add 109 rfl (by omega) (by omega)) ?_
        refine r_iast (pc := 76) d_Md_keep_76 (by assumption) (by first | exact vp_in_nI (by omega) (by omega) | (unfold vp_in; decide) | exact vp_add 18 rfl (by omega) (by omega) | exact vp_add 6 rfl (by omega) (by omega) | exact vp_add 12 rfl (by omega) (by omega) | exact vp_add 24 rfl (by omega) (by omega) | exact vp_add 30 rfl (by omega) (by omega) | exact vp_add 36 rfl (by omega) (by omega) | exact vp_add 42 rfl (by omega) (by omega) | exact vp_add 66 rfl (by omega) (by omega) | exact vp_add 71 rfl (by omega) (by omega) | exact vp_add 76 rfl (by omega) (by omega) | exact vp_add 81 rfl (by omega) (by omega) | exact vp_add 91 rfl (by omega) (by omega) | exact vp_add 101 rfl (by omega) (by omega) | exact vp_add 109 rfl (by omega) (by omega)) ?_
        refine lda_n_3_1 (pc := 77) d_Md_keep_77 ?_
        refine r_bipush (pc := 78) (v := 36) d_Md_keep_78 rfl ?_
        refine ldi_n_3_2 (pc := 80) d_Md_keep_80 ?_
        refine r_iadd (pc := 81) d_Md_keep_81 ?_
        refine lda_n_3_0 (pc := 82) d_Md_keep_82 ?_
        refine g_Md_33 (pc := 83) rfl d_Md_keep_83 (by assumption) (by assumption) ?_
        refine ldi_n_3_2 (pc := 86) d_Md_keep_86 ?_
        refine r_iald (pc := 87) d_Md_keep_87 (by assumption) (by first | exact vp_in_nI (by omega) (by omega) | (unfold vp_in; decide) | exact vp_add 18 rfl (by omega) (by omega) | exact vp_add 6 rfl (by omega) (by omega) | exact vp_add 12 rfl (by omega) (by omega) | exact vp_add 24 rfl (by omega) (by omega) | exact vp_add 30 rfl (by omega) (by omega) | exact vp_add 36 rfl (by omega) (by omega) | exact vp_add 42 rfl (by omega) (by omega) | exact vp_add 66 rfl (by omega) (by omega) | exact vp_add 71 rfl (by omega) (by omega) | exact vp_add 76 rfl (by omega) (by omega) | exact vp_add 81 rfl (by omega) (by omega) | exact vp_add 91 rfl (by omega) (by omega) | exact vp_add 101 rfl (by omega) (by omega) | exact vp_add 109 rfl (by omega) (by omega)) ?_
        refine r_iast (pc := 88) d_Md_keep_88 (by assumption) (by first | exact vp_in_nI (by omega) (by omega) | (unfold vp_in; decide) | exact vp_add 18 rfl (by omega) (by omega) | exact vp_add 6 rfl (by omega) (by omega) | exact vp_add 12 rfl (by omega) (by omega) | exact vp_add 24 rfl (by omega) (by omega) | exact vp_add 30 rfl (by omega) (by omega) | exact vp_add 36 rfl (by omega) (by omega) | exact vp_add 42 rfl (by omega) (by omega) | exact vp_add 66 rfl (by omega) (by omega) | exact vp_add 71 rfl (by omega) (by omega) | exact vp_add 76 rfl (by omega) (by omega) | exact vp_add 81 rfl (by omega) (by omega) | exact vp_add 91 rfl (by omega) (by omega) | exact vp_add 101 rfl (by omega) (by omega) | exact vp_add 109 rfl (by omega) (by omega)) ?_
        refine inc_3_2 (pc := 89) (w := 1) d_Md_keep_89 rfl rfl ?_
        refine r_goto (pc := 92) (tgt := 2) d_Md_keep_92 (by decide) ?_
        rw [q1]
        exact ih _ (((((((h2.up rfl).up rfl).up rfl).up rfl).up rfl).up rfl).up rfl)
  exact key1 0 (by omega) I qOnly.rf
theorem c_Md_again0 {o : Nat} (hM : isMd S) (hA : qAr S o 11 125) : qMet E y_Md_again b_Md_again 3 none 0 0 0 [.ref (qb E + 114), .ref (qb E + o)] S I J (fun v S' I' J' => v = none ∧ S = S' ∧ qOnly (fun a => 114 ≤ a) I I' ∧ J = J') := by
  have f1 := hM.r 0 rfl
  have f2 := hM.r 1 rfl
  have f3 := hM.r 2 rfl
  have f4 := hM.r 3 rfl
  have f5 := hM.r 4 rfl
  have f6 := hM.r 5 rfl
  have f7 := hM.r 6 rfl
  have f9 := hM.r 7 rfl
  have f28 := hM.r 16 rfl
  have f29 := hM.r 17 rfl
  have f30 := hM.r 18 rfl
  have f32 := hM.r 19 rfl
  have f33 := hM.r 20 rfl
  have f35 := hM.r 21 rfl
  have f36 := hM.r 22 rfl
  have g1 := hM.a 0 rfl
  have g2 := hM.a 1 rfl
  have g3 := hM.a 2 rfl
  have g4 := hM.a 3 rfl
  have g5 := hM.a 4 rfl
  have g6 := hM.a 5 rfl
  have g7 := hM.a 6 rfl
  have g9 := hM.a 7 rfl
  have g28 := hM.a 16 rfl
  have g29 := hM.a 17 rfl
  have g30 := hM.a 18 rfl
  have g32 := hM.a 19 rfl
  have g33 := hM.a 20 rfl
  have g35 := hM.a 21 rfl
  have g36 := hM.a 22 rfl
  have hT := hM.1
  refine qMet.of (L := [some (.ref (qb E + 114)), some (.ref (qb E + o)), none]) (by decide +kernel) (Nat.le_of_ble_eq_true rfl) rfl ?_
  refine r_iconst (pc := 0) (v := 0) d_Md_again_0 rfl ?_
  refine sti_n_3_2 (pc := 1) d_Md_again_1 rfl ?_
  rw [q0]
  have key5 : ∀ k, k ≤ 8 → ∀ I2, qOnly (fun a => 114 ≤ a) I I2 → qW E y_Md_again b_Md_again none 0 0 0 (fun v S' I' J' => v = none ∧ S = S' ∧ qOnly (fun a => 114 ≤ a) I I' ∧ J = J') 0 0 210 [some (.ref (qb E + 114)), some (.ref (qb E + o)), some (.int (nI k))] [] S I2 J := by
    refine qfor 8 ?_ ?_
    · intro I2 h2
      refine ldi_n_3_2 (pc := 210) d_Md_again_210 ?_
      refine r_bipush (pc := 211) (v := 8) d_Md_again_211 rfl ?_
      refine r_icmp_ge (pc := 213) (tgt := 246) d_Md_again_213 (by decide) (fun c => ?_) (fun c => ?_)
      · refine lda_n_3_0 (pc := 246) d_Md_again_246 ?_
        refine lda_n_3_1 (pc := 247) d_Md_again_247 ?_
        refine r_bipush (pc := 248) (v := 117) d_Md_again_248 rfl ?_
        refine r_iald (pc := 250) d_Md_again_250 (by assumption) (by first | exact vp_in_nI (by omega) (by omega) | (unfold vp_in; decide) | exact vp_add 18 rfl (by omega) (by omega) | exact vp_add 6 rfl (by omega) (by omega) | exact vp_add 12 rfl (by omega) (by omega) | exact vp_add 24 rfl (by omega) (by omega) | exact vp_add 30 rfl (by omega) (by omega) | exact vp_add 36 rfl (by omega) (by omega) | exact vp_add 42 rfl (by omega) (by omega) | exact vp_add 66 rfl (by omega) (by omega) | exact vp_add 71 rfl (by omega) (by omega) | exact vp_add 76 rfl (by omega) (by omega) | exact vp_add 81 rfl (by omega) (by omega) | exact vp_add 91 rfl (by omega) (by omega) | exact vp_add 101 rfl (by omega) (by omega) | exact vp_add 109 rfl (by omega) (by omega)) ?_
        refine p_Md_117 (pc := 251) rfl d_Md_again_251 (by assumption) ?_
        refine lda_n_3_0 (pc := 254) d_Md_again_254 ?_
        refine lda_n_3_1 (pc := 255) d_Md_again_255 ?_
        refine r_bipush (pc := 256) (v := 118) d_Md_again_256 rfl ?_
        refine r_iald (pc := 258) d_Md_again_258 (by assumption) (by first | exact vp_in_nI (by omega) (by omega) | (unfold vp_in; decide) | exact vp_add 18 rfl (by omega) (by omega) | exact vp_add 6 rfl (by omega) (by omega) | exact vp_add 12 rfl (by omega) (by omega) | exact vp_add 24 rfl (by omega) (by omega) | exact vp_add 30 rfl (by omega) (by omega) | exact vp_add 36 rfl (by omega) (by omega) | exact vp_add 42 rfl (by omega) (by omega) | exact vp_add 66 rfl (by omega) (by omega) | exact vp_add 71 rfl (by omega) (by omega) | exact vp_add 76 rfl (by omega) (by omega) | exact vp_add 81 rfl (by omega) (by omega) | exact vp_add 91 rfl (by omega) (by omega) | exact vp_add 101 rfl (by omega) (by omega) | exact vp_add 109 rfl (by omega) (by omega)) ?_
        refine p_Md_124 (pc := 259) rfl d_Md_again_259 (by assumption) ?_
        refine lda_n_3_0 (pc := 262) d_Md_again_262 ?_
        refine lda_n_3_1 (pc := 263) d_Md_again_263 ?_
        refine r_bipush (pc := 264) (v := 119) d_Md_again_264 rfl ?_
        refine r_iald (pc := 266) d_Md_again_266 (by assumption) (by first | exact vp_in_nI (by omega) (by omega) | (unfold vp_in; decide) | exact vp_add 18 rfl (by omega) (by omega) | exact vp_add 6 rfl (by omega) (by omega) | exact vp_add 12 rfl (by omega) (by omega) | exact vp_add 24 rfl (by omega) (by omega) | exact vp_add 30 rfl (by omega) (by omega) | exact vp_add 36 rfl (by omega) (by omega) | exact vp_add 42 rfl (by omega) (by omega) | exact vp_add 66 rfl (by omega) (by omega) | exact vp_add 71 rfl (by omega) (by omega) | exact vp_add 76 rfl (by omega) (by omega) | exact vp_add 81 rfl (by omega) (by omega) | exact vp_add 91 rfl (by omega) (by omega) | exact vp_add 101 rfl (by omega) (by omega) | exact vp_add 109 rfl (by omega) (by omega)) ?_
        refine p_Md_135 (pc := 267) rfl d_Md_again_267 (by assumption) ?_
        refine lda_n_3_0 (pc := 270) d_Md_again_270 ?_
        refine lda_n_3_1 (pc := 271) d_Md_again_271 ?_
        refine r_bipush (pc := 272) (v := 120) d_Md_again_272 rfl ?_
        refine r_iald (pc := 274) d_Md_again_274 (by assumption) (by first | exact vp_in_nI (by omega) (by omega) | (unfold vp_in; decide) | exact vp_add 18 rfl (by omega) (by omega) | exact vp_add 6 rfl (by omega) (by omega) | exact vp_add 12 rfl (by omega) (by omega) | exact vp_add 24 rfl (by omega) (by omega) | exact vp_add 30 rfl (by omega) (by omega) | exact vp_add 36 rfl (by omega) (by omega) | exact vp_add 42 rfl (by omega) (by omega) | exact vp_add 66 rfl (by omega) (by omega) | exact vp_add 71 rfl (by omega) (by omega) | exact vp_add 76 rfl (by omega) (by omega) | exact vp_add 81 rfl (by omega) (by omega) | exact vp_add 91 rfl (by omega) (by omega) | exact vp_add 101 rfl (by omega) (by omega) | exact vp_add 109 rfl (by omega) (by omega)) ?_
        refine p_Md_314 (pc := 275) rfl d_Md_again_275 (by assumption) ?_
        refine lda_n_3_0 (pc := 278) d_Md_again_278 ?_
        refine lda_n_3_1 (pc := 279) d_Md_again_279 ?_
        refine r_bipush (pc := 280) (v := 121) d_Md_again_280 rfl ?_
        refine r_iald (pc := 282) d_Md_again_282 (by assumption) (by first | exact vp_in_nI (by omega) (by omega) | (unfold vp_in; decide) | exact vp_add 18 rfl (by omega) (by omega) | exact vp_add 6 rfl (by omega) (by omega) | exact vp_add 12 rfl (by omega) (by omega) | exact vp_add 24 rfl (by omega) (by omega) | exact vp_add 30 rfl (by omega) (by omega) | exact vp_add 36 rfl (by omega) (by omega) | exact vp_add 42 rfl (by omega) (by omega) | exact vp_add 66 rfl (by omega) (by omega) | exact vp_add 71 rfl (by omega) (by omega) | exact vp_add 76 rfl (by omega) (by omega) | exact vp_add 81 rfl (by omega) (by omega) | exact vp_add 91 rfl (by omega) (by omega) | exact vp_add 101 rfl (by omega) (by omega) | exact vp_add 109 rfl (by omega) (by omega)) ?_
        refine p_Md_333 (pc := 283) rfl d_Md_again_283 (by assumption) ?_
        refine lda_n_3_0 (pc := 286) d_Md_again_286 ?_
        refine lda_n_3_1 (pc := 287) d_Md_again_287 ?_
        refine r_bipush (pc := 288) (v := 122) d_Md_again_288 rfl ?_
        refine r_iald (pc := 290) d_Md_again_290 (by assumption) (by first | exact vp_in_nI (by omega) (by omega) | (unfold vp_in; decide) | exact vp_add 18 rfl (by omega) (by omega) | exact vp_add 6 rfl (by omega) (by omega) | exact vp_add 12 rfl (by omega) (by omega) | exact vp_add 24 rfl (by omega) (by omega) | exact vp_add 30 rfl (by omega) (by omega) | exact vp_add 36 rfl (by omega) (by omega) | exact vp_add 42 rfl (by omega) (by omega) | exact vp_add 66 rfl (by omega) (by omega) | exact vp_add 71 rfl (by omega) (by omega) | exact vp_add 76 rfl (by omega) (by omega) | exact vp_add 81 rfl (by omega) (by omega) | exact vp_add 91 rfl (by omega) (by omega) | exact vp_add 101 rfl (by omega) (by omega) | exact vp_add 109 rfl (by omega) (by omega)) ?_
        refine p_Md_336 (pc := 291) rfl d_Md_again_291 (by assumption) ?_
        refine lda_n_3_0 (pc := 294) d_Md_again_294 ?_
        refine lda_n_3_1 (pc := 295) d_Md_again_295 ?_
        refine r_bipush (pc := 296) (v := 123) d_Md_again_296 rfl ?_
        refine r_iald (pc := 298) d_Md_again_298 (by assumption) (by first | exact vp_in_nI (by omega) (by omega) | (unfold vp_in; decide) | exact vp_add 18 rfl (by omega) (by omega) | exact vp_add 6 rfl (by omega) (by omega) | exact vp_add 12 rfl (by omega) (by omega) | exact vp_add 24 rfl (by omega) (by omega) | exact vp_add 30 rfl (by omega) (by omega) | exact vp_add 36 rfl (by omega) (by omega) | exact vp_add 42 rfl (by omega) (by omega) | exact vp_add 66 rfl (by omega) (by omega) | exact vp_add 71 rfl (by omega) (by omega) | exact vp_add 76 rfl (by omega) (by omega) | exact vp_add 81 rfl (by omega) (by omega) | exact vp_add 91 rfl (by omega) (by omega) | exact vp_add 101 rfl (by omega) (by omega) | exact vp_add 109 rfl (by omega) (by omega)) ?_
        refine p_Md_113 (pc := 299) rfl d_Md_again_299 (by assumption) ?_
        exact r_vret d_Md_again_302 rfl (by omega) (by omega) (⟨rfl, rfl, ((((((h2.up (by decide)).up (by decide)).up (by decide)).up (by decide)).up (by decide)).up (by decide)).up (by decide), rfl⟩)
      · exact absurd (show nI 8 ≤ nI 8 from by decide) c
    · intro k hk ih I2 h2
      refine ldi_n_3_2 (pc := 210) d_Md_again_210 ?_
      refine r_bipush (pc := 211) (v := 8) d_Md_again_211 rfl ?_
      refine r_icmp_ge (pc := 213) (tgt := 246) d_Md_again_213 (by decide) (fun c => ?_) (fun c => ?_)
      · exact absurd (show nI 8 ≤ nI k from c) (nI_ge hk (by omega))
      · refine lda_n_3_0 (pc := 216) d_Md_again_216 ?_
        refine g_Md_76 (pc := 217) rfl d_Md_again_217 (by assumption) (by assumption) ?_
        refine ldi_n_3_2 (pc := 220) d_Md_again_220 ?_
        refine lda_n_3_1 (pc := 221) d_Md_again_221 ?_
        refine r_bipush (pc := 222) (v := 101) d_Md_again_222 rfl ?_
        refine ldi_n_3_2 (pc := 224) d_Md_again_224 ?_
        refine r_iadd (pc := 225) d_Md_again_225 ?_
        refine r_iald (pc := 226) d_Md_again_226 (by assumption) (by first | exact vp_in_nI (by omega) (by omega) | (unfold vp_in; decide) | exact vp_add 18 rfl (by omega) (by omega) | exact vp_add 6 rfl (by omega) (by omega) | exact vp_add 12 rfl (by omega) (by omega) | exact vp_add 24 rfl (by omega) (by omega) | exact vp_add 30 rfl (by omega) (by omega) | exact vp_add 36 rfl (by omega) (by omega) | exact vp_add 42 rfl (by omega) (by omega) | exact vp_add 66 rfl (by omega) (by omega) | exact vp_add 71 rfl (by omega) (by omega) | exact vp_add 76 rfl (by omega) (by omega) | exact vp_add 81 rfl (by omega) (by omega) | exact vp_add 91 rfl (by omega) (by omega) | exact vp_add 101 rfl (by omega) (by omega) | exact vp_add 109 rfl (by omega) (by omega)) ?_
        refine r_iast (pc := 227) d_Md_again_227 (by assumption) (by first | exact vp_in_nI (by omega) (by omega) | (unfold vp_in; decide) | exact vp_add 18 rfl (by omega) (by omega) | exact vp_add 6 rfl (by omega) (by omega) | exact vp_add 12 rfl (by omega) (by omega) | exact vp_add 24 rfl (by omega) (by omega) | exact vp_add 30 rfl (by omega) (by omega) | exact vp_add 36 rfl (by omega) (by omega) | exact vp_add 42 rfl (by omega) (by omega) | exact vp_add 66 rfl (by omega) (by omega) | exact vp_add 71 rfl (by omega) (by omega) | exact vp_add 76 rfl (by omega) (by omega) | exact vp_add 81 rfl (by omega) (by omega) | exact vp_add 91 rfl (by omega) (by omega) | exact vp_add 101 rfl (by omega) (by omega) | exact vp_add 109 rfl (by omega) (by omega)) ?_
        refine lda_n_3_0 (pc := 228) d_Md_again_228 ?_
        refine g_Md_79 (pc := 229) rfl d_Md_again_229 (by assumption) (by assumption) ?_
        refine ldi_n_3_2 (pc := 232) d_Md_again_232 ?_
        refine lda_n_3_1 (pc := 233) d_Md_again_233 ?_
        refine r_bipush (pc := 234) (v := 109) d_Md_again_234 rfl ?_
        refine ldi_n_3_2 (pc := 236) d_Md_again_236 ?_
        refine r_iadd (pc := 237) d_Md_again_237 ?_
        refine r_iald (pc := 238) d_Md_again_238 (by assumption) (by first | exact vp_in_nI (by omega) (by omega) | (unfold vp_in; decide) | exact vp_add 18 rfl (by omega) (by omega) | exact vp_add 6 rfl (by omega) (by omega) | exact vp_add 12 rfl (by omega) (by omega) | exact vp_add 24 rfl (by omega) (by omega) | exact vp_add 30 rfl (by omega) (by omega) | exact vp_add 36 rfl (by omega) (by omega) | exact vp_add 42 rfl (by omega) (by omega) | exact vp_add 66 rfl (by omega) (by omega) | exact vp_add 71 rfl (by omega) (by omega) | exact vp_add 76 rfl (by omega) (by omega) | exact vp_add 81 rfl (by omega) (by omega) | exact vp_add 91 rfl (by omega) (by omega) | exact vp_add 101 rfl (by omega) (by omega) | exact vp_add 109 rfl (by omega) (by omega)) ?_
        refine r_iast (pc := 239) d_Md_again_239 (by assumption) (by first | exact vp_in_nI (by omega) (by omega) | (unfold vp_in; decide) | exact vp_add 18 rfl (by omega) (by omega) | exact vp_add 6 rfl (by omega) (by omega) | exact vp_add 12 rfl (by omega) (by omega) | exact vp_add 24 rfl (by omega) (by omega) | exact vp_add 30 rfl (by omega) (by omega) | exact vp_add 36 rfl (by omega) (by omega) | exact vp_add 42 rfl (by omega) (by omega) | exact vp_add 66 rfl (by omega) (by omega) | exact vp_add 71 rfl (by omega) (by omega) | exact vp_add 76 rfl (by omega) (by omega) | exact vp_add 81 rfl (by omega) (by omega) | exact vp_add 91 rfl (by omega) (by omega) | exact vp_add 101 rfl (by omega) (by omega) | exact vp_add 109 rfl (by omega) (by omega)) ?_
        refine inc_3_2 (pc := 240) (w := 1) d_Md_again_240 rfl rfl ?_
        refine r_goto (pc := 243) (tgt := 210) d_Md_again_243 (by decide) ?_
        rw [q1]
        exact ih _ ((h2.up (by decide)).up (by decide))
  have key4 : ∀ k, k ≤ 10 → ∀ I2, qOnly (fun a => 114 ≤ a) I I2 → qW E y_Md_again b_Md_again none 0 0 0 (fun v S' I' J' => v = none ∧ S = S' ∧ qOnly (fun a => 114 ≤ a) I I' ∧ J = J') 0 0 172 [some (.ref (qb E + 114)), some (.ref (qb E + o)), some (.int (nI k))] [] S I2 J := by
    refine qfor 10 ?_ ?_
    · intro I2 h2
      refine ldi_n_3_2 (pc := 172) d_Md_again_172 ?_
      refine r_bipush (pc := 173) (v := 10) d_Md_again_173 rfl ?_
      refine r_icmp_ge (pc := 175) (tgt := 208) d_Md_again_175 (by decide) (fun c => ?_) (fun c => ?_)
      · refine r_iconst (pc := 208) (v := 0) d_Md_again_208 rfl ?_
        refine sti_n_3_2 (pc := 209) d_Md_again_209 rfl ?_
        rw [q0]
        exact key5 0 (by omega) I2 h2
      · exact absurd (show nI 10 ≤ nI 10 from by decide) c
    · intro k hk ih I2 h2
      refine ldi_n_3_2 (pc := 172) d_Md_again_172 ?_
      refine r_bipush (pc := 173) (v := 10) d_Md_again_173 rfl ?_
      refine r_icmp_ge (pc := 175) (tgt := 208) d_Md_again_175 (by decide) (fun c => ?_) (fun c => ?_)
      · exact absurd (show nI 10 ≤ nI k from c) (nI_ge hk (by omega))
      · refine lda_n_3_0 (pc := 178) d_Md_again_178 ?_
        refine g_Md_70 (pc := 179) rfl d_Md_again_179 (by assumption) (by assumption) ?_
        refine ldi_n_3_2 (pc := 182) d_Md_again_182 ?_
        refine lda_n_3_1 (pc := 183) d_Md_again_183 ?_
        refine r_bipush (pc := 184) (v := 81) d_Md_again_184 rfl ?_
        refine ldi_n_3_2 (pc := 186) d_Md_again_186 ?_
        refine r_iadd (pc := 187) d_Md_again_187 ?_
        refine r_iald (pc := 188) d_Md_again_188 (by assumption) (by first | exact vp_in_nI (by omega) (by omega) | (unfold vp_in; decide) | exact vp_add 18 rfl (by omega) (by omega) | exact vp_add 6 rfl (by omega) (by omega) | exact vp_add 12 rfl (by omega) (by omega) | exact vp_add 24 rfl (by omega) (by omega) | exact vp_add 30 rfl (by omega) (by omega) | exact vp_add 36 rfl (by omega) (by omega) | exact vp_add 42 rfl (by omega) (by omega) | exact vp_add 66 rfl (by omega) (by omega) | exact vp_add 71 rfl (by omega) (by omega) | exact vp_add 76 rfl (by omega) (by omega) | exact vp_add 81 rfl (by omega) (by omega) | exact vp_add 91 rfl (by omega) (by omega) | exact vp_add 101 rfl (by omega) (by omega) | exact vp_add 109 rfl (by omega) (by omega)) ?_
        refine r_iast (pc := 189) d_Md_again_189 (by assumption) (by first | exact vp_in_nI (by omega) (by omega) | (unfold vp_in; decide) | exact vp_add 18 rfl (by omega) (by omega) | exact vp_add 6 rfl (by omega) (by omega) | exact vp_add 12 rfl (by omega) (by omega) | exact vp_add 24 rfl (by omega) (by omega) | exact vp_add 30 rfl (by omega) (by omega) | exact vp_add 36 rfl (by omega) (by omega) | exact vp_add 42 rfl (by omega) (by omega) | exact vp_add 66 rfl (by omega) (by omega) | exact vp_add 71 rfl (by omega) (by omega) | exact vp_add 76 rfl (by omega) (by omega) | exact vp_add 81 rfl (by omega) (by omega) | exact vp_add 91 rfl (by omega) (by omega) | exact vp_add 101 rfl (by omega) (by omega) | exact vp_add 109 rfl (by omega) (by omega)) ?_
        refine lda_n_3_0 (pc := 190) d_Md_again_190 ?_
        refine g_Md_73 (pc := 191) rfl d_Md_again_191 (by assumption) (by assumption) ?_
        refine ldi_n_3_2 (pc := 194) d_Md_again_194 ?_
        refine lda_n_3_1 (pc := 195) d_Md_again_195 ?_
        refine r_bipush (pc := 196) (v := 91) d_Md_again_196 rfl ?_
        refine ldi_n_3_2 (pc := 198) d_Md_again_198 ?_
        refine r_iadd (pc := 199) d_Md_again_199 ?_
        refine r_iald (pc := 200) d_Md_again_200 (by assumption) (by first | exact vp_in_nI (by omega) (by omega) | (unfold vp_in; decide) | exact vp_add 18 rfl (by omega) (by omega) | exact vp_add 6 rfl (by omega) (by omega) | exact vp_add 12 rfl (by omega) (by omega) | exact vp_add 24 rfl (by omega) (by omega) | exact vp_add 30 rfl (by omega) (by omega) | exact vp_add 36 rfl (by omega) (by omega) | exact vp_add 42 rfl (by omega) (by omega) | exact vp_add 66 rfl (by omega) (by omega) | exact vp_add 71 rfl (by omega) (by omega) | exact vp_add 76 rfl (by omega) (by omega) | exact vp_add 81 rfl (by omega) (by omega) | exact vp_add 91 rfl (by omega) (by omega) | exact vp_add 101 rfl (by omega) (by omega) | exact vp_add 109 rfl (by omega) (by omega)) ?_
        refine r_iast (pc := 201) d_Md_again_201 (by assumption) (by first | exact vp_in_nI (by omega) (by omega) | (unfold vp_in; decide) | exact vp_add 18 rfl (by omega) (by omega) | exact vp_add 6 rfl (by omega) (by omega) | exact vp_add 12 rfl (by omega) (by omega) | exact vp_add 24 rfl (by omega) (by omega) | exact vp_add 30 rfl (by omega) (by omega) | exact vp_add 36 rfl (by omega) (by omega) | exact vp_add 42 rfl (by omega) (by omega) | exact vp_add 66 rfl (by omega) (by omega) | exact vp_add 71 rfl (by omega) (by omega) | exact vp_add 76 rfl (by omega) (by omega) | exact vp_add 81 rfl (by omega) (by omega) | exact vp_add 91 rfl (by omega) (by omega) | exact vp_add 101 rfl (by omega) (by omega) | exact vp_add 109 rfl (by omega) (by omega)) ?_
        refine inc_3_2 (pc := 202) (w := 1) d_Md_again_202 rfl rfl ?_
        refine r_goto (pc := 205) (tgt := 172) d_Md_again_205 (by decide) ?_
        rw [q1]
        exact ih _ ((h2.up (by decide)).up (by decide))
  have key3 : ∀ k, k ≤ 5 → ∀ I2, qOnly (fun a => 114 ≤ a) I I2 → qW E y_Md_again b_Md_again none 0 0 0 (fun v S' I' J' => v = none ∧ S = S' ∧ qOnly (fun a => 114 ≤ a) I I' ∧ J = J') 0 0 123 [some (.ref (qb E + 114)), some (.ref (qb E + o)), some (.int (nI k))] [] S I2 J := by
    refine qfor 5 ?_ ?_
    · intro I2 h2
      refine ldi_n_3_2 (pc := 123) d_Md_again_123 ?_
      refine r_iconst (pc := 124) (v := 5) d_Md_again_124 rfl ?_
      refine r_icmp_ge (pc := 125) (tgt := 170) d_Md_again_125 (by decide) (fun c => ?_) (fun c => ?_)
      · refine r_iconst (pc := 170) (v := 0) d_Md_again_170 rfl ?_
        refine sti_n_3_2 (pc := 171) d_Md_again_171 rfl ?_
        rw [q0]
        exact key4 0 (by omega) I2 h2
      · exact absurd (show nI 5 ≤ nI 5 from by decide) c
    · intro k hk ih I2 h2
      refine ldi_n_3_2 (pc := 123) d_Md_again_123 ?_
      refine r_iconst (pc := 124) (v := 5) d_Md_again_124 rfl ?_
      refine r_icmp_ge (pc := 125) (tgt := 170) d_Md_again_125 (by decide) (fun c => ?_) (fun c => ?_)
      · exact absurd (show nI 5 ≤ nI k from c) (nI_ge hk (by omega))
      · refine lda_n_3_0 (pc := 128) d_Md_again_128 ?_
        refine g_Md_61 (pc := 129) rfl d_Md_again_129 (by assumption) (by assumption) ?_
        refine ldi_n_3_2 (pc := 132) d_Md_again_132 ?_
        refine lda_n_3_1 (pc := 133) d_Md_again_133 ?_
        refine r_bipush (pc := 134) (v := 66) d_Md_again_134 rfl ?_
        refine ldi_n_3_2 (pc := 136) d_Md_again_136 ?_
        refine r_iadd (pc := 137) d_Md_again_137 ?_
        refine r_iald (pc := 138) d_Md_again_138 (by assumption) (by first | exact vp_in_nI (by omega) (by omega) | (unfold vp_in; decide) | exact vp_add 18 rfl (by omega) (by omega) | exact vp_add 6 rfl (by omega) (by omega) | exact vp_add 12 rfl (by omega) (by omega) | exact vp_add 24 rfl (by omega) (by omega) | exact vp_add 30 rfl (by omega) (by omega) | exact vp_add 36 rfl (by omega) (by omega) | exact vp_add 42 rfl (by omega) (by omega) | exact vp_add 66 rfl (by omega) (by omega) | exact vp_add 71 rfl (by omega) (by omega) | exact vp_add 76 rfl (by omega) (by omega) | exact vp_add 81 rfl (by omega) (by omega) | exact vp_add 91 rfl (by omega) (by omega) | exact vp_add 101 rfl (by omega) (by omega) | exact vp_add 109 rfl (by omega) (by omega)) ?_
        refine r_iast (pc := 139) d_Md_again_139 (by assumption) (by first | exact vp_in_nI (by omega) (by omega) | (unfold vp_in; decide) | exact vp_add 18 rfl (by omega) (by omega) | exact vp_add 6 rfl (by omega) (by omega) | exact vp_add 12 rfl (by omega) (by omega) | exact vp_add 24 rfl (by omega) (by omega) | exact vp_add 30 rfl (by omega) (by omega) | exact vp_add 36 rfl (by omega) (by omega) | exact vp_add 42 rfl (by omega) (by omega) | exact vp_add 66 rfl (by omega) (by omega) | exact vp_add 71 rfl (by omega) (by omega) | exact vp_add 76 rfl (by omega) (by omega) | exact vp_add 81 rfl (by omega) (by omega) | exact vp_add 91 rfl (by omega) (by omega) | exact vp_add 101 rfl (by omega) (by omega) | exact vp_add 109 rfl (by omega) (by omega)) ?_
        refine lda_n_3_0 (pc := 140) d_Md_again_140 ?_
        refine g_Md_64 (pc := 141) rfl d_Md_again_141 (by assumption) (by assumption) ?_
        refine ldi_n_3_2 (pc := 144) d_Md_again_144 ?_
        refine lda_n_3_1 (pc := 145) d_Md_again_145 ?_
        refine r_bipush (pc := 146) (v := 71) d_Md_again_146 rfl ?_
        refine ldi_n_3_2 (pc := 148) d_Md_again_148 ?_
        refine r_iadd (pc := 149) d_Md_again_149 ?_
        refine r_iald (pc := 150) d_Md_again_150 (by assumption) (by first | exact vp_in_nI (by omega) (by omega) | (unfold vp_in; decide) | exact vp_add 18 rfl (by omega) (by omega) | exact vp_add 6 rfl (by omega) (by omega) | exact vp_add 12 rfl (by omega) (by omega) | exact vp_add 24 rfl (by omega) (by omega) | exact vp_add 30 rfl (by omega) (by omega) | exact vp_add 36 rfl (by omega) (by omega) | exact vp_add 42 rfl (by omega) (by omega) | exact vp_add 66 rfl (by omega) (by omega) | exact vp_add 71 rfl (by omega) (by omega) | exact vp_add 76 rfl (by omega) (by omega) | exact vp_add 81 rfl (by omega) (by omega) | exact vp_add 91 rfl (by omega) (by omega) | exact vp_add 101 rfl (by omega) (by omega) | exact vp_add 109 rfl (by omega) (by omega)) ?_
        refine r_iast (pc := 151) d_Md_again_151 (by assumption) (by first | exact vp_in_nI (by omega) (by omega) | (unfold vp_in; decide) | exact vp_add 18 rfl (by omega) (by omega) | exact vp_add 6 rfl (by omega) (by omega) | exact vp_add 12 rfl (by omega) (by omega) | exact vp_add 24 rfl (by omega) (by omega) | exact vp_add 30 rfl (by omega) (by omega) | exact vp_add 36 rfl (by omega) (by omega) | exact vp_add 42 rfl (by omega) (by omega) | exact vp_add 66 rfl (by omega) (by omega) | exact vp_add 71 rfl (by omega) (by omega) | exact vp_add 76 rfl (by omega) (by omega) | exact vp_add 81 rfl (by omega) (by omega) | exact vp_add 91 rfl (by omega) (by omega) | exact vp_add 101 rfl (by omega) (by omega) | exact vp_add 109 rfl (by omega) (by omega)) ?_
        refine lda_n_3_0 (pc := 152) d_Md_again_152 ?_
        refine g_Md_67 (pc := 153) rfl d_Md_again_153 (by assumption) (by assumption) ?_
        refine ldi_n_3_2 (pc := 156) d_Md_again_156 ?_
        refine lda_n_3_1 (pc := 157) d_Md_again_157 ?_
        refine r_bipush (pc := 158) (v := 76) d_Md_again_158 rfl ?_
        refine ldi_n_3_2 (pc := 160) d_Md_again_160 ?_
        refine r_iadd (pc := 161) d_Md_again_161 ?_
        refine r_iald (pc := 162) d_Md_again_162 (by assumption) (by first | exact vp_in_nI (by omega) (by omega) | (unfold vp_in; decide) | exact vp_add 18 rfl (by omega) (by omega) | exact vp_add 6 rfl (by omega) (by omega) | exact vp_add 12 rfl (by omega) (by omega) | exact vp_add 24 rfl (by omega) (by omega) | exact vp_add 30 rfl (by omega) (by omega) | exact vp_add 36 rfl (by omega) (by omega) | exact vp_add 42 rfl (by omega) (by omega) | exact vp_add 66 rfl (by omega) (by omega) | exact vp_add 71 rfl (by omega) (by omega) | exact vp_add 76 rfl (by omega) (by omega) | exact vp_add 81 rfl (by omega) (by omega) | exact vp_add 91 rfl (by omega) (by omega) | exact vp_add 101 rfl (by omega) (by omega) | exact vp_add 109 rfl (by omega) (by omega)) ?_
        refine r_iast (pc := 163) d_Md_again_163 (by assumption) (by first | exact vp_in_nI (by omega) (by omega) | (unfold vp_in; decide) | exact vp_add 18 rfl (by omega) (by omega) | exact vp_add 6 rfl (by omega) (by omega) | exact vp_add 12 rfl (by omega) (by omega) | exact vp_add 24 rfl (by omega) (by omega) | exact vp_add 30 rfl (by omega) (by omega) | exact vp_add 36 rfl (by omega) (by omega) | exact vp_add 42 rfl (by omega) (by omega) | exact vp_add 66 rfl (by omega) (by omega) | exact vp_add 71 rfl (by omega) (by omega) | exact vp_add 76 rfl (by omega) (by omega) | exact vp_add 81 rfl (by omega) (by omega) | exact vp_add 91 rfl (by omega) (by omega) | exact vp_add 101 rfl (by omega) (by omega) | exact vp_add 109 rfl (by omega) (by omega)) ?_
        refine inc_3_2 (pc := 164) (w := 1) d_Md_again_164 rfl rfl ?_
        refine r_goto (pc := 167) (tgt := 123) d_Md_again_167 (by decide) ?_
        rw [q1]
        exact ih _ (((h2.up (by decide)).up (by decide)).up (by decide))
  have key2 : ∀ k, k ≤ 24 → ∀ I2, qOnly (fun a => 114 ≤ a) I I2 → qW E y_Md_again b_Md_again none 0 0 0 (fun v S' I' J' => v = none ∧ S = S' ∧ qOnly (fun a => 114 ≤ a) I I' ∧ J = J') 0 0 97 [some (.ref (qb E + 114)), some (.ref (qb E + o)), some (.int (nI k))] [] S I2 J := by
    refine qfor 24 ?_ ?_
    · intro I2 h2
      refine ldi_n_3_2 (pc := 97) d_Md_again_97 ?_
      refine r_bipush (pc := 98) (v := 24) d_Md_again_98 rfl ?_
      refine r_icmp_ge (pc := 100) (tgt := 121) d_Md_again_100 (by decide) (fun c => ?_) (fun c => ?_)
      · refine r_iconst (pc := 121) (v := 0) d_Md_again_121 rfl ?_
        refine sti_n_3_2 (pc := 122) d_Md_again_122 rfl ?_
        rw [q0]
        exact key3 0 (by omega) I2 h2
      · exact absurd (show nI 24 ≤ nI 24 from by decide) c
    · intro k hk ih I2 h2
      refine ldi_n_3_2 (pc := 97) d_Md_again_97 ?_
      refine r_bipush (pc := 98) (v := 24) d_Md_again_98 rfl ?_
      refine r_icmp_ge (pc := 100) (tgt := 121) d_Md_again_100 (by decide) (fun c => ?_) (fun c => ?_)
      · exact absurd (show nI 24 ≤ nI k from c) (nI_ge hk (by omega))
      · refine lda_n_3_0 (pc := 103) d_Md_again_103 ?_
        refine g_Md_30 (pc := 104) rfl d_Md_again_104 (by assumption) (by assumption) ?_
        refine ldi_n_3_2 (pc := 107) d_Md_again_107 ?_
        refine lda_n_3_1 (pc := 108) d_Md_again_108 ?_
        refine r_bipush (pc := 109) (v := 42) d_Md_again_109 rfl ?_
        refine ldi_n_3_2 (pc := 111) d_Md_again_111 ?_
        refine r_iadd (pc := 112) d_Md_again_112 ?_
        refine r_iald (pc := 113) d_Md_again_113 (by assumption) (by first | exact vp_in_nI (by omega) (by omega) | (unfold vp_in; decide) | exact vp_add 18 rfl (by omega) (by omega) | exact vp_add 6 rfl (by omega) (by omega) | exact vp_add 12 rfl (by omega) (by omega) | exact vp_add 24 rfl (by omega) (by omega) | exact vp_add 30 rfl (by omega) (by omega) | exact vp_add 36 rfl (by omega) (by omega) | exact vp_add 42 rfl (by omega) (by omega) | exact vp_add 66 rfl (by omega) (by omega) | exact vp_add 71 rfl (by omega) (by omega) | exact vp_add 76 rfl (by omega) (by omega) | exact vp_add 81 rfl (by omega) (by omega) | exact vp_add 91 rfl (by omega) (by omega) | exact vp_add 101 rfl (by omega) (by omega) | exact vp_add 109 rfl (by omega) (by omega)) ?_
        refine r_iast (pc := 114) d_Md_again_114 (by assumption) (by first | exact vp_in_nI (by omega) (by omega) | (unfold vp_in; decide) | exact vp_add 18 rfl (by omega) (by omega) | exact vp_add 6 rfl (by omega) (by omega) | exact vp_add 12 rfl (by omega) (by omega) | exact vp_add 24 rfl (by omega) (by omega) | exact vp_add 30 rfl (by omega) (by omega) | exact vp_add 36 rfl (by omega) (by omega) | exact vp_add 42 rfl (by omega) (by omega) | exact vp_add 66 rfl (by omega) (by omega) | exact vp_add 71 rfl (by omega) (by omega) | exact vp_add 76 rfl (by omega) (by omega) | exact vp_add 81 rfl (by omega) (by omega) | exact vp_add 91 rfl (by omega) (by omega) | exact vp_add 101 rfl (by omega) (by omega) | exact vp_add 109 rfl (by omega) (by omega)) ?_
        refine inc_3_2 (pc := 115) (w := 1) d_Md_again_115 rfl rfl ?_
        refine r_goto (pc := 118) (tgt := 97) d_Md_again_118 (by decide) ?_
        rw [q1]
        exact ih _ (h2.up (by decide))
  have key1 : ∀ k, k ≤ 6 → ∀ I2, qOnly (fun a => 114 ≤ a) I I2 → qW E y_Md_again b_Md_again none 0 0 0 (fun v S' I' J' => v = none ∧ S = S' ∧ qOnly (fun a => 114 ≤ a) I I' ∧ J = J') 0 0 2 [some (.ref (qb E + 114)), some (.ref (qb E + o)), some (.int (nI k))] [] S I2 J := by
    refine qfor 6 ?_ ?_
    · intro I2 h2
      refine ldi_n_3_2 (pc := 2) d_Md_again_2 ?_
      refine r_bipush (pc := 3) (v := 6) d_Md_again_3 rfl ?_
      refine r_icmp_ge (pc := 5) (tgt := 95) d_Md_again_5 (by decide) (fun c => ?_) (fun c => ?_)
      · refine r_iconst (pc := 95) (v := 0) d_Md_again_95 rfl ?_
        refine sti_n_3_2 (pc := 96) d_Md_again_96 rfl ?_
        rw [q0]
        exact key2 0 (by omega) I2 h2
      · exact absurd (show nI 6 ≤ nI 6 from by decide) c
    · intro k hk ih I2 h2
      refine ldi_n_3_2 (pc := 2) d_Md_again_2 ?_
      refine r_bipush (pc := 3) (v := 6) d_Md_again_3 rfl ?_
      refine r_icmp_ge (pc := 5) (tgt := 95) d_Md_again_5 (by decide) (fun c => ?_) (fun c => ?_)
      · exact absurd (show nI 6 ≤ nI k from c) (nI_ge hk (by omega))
      · refine lda_n_3_0 (pc := 8) d_Md_again_8 ?_
        refine g_Md_9 (pc := 9) rfl d_Md_again_9 (by assumption) (by assumption) ?_
        refine ldi_n_3_2 (pc := 12) d_Md_again_12 ?_
        refine lda_n_3_1 (pc := 13) d_Md_again_13 ?_
        refine ldi_n_3_2 (pc := 14) d_Md_again_14 ?_
        refine r_iald (pc := 15) d_Md_again_15 (by assumption) (by first | exact vp_in_nI (by omega) (by omega) | (unfold vp_in; decide) | exact vp_add 18 rfl (by omega) (by omega) | exact vp_add 6 rfl (by omega) (by omega) | exact vp_add 12 rfl (by omega) (by omega) | exact vp_add 24 rfl (by omega) (by omega) | exact vp_add 30 rfl (by omega) (by omega) | exact vp_add 36 rfl (by omega) (by omega) | exact vp_add 42 rfl (by omega) (by omega) | exact vp_add 66 rfl (by omega) (by omega) | exact vp_add 71 rfl (by omega) (by omega) | exact vp_add 76 rfl (by omega) (by omega) | exact vp_add 81 rfl (by omega) (by omega) | exact vp_add 91 rfl (by omega) (by omega) | exact vp_add 101 rfl (by omega) (by omega) | exact vp_add 109 rfl (by omega) (by omega)) ?_
        refine r_iast (pc := 16) d_Md_again_16 (by assumption) (by first | exact vp_in_nI (by omega) (by omega) | (unfold vp_in; decide) | exact vp_add 18 rfl (by omega) (by omega) | exact vp_add 6 rfl (by omega) (by omega) | exact vp_add 12 rfl (by omega) (by omega) | exact vp_add 24 rfl (by omega) (by omega) | exact vp_add 30 rfl (by omega) (by omega) | exact vp_add 36 rfl (by omega) (by omega) | exact vp_add 42 rfl (by omega) (by omega) | exact vp_add 66 rfl (by omega) (by omega) | exact vp_add 71 rfl (by omega) (by omega) | exact vp_add 76 rfl (by omega) (by omega) | exact vp_add 81 rfl (by omega) (by omega) | exact vp_add 91 rfl (by omega) (by omega) | exact vp_add 101 rfl (by omega) (by omega) | exact vp_add 109 rfl (by omega) (by omega)) ?_
        refine lda_n_3_0 (pc := 17) d_Md_again_17 ?_
        refine g_Md_15 (pc := 18) rfl d_Md_again_18 (by assumption) (by assumption) ?_
        refine ldi_n_3_2 (pc := 21) d_Md_again_21 ?_
        refine lda_n_3_1 (pc := 22) d_Md_again_22 ?_
        refine r_bipush (pc := 23) (v := 6) d_Md_again_23 rfl ?_
        refine ldi_n_3_2 (pc := 25) d_Md_again_25 ?_
        refine r_iadd (pc := 26) d_Md_again_26 ?_
        refine r_iald (pc := 27) d_Md_again_27 (by assumption) (by first | exact vp_in_nI (by omega) (by omega) | (unfold vp_in; decide) | exact vp_add 18 rfl (by omega) (by omega) | exact vp_add 6 rfl (by omega) (by omega) | exact vp_add 12 rfl (by omega) (by omega) | exact vp_add 24 rfl (by omega) (by omega) | exact vp_add 30 rfl (by omega) (by omega) | exact vp_add 36 rfl (by omega) (by omega) | exact vp_add 42 rfl (by omega) (by omega) | exact vp_add 66 rfl (by omega) (by omega) | exact vp_add 71 rfl (by omega) (by omega) | exact vp_add 76 rfl (by omega) (by omega) | exact vp_add 81 rfl (by omega) (by omega) | exact vp_add 91 rfl (by omega) (by omega) | exact vp_add 101 rfl (by omega) (by omega) | exact vp_add 109 rfl (by omega) (by omega)) ?_
        refine r_iast (pc := 28) d_Md_again_28 (by assumption) (by first | exact vp_in_nI (by omega) (by omega) | (unfold vp_in; decide) | exact vp_add 18 rfl (by omega) (by omega) | exact vp_add 6 rfl (by omega) (by omega) | exact vp_add 12 rfl (by omega) (by omega) | exact vp_add 24 rfl (by omega) (by omega) | exact vp_add 30 rfl (by omega) (by omega) | exact vp_add 36 rfl (by omega) (by omega) | exact vp_add 42 rfl (by omega) (by omega) | exact vp_add 66 rfl (by omega) (by omega) | exact vp_add 71 rfl (by omega) (by omega) | exact vp_add 76 rfl (by omega) (by omega) | exact vp_add 81 rfl (by omega) (by omega) | exact vp_add 91 rfl (by omega) (by omega) | exact vp_add 101 rfl (by omega) (by omega) | exact vp_add 109 rfl (by omega) (by omega)) ?_
        refine lda_n_3_0 (pc := 29) d_Md_again_29 ?_
        refine g_Md_18 (pc := 30) rfl d_Md_again_30 (by assumption) (by assumption) ?_
        refine ldi_n_3_2 (pc := 33) d_Md_again_33 ?_
        refine lda_n_3_1 (pc := 34) d_Md_again_34 ?_
        refine r_bipush (pc := 35) (v := 12) d_Md_again_35 rfl ?_
        refine ldi_n_3_2 (pc := 37) d_Md_again_37 ?_
        refine r_iadd (pc := 38) d_Md_again_38 ?_
        refine r_iald (pc := 39) d_Md_again_39 (by assumption) (by first | exact vp_in_nI (by omega) (by omega) | (unfold vp_in; decide) | exact vp_add 18 rfl (by omega) (by omega) | exact vp_add 6 rfl (by omega) (by omega) | exact vp_add 12 rfl (by omega) (by omega) | exact vp_add 24 rfl (by omega) (by omega) | exact vp_add 30 rfl (by omega) (by omega) | exact vp_add 36 rfl (by omega) (by omega) | exact vp_add 42 rfl (by omega) (by omega) | exact vp_add 66 rfl (by omega) (by omega) | exact vp_add 71 rfl (by omega) (by omega) | exact vp_add 76 rfl (by omega) (by omega) | exact vp_add 81 rfl (by omega) (by omega) | exact vp_add 91 rfl (by omega) (by omega) | exact vp_add 101 rfl (by omega) (by omega) | exact vp_add 109 rfl (by omega) (by omega)) ?_
        refine r_iast (pc := 40) d_Md_again_40 (by assumption) (by first | exact vp_in_nI (by omega) (by omega) | (unfold vp_in; decide) | exact vp_add 18 rfl (by omega) (by omega) | exact vp_add 6 rfl (by omega) (by omega) | exact vp_add 12 rfl (by omega) (by omega) | exact vp_add 24 rfl (by omega) (by omega) | exact vp_add 30 rfl (by omega) (by omega) | exact vp_add 36 rfl (by omega) (by omega) | exact vp_add 42 rfl (by omega) (by omega) | exact vp_add 66 rfl (by omega) (by omega) | exact vp_add 71 rfl (by omega) (by omega) | exact vp_add 76 rfl (by omega) (by omega) | exact vp_add 81 rfl (by omega) (by omega) | exact vp_add 91 rfl (by omega) (by omega) | exact vp_add 101 rfl (by omega) (by omega) | exact vp_add 109 rfl (by omega) (by omega)) ?_
        refine lda_n_3_0 (pc := 41) d_Md_again_41 ?_
        refine g_Md_21 (pc := 42) rfl d_Md_again_42 (by assumption) (by assumption) ?_
        refine ldi_n_3_2 (pc := 45) d_Md_again_45 ?_
        refine lda_n_3_1 (pc := 46) d_Md_again_46 ?_
        refine r_bipush (pc := 47) (v := 18) d_Md_again_47 rfl ?_
        refine ldi_n_3_2 (pc := 49) d_Md_again_49 ?_
        refine r_iadd (pc := 50) d_Md_again_50 ?_
        refine r_iald (pc := 51) d_Md_again_51 (by assumption) (by first | exact vp_in_nI (by omega) (by omega) | (unfold vp_in; decide) | exact vp_add 18 rfl (by omega) (by omega) | exact vp_add 6 rfl (by omega) (by omega) | exact vp_add 12 rfl (by omega) (by omega) | exact vp_add 24 rfl (by omega) (by omega) | exact vp_add 30 rfl (by omega) (by omega) | exact vp_add 36 rfl (by omega) (by omega) | exact vp_add 42 rfl (by omega) (by omega) | exact vp_add 66 rfl (by omega) (by omega) | exact vp_add 71 rfl (by omega) (by omega) | exact vp_add 76 rfl (by omega) (by omega) | exact vp_add 81 rfl (by omega) (by omega) | exact vp_add 91 rfl (by omega) (by omega) | exact vp_add 101 rfl (by omega) (by omega) | exact vp_add 109 rfl (by omega) (by omega)) ?_
        refine r_iast (pc := 52) d_Md_again_52 (by assumption) (by first | exact vp_in_nI (by omega) (by omega) | (unfold vp_in; decide) | exact vp_add 18 rfl (by omega) (by omega) | exact vp_add 6 rfl (by omega) (by omega) | exact vp_add 12 rfl (by omega) (by omega) | exact vp_add 24 rfl (by omega) (by omega) | exact vp_add 30 rfl (by omega) (by omega) | exact vp_add 36 rfl (by omega) (by omega) | exact vp_add 42 rfl (by omega) (by omega) | exact vp_add 66 rfl (by omega) (by omega) | exact vp_add 71 rfl (by omega) (by omega) | exact vp_add 76 rfl (by omega) (by omega) | exact vp_add 81 rfl (by omega) (by omega) | exact vp_add 91 rfl (by omega) (by omega) | exact vp_add 101 rfl (by omega) (by omega) | exact vp_add 109 rfl (by omega) (by omega)) ?_
        refine lda_n_3_0 (pc := 53) d_Md_again_53 ?_
        refine g_Md_24 (pc := 54) rfl d_Md_again_54 (by assumption) (by assumption) ?_
        refine ldi_n_3_2 (pc := 57) d_Md_again_57 ?_
        refine lda_n_3_1 (pc := 58) d_Md_again_58 ?_
        refine r_bipush (pc := 59) (v := 24) d_Md_again_59 rfl ?_
        refine ldi_n_3_2 (pc := 61) d_Md_again_61 ?_
        refine r_iadd (pc := 62) d_Md_again_62 ?_
        refine r_iald (pc := 63) d_Md_again_63 (by assumption) (by first | exact vp_in_nI (by omega) (by omega) | (unfold vp_in; decide) | exact vp_add 18 rfl (by omega) (by omega) | exact vp_add 6 rfl (by omega) (by omega) | exact vp_add 12 rfl (by omega) (by omega) | exact vp_add 24 rfl (by omega) (by omega) | exact vp_add 30 rfl (by omega) (by omega) | exact vp_add 36 rfl (by omega) (by omega) | exact vp_add 42 rfl (by omega) (by omega) | exact vp_add 66 rfl (by omega) (by omega) | exact vp_add 71 rfl (by omega) (by omega) | exact vp_add 76 rfl (by omega) (by omega) | exact vp_add 81 rfl (by omega) (by omega) | exact vp_add 91 rfl (by omega) (by omega) | exact vp_add 101 rfl (by omega) (by omega) | exact vp_add 109 rfl (by omega) (by omega)) ?_
        refine r_iast (pc := 64) d_Md_again_64 (by assumption) (by first | exact vp_in_nI (by omega) (by omega) | (unfold vp_in; decide) | exact vp_add 18 rfl (by omega) (by omega) | exact vp_add 6 rfl (by omega) (by omega) | exact vp_add 12 rfl (by omega) (by omega) | exact vp_add 24 rfl (by omega) (by omega) | exact vp_add 30 rfl (by omega) (by omega) | exact vp_add 36 rfl (by omega) (by omega) | exact vp_add 42 rfl (by omega) (by omega) | exact vp_add 66 rfl (by omega) (by omega) | exact vp_add 71 rfl (by omega) (by omega) | exact vp_add 76 rfl (by omega) (by omega) | exact vp_add 81 rfl (by omega) (by omega) | exact vp_add 91 rfl (by omega) (by omega) | exact vp_add 101 rfl (by omega) (by omega) | exact vp_add 109 rfl (by omega) (by omega)) ?_
        refine lda_n_3_0 (pc := 65) d_Md_again_65 ?_
        refine g_Md_27 (pc := 66) rfl d_Md_again_66 (by assumption) (by assumption) ?_
        refine ldi_n_3_2 (pc := 69) d_Md_again_69 ?_
        refine lda_n_3_1 (pc := 70) d_Md_again_70 ?_
        refine r_bipush (pc := 71) (v := 30) d_Md_again_71 rfl ?_
        refine ldi_n_3_2 (pc := 73) d_Md_again_73 ?_
        refine r_iadd (pc := 74) d_Md_again_74 ?_
        refine r_iald (pc := 75) d_Md_again_75 (by assumption) (by first | exact vp_in_nI (by omega) (by omega) | (unfold vp_in; decide) | exact vp_add 18 rfl (by omega) (by omega) | exact vp_add 6 rfl (by omega) (by omega) | exact vp_add 12 rfl (by omega) (by omega) | exact vp_add 24 rfl (by omega) (by omega) | exact vp_add 30 rfl (by omega) (by omega) | exact vp_add 36 rfl (by omega) (by omega) | exact vp_add 42 rfl (by omega) (by omega) | exact vp_add 66 rfl (by omega) (by omega) | exact vp_add 71 rfl (by omega) (by omega) | exact vp_add 76 rfl (by omega) (by omega) | exact vp_add 81 rfl (by omega) (by omega) | exact vp_add 91 rfl (by omega) (by omega) | exact vp_add 101 rfl (by omega) (by omega) | exact vp_add 109 rfl (by omega) (by omega)) ?_
        refine r_iast (pc := 76) d_Md_again_76 (by assumption) (by first | exact vp_in_nI (by omega) (by omega) | (unfold vp_in; decide) | exact vp_add 18 rfl (by omega) (by omega) | exact vp_add 6 rfl (by omega) (by omega) | exact vp_add 12 rfl (by omega) (by omega) | exact vp_add 24 rfl (by omega) (by omega) | exact vp_add 30 rfl (by omega) (by omega) | exact vp_add 36 rfl (by omega) (by omega) | exact vp_add 42 rfl (by omega) (by omega) | exact vp_add 66 rfl (by omega) (by omega) | exact vp_add 71 rfl (by omega) (by omega) | exact vp_add 76 rfl (by omega) (by omega) | exact vp_add 81 rfl (by omega) (by omega) | exact vp_add 91 rfl (by omega) (by omega) | exact vp_add 101 rfl (by omega) (by omega) | exact vp_add 109 rfl (by omega) (by omega)) ?_
        refine lda_n_3_0 (pc := 77) d_Md_again_77 ?_
        refine g_Md_33 (pc := 78) rfl d_Md_again_78 (by assumption) (by assumption) ?_
        refine ldi_n_3_2 (pc := 81) d_Md_again_81 ?_
        refine lda_n_3_1 (pc := 82) d_Md_again_82 ?_
        refine r_bipush (pc := 83) (v := 36) d_Md_again_83 rfl ?_
        refine ldi_n_3_2 (pc := 85) d_Md_again_85 ?_
        refine r_iadd (pc := 86) d_Md_again_86 ?_
        refine r_iald (pc := 87) d_Md_again_87 (by assumption) (by first | exact vp_in_nI (by omega) (by omega) | (unfold vp_in; decide) | exact vp_add 18 rfl (by omega) (by omega) | exact vp_add 6 rfl (by omega) (by omega) | exact vp_add 12 rfl (by omega) (by omega) | exact vp_add 24 rfl (by omega) (by omega) | exact vp_add 30 rfl (by omega) (by omega) | exact vp_add 36 rfl (by omega) (by omega) | exact vp_add 42 rfl (by omega) (by omega) | exact vp_add 66 rfl (by omega) (by omega) | exact vp_add 71 rfl (by omega) (by omega) | exact vp_add 76 rfl (by omega) (by omega) | exact vp_add 81 rfl (by omega) (by omega) | exact vp_add 91 rfl (by omega) (by omega) | exact vp_add 101 rfl (by omega) (by omega) | exact vp_add 109 rfl (by omega) (by omega)) ?_
        refine r_iast (pc := 88) d_Md_again_88 (by assumption) (by first | exact vp_in_nI (by omega) (by omega) | (unfold vp_in; decide) | exact vp_add 18 rfl (by omega) (by omega) | exact vp_add 6 rfl (by omega) (by omega) | exact vp_add 12 rfl (by omega) (by omega) | exact vp_add 24 rfl (by omega) (by omega) | exact vp_add 30 rfl (by omega) (by omega) | exact vp_add 36 rfl (by omega) (by omega) | exact vp_add 42 rfl (by omega) (by omega) | exact vp_add 66 rfl (by omega) (by omega) | exact vp_add 71 rfl (by omega) (by omega) | exact vp_add 76 rfl (by omega) (by omega) | exact vp_add 81 rfl (by omega) (by omega) | exact vp_add 91 rfl (by omega) (by omega) | exact vp_add 101 rfl (by omega) (by omega) | exact vp_add 109 rfl (by omega) (by omega)) ?_
        refine inc_3_2 (pc := 89) (w := 1) d_Md_again_89 rfl rfl ?_
        refine r_goto (pc := 92) (tgt := 2) d_Md_again_92 (by decide) ?_
        rw [q1]
        exact ih _ (((((((h2.up (by decide)).up (by decide)).up (by decide)).up (by decide)).up (by decide)).up (by decide)).up (by decide))
  exact key1 0 (by omega) I qOnly.rf
end MD2
