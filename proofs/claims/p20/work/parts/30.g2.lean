/-! whether a clause holds, told exactly -/
theorem mStk.bot {K : qI} {l : List Int32} (h : mStk K l) (h0 : 0 < l.length) : K 130 0 = l.reverse.getD 0 0 ∧ qbool (l.reverse.getD 0 0) := by
  refine ⟨h.1 0 h0, ?_⟩
  have h2 : ∀ x ∈ l.reverse, qbool x := fun x hx => h.2 x (List.mem_reverse.mp hx)
  have h3 : 0 < l.reverse.length := by simpa using h0
  cases hr : l.reverse with
  | nil => rw [hr] at h3; exact absurd h3 (Nat.lt_irrefl _)
  | cons y r => exact h2 y (by rw [hr]; exact List.mem_cons_self)
theorem mlet_only {I K : qI} {p : Nat} {w d l : Int32} (h : qOnly (fun a => a = 130) I K) : mlet K p w d l = mlet I p w d l := by
  unfold mlet
  rw [h 115 (by decide), h 116 (by decide), h 117 (by decide)]
theorem mtv_only {I K : qI} {p : Nat} {w d : Int32} (h : qOnly (fun a => a = 130) I K) : mtv K p w d = mtv I p w d := by
  funext c
  unfold mtv
  rw [mlet_only h]
section G2
variable {E : qE} {S : qSh} {I : qI} {J : qJ}
theorem c_Md_isTrue {p b n cl : Nat} {w d : Int32} (hM : isMd S) (hp : p < 6) (hcl : cl < 61) (hb : I 127 cl = nI b) (hn : I 128 cl = nI n) (hbn : b + n ≤ 800) (hok : dokN (I 129) n b 0) : qMet E y_Md_isTrue b_Md_isTrue 11 (some .boolean) 1 0 0 [.ref (qb E + 114), .int (nI p), .int w, .int d, .int (nI cl)] S I J (fun v S' I' J' => v = some (.int ((mevl (mtv I p w d) (I 129) n b []).reverse.getD 0 0)) ∧ S = S' ∧ qOnly (fun a => a = 130) I I' ∧ J = J') := by
  have hT := hM.1
  have f22 := hM.r 12 rfl
  have g22 := hM.a 12 rfl
  have f23 := hM.r 13 rfl
  have g23 := hM.a 13 rfl
  have f24 := hM.r 14 rfl
  have g24 := hM.a 14 rfl
  have f26 := hM.r 15 rfl
  have g26 := hM.a 15 rfl
  have ecl : (nI cl).toNatClampNeg = cl := qcl (by omega)
  refine qMet.of (L := [some (.ref (qb E + 114)), some (.int (nI p)), some (.int w), some (.int d), some (.int (nI cl)), none, none, none, none, none, none]) (by decide +kernel) (Nat.le_of_ble_eq_true rfl) rfl ?_
  have key : ∀ (m k : Nat), k + m = n → ∀ (l : List Int32) (t : Nat) (K : qI) (a7 a8 a9 a10 : Option Value), l.length = t → t ≤ 110 → qOnly (fun a => a = 130) I K → mStk K l → dokN (I 129) m (b + k) t → qn2 a7 = true → qn2 a8 = true → qn2 a9 = true → qW E y_Md_isTrue b_Md_isTrue (some .boolean) 1 0 0 (fun v S' I' J' => v = some (.int ((mevl (mtv I p w d) (I 129) m (b + k) l).reverse.getD 0 0)) ∧ S = S' ∧ qOnly (fun a => a = 130) I I' ∧ J = J') 0 0 12 [some (.ref (qb E + 114)), some (.int (nI p)), some (.int w), some (.int d), some (.int (nI cl)), some (.int (nI t)), some (.int (nI (b + k))), a7, a8, a9, a10] [] S K J := by
    intro m
    induction m with
    | zero =>
      intro k hk l t K a7 a8 a9 a10 hl ht hK hS hd n7 n8 n9
      have hd0 : 0 < t := hd
      obtain ⟨eb, hbv⟩ := hS.bot (by omega)
      have ev : K 130 (Int32.toNatClampNeg 0) = l.reverse.getD 0 0 := eb
      refine ldi_11_6 (pc := 12) d_Md_isTrue_12 ?_
      refine lda_n_11_0 (pc := 14) d_Md_isTrue_14 ?_
      refine g_Md_48 (pc := 15) rfl d_Md_isTrue_15 (by assumption) (by assumption) ?_
      refine ldi_11_4 (pc := 18) d_Md_isTrue_18 ?_
      refine r_iald (pc := 20) d_Md_isTrue_20 (by assumption) (by first | assumption | exact vp_in_nI (by omega) (by omega) | (unfold vp_in; decide)) ?_
      refine lda_n_11_0 (pc := 21) d_Md_isTrue_21 ?_
      refine g_Md_51 (pc := 22) rfl d_Md_isTrue_22 (by assumption) (by assumption) ?_
      refine ldi_11_4 (pc := 25) d_Md_isTrue_25 ?_
      refine r_iald (pc := 27) d_Md_isTrue_27 (by assumption) (by first | assumption | exact vp_in_nI (by omega) (by omega) | (unfold vp_in; decide)) ?_
      refine r_iadd (pc := 28) d_Md_isTrue_28 ?_
      rw [ecl, hK 127 (by decide), hK 128 (by decide), hb, hn, nI_add]
      refine r_icmp_ge (pc := 29) (tgt := 265) d_Md_isTrue_29 (by decide) (fun c => ?_) (fun c => ?_)
      · refine lda_n_11_0 (pc := 265) d_Md_isTrue_265 ?_
        refine g_Md_57 (pc := 266) rfl d_Md_isTrue_266 (by assumption) (by assumption) ?_
        refine r_iconst (pc := 269) (v := 0) d_Md_isTrue_269 rfl ?_
        refine r_zald (pc := 270) d_Md_isTrue_270 (by assumption) (by first | assumption | exact vp_in_nI (by omega) (by omega) | (unfold vp_in; decide)) ?_
        rw [ev]
        exact r_nret d_Md_isTrue_271 rfl (qbool_n (by first | exact Or.inl rfl | exact Or.inr rfl | assumption | exact qwithin_b | exact qbit_b)) (by omega) (by omega) (⟨rfl, rfl, hK, rfl⟩)
      · exact absurd (nI_le (by omega) (by omega)) c
    | succ m ih =>
      intro k hk l t K a7 a8 a9 a10 hl ht hK hS hd n7 n8 n9
      have e129 : K 129 = I 129 := hK 129 (by decide)
      rw [dokN] at hd
      have nxt : ∀ (l2 : List Int32) (t2 : Nat) (K2 : qI) (b7 b8 b9 b10 : Option Value), l2 = mstp (mtv I p w d) (I 129 (b + k)) l → l2.length = t2 → t2 ≤ 110 → qOnly (fun a => a = 130) I K2 → mStk K2 l2 → dokN (I 129) m (b + k + 1) t2 → qn2 b7 = true → qn2 b8 = true → qn2 b9 = true → qW E y_Md_isTrue b_Md_isTrue (some .boolean) 1 0 0 (fun v S' I' J' => v = some (.int ((mevl (mtv I p w d) (I 129) (m + 1) (b + k) l).reverse.getD 0 0)) ∧ S = S' ∧ qOnly (fun a => a = 130) I I' ∧ J = J') 0 0 259 [some (.ref (qb E + 114)), some (.int (nI p)), some (.int w), some (.int d), some (.int (nI cl)), some (.int (nI t2)), some (.int (nI (b + k))), b7, b8, b9, b10] [] S K2 J := by
        intro l2 t2 K2 b7 b8 b9 b10 el h1 h2 h3 h4 h5 h6 h7 h8
        subst el
        rw [mevl]
        refine inc_11_6 (pc := 259) (w := 1) d_Md_isTrue_259 rfl rfl ?_
        refine r_goto (pc := 262) (tgt := 12) d_Md_isTrue_262 (by decide) ?_
        rw [q1, show b + k + 1 = b + (k + 1) by omega]
        exact ih (k + 1) (by omega) _ t2 K2 b7 b8 b9 b10 h1 h2 h3 h4 (by rw [← show b + k + 1 = b + (k + 1) by omega]; exact h5) h6 h7 h8
      refine ldi_11_6 (pc := 12) d_Md_isTrue_12 ?_
      refine lda_n_11_0 (pc := 14) d_Md_isTrue_14 ?_
      refine g_Md_48 (pc := 15) rfl d_Md_isTrue_15 (by assumption) (by assumption) ?_
      refine ldi_11_4 (pc := 18) d_Md_isTrue_18 ?_
      refine r_iald (pc := 20) d_Md_isTrue_20 (by assumption) (by first | assumption | exact vp_in_nI (by omega) (by omega) | (unfold vp_in; decide)) ?_
      refine lda_n_11_0 (pc := 21) d_Md_isTrue_21 ?_
      refine g_Md_51 (pc := 22) rfl d_Md_isTrue_22 (by assumption) (by assumption) ?_
      refine ldi_11_4 (pc := 25) d_Md_isTrue_25 ?_
      refine r_iald (pc := 27) d_Md_isTrue_27 (by assumption) (by first | assumption | exact vp_in_nI (by omega) (by omega) | (unfold vp_in; decide)) ?_
      refine r_iadd (pc := 28) d_Md_isTrue_28 ?_
      rw [ecl, hK 127 (by decide), hK 128 (by decide), hb, hn, nI_add]
      refine r_icmp_ge (pc := 29) (tgt := 265) d_Md_isTrue_29 (by decide) (fun c => ?_) (fun c => ?_)
      · exact absurd c (nI_ge (by omega) (by omega))
      · refine lda_n_11_0 (pc := 32) d_Md_isTrue_32 ?_
        refine g_Md_54 (pc := 33) rfl d_Md_isTrue_33 (by assumption) (by assumption) ?_
        refine ldi_11_6 (pc := 36) d_Md_isTrue_36 ?_
        refine r_iald (pc := 38) d_Md_isTrue_38 (by assumption) (by first | assumption | exact vp_in_nI (by omega) (by omega) | (unfold vp_in; decide)) ?_
        rw [qcl (n := b + k) (by omega), e129]
        refine sti_11_7 (pc := 39) d_Md_isTrue_39 rfl ?_
        refine ldi_11_7 (pc := 41) d_Md_isTrue_41 ?_
        refine r_iconst (pc := 43) (v := 3) d_Md_isTrue_43 rfl ?_
        refine r_icmp_lt (pc := 44) (tgt := 150) d_Md_isTrue_44 (by decide) (fun c3 => ?_) (fun c3 => ?_)
        · have h3 : ¬ (3 : Int32) ≤ I 129 (b + k) := Int32.not_le.mpr c3
          rw [if_neg h3] at hd
          refine ldi_11_7 (pc := 150) d_Md_isTrue_150 ?_
          refine r_if_ne (pc := 152) (tgt := 184) d_Md_isTrue_152 (by decide) (fun c0 => ?_) (fun c0 => ?_)
          · rw [if_neg c0] at hd
            obtain ⟨t2, rfl⟩ : ∃ t2, t = t2 + 2 := ⟨t - 2, by omega⟩
            match l, hl with
            | [], hl => simp at hl
            | [z], hl => simp at hl
            | y :: x :: l2, hl =>
              have hl2 : l2.length = t2 := by simp at hl; omega
              have ey : K 130 (t2 + 1) = y := by have := hS.top; simpa [hl2] using this
              have ex : K 130 t2 = x := by have := hS.pop.top; simpa [hl2] using this
              have hstep : mstp (mtv I p w d) (I 129 (b + k)) (y :: x :: l2) = mop (I 129 (b + k)) x y :: l2 := by unfold mstp; rw [if_neg h3, if_neg c0]
              have fin : ∀ v, v = mop (I 129 (b + k)) x y → qW E y_Md_isTrue b_Md_isTrue (some .boolean) 1 0 0 (fun v S' I' J' => v = some (.int ((mevl (mtv I p w d) (I 129) (m + 1) (b + k) (y :: x :: l2)).reverse.getD 0 0)) ∧ S = S' ∧ qOnly (fun a => a = 130) I I' ∧ J = J') 0 0 258 [some (.ref (qb E + 114)), some (.int (nI p)), some (.int w), some (.int d), some (.int (nI cl)), some (.int (nI (t2 + 1))), some (.int (nI (b + k))), some (.int (I 129 (b + k))), a8, a9, a10] [.int v, .int (nI t2), .ref (qb E + 130)] S K J := by
                intro v ev
                have hv : qbool v := by rw [ev]; exact mop_b
                refine r_zast (pc := 258) d_Md_isTrue_258 (by assumption) (by first | assumption | exact vp_in_nI (by omega) (by omega) | (unfold vp_in; decide)) ?_
                rw [qcl (n := t2) (by omega), mnar hv, ev]
                refine nxt (mop (I 129 (b + k)) x y :: l2) (t2 + 1) _ _ _ _ _ hstep.symm (by simp [hl2]) (by omega) (hK.up rfl) (by have := hS.pop.pop.push (x := mop (I 129 (b + k)) x y) mop_b; rwa [hl2] at this) ?_ rfl n8 n9
                have := hd.2
                rwa [show t2 + 2 - 1 = t2 + 1 by omega] at this
              refine inc_11_5 (pc := 184) (w := (-1)) d_Md_isTrue_184 rfl rfl ?_
              rw [pk_m1 (t2 + 1)]
              refine lda_n_11_0 (pc := 187) d_Md_isTrue_187 ?_
              refine g_Md_57 (pc := 188) rfl d_Md_isTrue_188 (by assumption) (by assumption) ?_
              refine ldi_11_5 (pc := 191) d_Md_isTrue_191 ?_
              refine r_iconst (pc := 193) (v := 1) d_Md_isTrue_193 rfl ?_
              refine r_isub (pc := 194) d_Md_isTrue_194 ?_
              rw [nI_pred]
              refine ldi_11_7 (pc := 195) d_Md_isTrue_195 ?_
              refine r_iconst (pc := 197) (v := 1) d_Md_isTrue_197 rfl ?_
              refine r_icmp_ne (pc := 198) (tgt := 231) d_Md_isTrue_198 (by decide) (fun c1 => ?_) (fun c1 => ?_)
              · refine lda_n_11_0 (pc := 231) d_Md_isTrue_231 ?_
                refine g_Md_57 (pc := 232) rfl d_Md_isTrue_232 (by assumption) (by assumption) ?_
                refine ldi_11_5 (pc := 235) d_Md_isTrue_235 ?_
                refine r_iconst (pc := 237) (v := 1) d_Md_isTrue_237 rfl ?_
                refine r_isub (pc := 238) d_Md_isTrue_238 ?_
                rw [nI_pred]
                refine r_zald (pc := 239) d_Md_isTrue_239 (by assumption) (by first | assumption | exact vp_in_nI (by omega) (by omega) | (unfold vp_in; decide)) ?_
                rw [qcl (n := t2) (by omega), ex]
                refine r_if_ne (pc := 240) (tgt := 253) d_Md_isTrue_240 (by decide) (fun cx => ?_) (fun cx => ?_)
                · refine r_iconst (pc := 253) (v := 1) d_Md_isTrue_253 rfl ?_
                  refine r_goto (pc := 254) (tgt := 258) d_Md_isTrue_254 (by decide) ?_
                  exact fin 1 (by unfold mop; rw [if_neg c1, if_neg cx])
                · refine lda_n_11_0 (pc := 243) d_Md_isTrue_243 ?_
                  refine g_Md_57 (pc := 244) rfl d_Md_isTrue_244 (by assumption) (by assumption) ?_
                  refine ldi_11_5 (pc := 247) d_Md_isTrue_247 ?_
                  refine r_zald (pc := 249) d_Md_isTrue_249 (by assumption) (by first | assumption | exact vp_in_nI (by omega) (by omega) | (unfold vp_in; decide)) ?_
                  rw [qcl (n := t2 + 1) (by omega), ey]
                  refine r_if_eq (pc := 250) (tgt := 257) d_Md_isTrue_250 (by decide) (fun cy => ?_) (fun cy => ?_)
                  · refine r_iconst (pc := 257) (v := 0) d_Md_isTrue_257 rfl ?_
                    exact fin 0 (by unfold mop; rw [if_neg c1, if_pos cx, if_pos cy])
                  · refine r_iconst (pc := 253) (v := 1) d_Md_isTrue_253 rfl ?_
                    refine r_goto (pc := 254) (tgt := 258) d_Md_isTrue_254 (by decide) ?_
                    exact fin 1 (by unfold mop; rw [if_neg c1, if_pos cx, if_neg cy])
              · refine lda_n_11_0 (pc := 201) d_Md_isTrue_201 ?_
                refine g_Md_57 (pc := 202) rfl d_Md_isTrue_202 (by assumption) (by assumption) ?_
                refine ldi_11_5 (pc := 205) d_Md_isTrue_205 ?_
                refine r_iconst (pc := 207) (v := 1) d_Md_isTrue_207 rfl ?_
                refine r_isub (pc := 208) d_Md_isTrue_208 ?_
                rw [nI_pred]
                refine r_zald (pc := 209) d_Md_isTrue_209 (by assumption) (by first | assumption | exact vp_in_nI (by omega) (by omega) | (unfold vp_in; decide)) ?_
                rw [qcl (n := t2) (by omega), ex]
                refine r_if_eq (pc := 210) (tgt := 227) d_Md_isTrue_210 (by decide) (fun cx => ?_) (fun cx => ?_)
                · refine r_iconst (pc := 227) (v := 0) d_Md_isTrue_227 rfl ?_
                  refine r_goto (pc := 228) (tgt := 258) d_Md_isTrue_228 (by decide) ?_
                  exact fin 0 (by unfold mop; rw [if_pos c1, if_pos cx])
                · refine lda_n_11_0 (pc := 213) d_Md_isTrue_213 ?_
                  refine g_Md_57 (pc := 214) rfl d_Md_isTrue_214 (by assumption) (by assumption) ?_
                  refine ldi_11_5 (pc := 217) d_Md_isTrue_217 ?_
                  refine r_zald (pc := 219) d_Md_isTrue_219 (by assumption) (by first | assumption | exact vp_in_nI (by omega) (by omega) | (unfold vp_in; decide)) ?_
                  rw [qcl (n := t2 + 1) (by omega), ey]
                  refine r_if_eq (pc := 220) (tgt := 227) d_Md_isTrue_220 (by decide) (fun cy => ?_) (fun cy => ?_)
                  · refine r_iconst (pc := 227) (v := 0) d_Md_isTrue_227 rfl ?_
                    refine r_goto (pc := 228) (tgt := 258) d_Md_isTrue_228 (by decide) ?_
                    exact fin 0 (by unfold mop; rw [if_pos c1, if_neg cx, if_pos cy])
                  · refine r_iconst (pc := 223) (v := 1) d_Md_isTrue_223 rfl ?_
                    refine r_goto (pc := 224) (tgt := 258) d_Md_isTrue_224 (by decide) ?_
                    exact fin 1 (by unfold mop; rw [if_pos c1, if_neg cx, if_neg cy])
          · rw [if_pos c0] at hd
            obtain ⟨t2, rfl⟩ : ∃ t2, t = t2 + 1 := ⟨t - 1, by omega⟩
            match l, hl with
            | [], hl => simp at hl
            | x :: l2, hl =>
              have hl2 : l2.length = t2 := by simp at hl; omega
              have ex : K 130 t2 = x := by have := hS.top; simpa [hl2] using this
              have hstep : mstp (mtv I p w d) (I 129 (b + k)) (x :: l2) = (if x = 0 then 1 else 0) :: l2 := by unfold mstp; rw [if_neg h3, if_pos c0]
              have fin : ∀ v, v = (if x = 0 then (1 : Int32) else 0) → qW E y_Md_isTrue b_Md_isTrue (some .boolean) 1 0 0 (fun v S' I' J' => v = some (.int ((mevl (mtv I p w d) (I 129) (m + 1) (b + k) (x :: l2)).reverse.getD 0 0)) ∧ S = S' ∧ qOnly (fun a => a = 130) I I' ∧ J = J') 0 0 180 [some (.ref (qb E + 114)), some (.int (nI p)), some (.int w), some (.int d), some (.int (nI cl)), some (.int (nI (t2 + 1))), some (.int (nI (b + k))), some (.int (I 129 (b + k))), a8, a9, a10] [.int v, .int (nI t2), .ref (qb E + 130)] S K J := by
                intro v ev
                have hv : qbool v := by rw [ev]; exact mb0
                refine r_zast (pc := 180) d_Md_isTrue_180 (by assumption) (by first | assumption | exact vp_in_nI (by omega) (by omega) | (unfold vp_in; decide)) ?_
                refine r_goto (pc := 181) (tgt := 259) d_Md_isTrue_181 (by decide) ?_
                rw [qcl (n := t2) (by omega), mnar hv, ev]
                exact nxt ((if x = 0 then 1 else 0) :: l2) (t2 + 1) _ _ _ _ _ hstep.symm (by simp [hl2]) (by omega) (hK.up rfl) (by have := hS.pop.push (x := if x = 0 then 1 else 0) mb0; rwa [hl2] at this) hd.2 rfl n8 n9
              refine lda_n_11_0 (pc := 155) d_Md_isTrue_155 ?_
              refine g_Md_57 (pc := 156) rfl d_Md_isTrue_156 (by assumption) (by assumption) ?_
              refine ldi_11_5 (pc := 159) d_Md_isTrue_159 ?_
              refine r_iconst (pc := 161) (v := 1) d_Md_isTrue_161 rfl ?_
              refine r_isub (pc := 162) d_Md_isTrue_162 ?_
              rw [nI_pred]
              refine lda_n_11_0 (pc := 163) d_Md_isTrue_163 ?_
              refine g_Md_57 (pc := 164) rfl d_Md_isTrue_164 (by assumption) (by assumption) ?_
              refine ldi_11_5 (pc := 167) d_Md_isTrue_167 ?_
              refine r_iconst (pc := 169) (v := 1) d_Md_isTrue_169 rfl ?_
              refine r_isub (pc := 170) d_Md_isTrue_170 ?_
              rw [nI_pred]
              refine r_zald (pc := 171) d_Md_isTrue_171 (by assumption) (by first | assumption | exact vp_in_nI (by omega) (by omega) | (unfold vp_in; decide)) ?_
              rw [qcl (n := t2) (by omega), ex]
              refine r_if_ne (pc := 172) (tgt := 179) d_Md_isTrue_172 (by decide) (fun cx => ?_) (fun cx => ?_)
              · refine r_iconst (pc := 179) (v := 0) d_Md_isTrue_179 rfl ?_
                exact fin 0 (by rw [if_neg cx])
              · refine r_iconst (pc := 175) (v := 1) d_Md_isTrue_175 rfl ?_
                refine r_goto (pc := 176) (tgt := 180) d_Md_isTrue_176 (by decide) ?_
                exact fin 1 (by rw [if_pos cx])
        · have h3 : (3 : Int32) ≤ I 129 (b + k) := Int32.not_lt.mp c3
          rw [if_pos h3] at hd
          have hstep : mstp (mtv I p w d) (I 129 (b + k)) l = mtv I p w d (I 129 (b + k)) :: l := by unfold mstp; rw [if_pos h3]
          refine lda_n_11_0 (pc := 47) d_Md_isTrue_47 ?_
          refine ldi_n_11_1 (pc := 48) d_Md_isTrue_48 ?_
          refine ldi_n_11_2 (pc := 49) d_Md_isTrue_49 ?_
          refine ldi_n_11_3 (pc := 50) d_Md_isTrue_50 ?_
          refine ldi_11_7 (pc := 51) d_Md_isTrue_51 ?_
          refine r_iconst (pc := 53) (v := 3) d_Md_isTrue_53 rfl ?_
          refine r_isub (pc := 54) d_Md_isTrue_54 ?_
          refine r_sipush (pc := 55) (v := 300) d_Md_isTrue_55 rfl ?_
          refine r_idiv (pc := 58) d_Md_isTrue_58 (by decide) ?_
          refine r_callV (pc := 59) (As := [.int (nI p), .int w, .int d, .int ((I 129 (b + k) - 3) / 300)]) (k := 9) (N := 56) (T := T_Md) k_Md_221 im_Md_letterOf se_Md_letterOf rfl (by decide) rfl (by decide) d_Md_isTrue_59 hT (c_Md_letterOf hM hp) rfl (Nat.le_of_ble_eq_true rfl) (by omega) (by omega) (by omega) (fun v S' I' J' hq => ?_)
          obtain ⟨rfl, rfl, rfl, rfl⟩ := hq
          rw [mlet_only hK]
          have fin : ∀ v, v = mtv I p w d (I 129 (b + k)) → ∀ (b8 b9 b10 : Option Value), qn2 b8 = true → qn2 b9 = true → qW E y_Md_isTrue b_Md_isTrue (some .boolean) 1 0 0 (fun v S' I' J' => v = some (.int ((mevl (mtv I p w d) (I 129) (m + 1) (b + k) l).reverse.getD 0 0)) ∧ S = S' ∧ qOnly (fun a => a = 130) I I' ∧ J = J') 0 0 146 [some (.ref (qb E + 114)), some (.int (nI p)), some (.int w), some (.int d), some (.int (nI cl)), some (.int (nI (t + 1))), some (.int (nI (b + k))), some (.int (I 129 (b + k))), b8, b9, b10] [.int v, .int (nI t), .ref (qb E + 130)] S K J := by
            intro v ev b8 b9 b10 m8 m9
            have hv : qbool v := by rw [ev]; exact mtst_b
            refine r_zast (pc := 146) d_Md_isTrue_146 (by assumption) (by first | assumption | exact vp_in_nI (by omega) (by omega) | (unfold vp_in; decide)) ?_
            refine r_goto (pc := 147) (tgt := 259) d_Md_isTrue_147 (by decide) ?_
            rw [qcl (n := t) (by omega), mnar hv, ev]
            exact nxt (mtv I p w d (I 129 (b + k)) :: l) (t + 1) _ _ _ _ _ hstep.symm (by simp [hl]) (by omega) (hK.up rfl) (by have := hS.push (x := mtv I p w d (I 129 (b + k))) mtst_b; rwa [hl] at this) hd.2 rfl m8 m9
          refine sti_11_8 (pc := 62) d_Md_isTrue_62 rfl ?_
          refine ldi_11_7 (pc := 64) d_Md_isTrue_64 ?_
          refine r_iconst (pc := 66) (v := 3) d_Md_isTrue_66 rfl ?_
          refine r_isub (pc := 67) d_Md_isTrue_67 ?_
          refine r_bipush (pc := 68) (v := 100) d_Md_isTrue_68 rfl ?_
          refine r_irem (pc := 70) d_Md_isTrue_70 (by decide) ?_
          refine sti_11_9 (pc := 71) d_Md_isTrue_71 rfl ?_
          refine ldi_11_7 (pc := 73) d_Md_isTrue_73 ?_
          refine r_iconst (pc := 75) (v := 3) d_Md_isTrue_75 rfl ?_
          refine r_isub (pc := 76) d_Md_isTrue_76 ?_
          refine r_bipush (pc := 77) (v := 100) d_Md_isTrue_77 rfl ?_
          refine r_idiv (pc := 79) d_Md_isTrue_79 (by decide) ?_
          refine r_iconst (pc := 80) (v := 3) d_Md_isTrue_80 rfl ?_
          refine r_irem (pc := 81) d_Md_isTrue_81 (by decide) ?_
          refine sti_11_10 (pc := 82) d_Md_isTrue_82 rfl ?_
          refine lda_n_11_0 (pc := 84) d_Md_isTrue_84 ?_
          refine g_Md_57 (pc := 85) rfl d_Md_isTrue_85 (by assumption) (by assumption) ?_
          refine ldi_11_5 (pc := 88) d_Md_isTrue_88 ?_
          refine inc_11_5 (pc := 90) (w := 1) d_Md_isTrue_90 rfl rfl ?_
          refine ldi_11_10 (pc := 93) d_Md_isTrue_93 ?_
          rw [q1]
          refine r_if_ne (pc := 95) (tgt := 113) d_Md_isTrue_95 (by decide) (fun s0 => ?_) (fun s0 => ?_)
          · refine ldi_11_10 (pc := 113) d_Md_isTrue_113 ?_
            refine r_iconst (pc := 115) (v := 1) d_Md_isTrue_115 rfl ?_
            refine r_icmp_ne (pc := 116) (tgt := 134) d_Md_isTrue_116 (by decide) (fun s1 => ?_) (fun s1 => ?_)
            · refine ldi_11_8 (pc := 134) d_Md_isTrue_134 ?_
              refine ldi_11_9 (pc := 136) d_Md_isTrue_136 ?_
              refine r_icmp_le (pc := 138) (tgt := 145) d_Md_isTrue_138 (by decide) (fun cc => ?_) (fun cc => ?_)
              · refine r_iconst (pc := 145) (v := 0) d_Md_isTrue_145 rfl ?_
                exact fin 0 (by unfold mtv mtst; rw [if_neg s0, if_neg s1, if_neg (Int32.not_lt.mpr cc)]) _ _ _ rfl rfl
              · refine r_iconst (pc := 141) (v := 1) d_Md_isTrue_141 rfl ?_
                refine r_goto (pc := 142) (tgt := 146) d_Md_isTrue_142 (by decide) ?_
                exact fin 1 (by unfold mtv mtst; rw [if_neg s0, if_neg s1, if_pos (Int32.not_le.mp cc)]) _ _ _ rfl rfl
            · refine ldi_11_8 (pc := 119) d_Md_isTrue_119 ?_
              refine ldi_11_9 (pc := 121) d_Md_isTrue_121 ?_
              refine r_icmp_ne (pc := 123) (tgt := 130) d_Md_isTrue_123 (by decide) (fun cc => ?_) (fun cc => ?_)
              · refine r_iconst (pc := 130) (v := 0) d_Md_isTrue_130 rfl ?_
                refine r_goto (pc := 131) (tgt := 146) d_Md_isTrue_131 (by decide) ?_
                exact fin 0 (by unfold mtv mtst; rw [if_neg s0, if_pos s1, if_neg cc]) _ _ _ rfl rfl
              · refine r_iconst (pc := 126) (v := 1) d_Md_isTrue_126 rfl ?_
                refine r_goto (pc := 127) (tgt := 146) d_Md_isTrue_127 (by decide) ?_
                exact fin 1 (by unfold mtv mtst; rw [if_neg s0, if_pos s1, if_pos cc]) _ _ _ rfl rfl
          · refine ldi_11_8 (pc := 98) d_Md_isTrue_98 ?_
            refine ldi_11_9 (pc := 100) d_Md_isTrue_100 ?_
            refine r_icmp_ge (pc := 102) (tgt := 109) d_Md_isTrue_102 (by decide) (fun cc => ?_) (fun cc => ?_)
            · refine r_iconst (pc := 109) (v := 0) d_Md_isTrue_109 rfl ?_
              refine r_goto (pc := 110) (tgt := 146) d_Md_isTrue_110 (by decide) ?_
              exact fin 0 (by unfold mtv mtst; rw [if_pos s0, if_neg (Int32.not_lt.mpr cc)]) _ _ _ rfl rfl
            · refine r_iconst (pc := 105) (v := 1) d_Md_isTrue_105 rfl ?_
              refine r_goto (pc := 106) (tgt := 146) d_Md_isTrue_106 (by decide) ?_
              exact fin 1 (by unfold mtv mtst; rw [if_pos s0, if_pos (Int32.not_le.mp cc)]) _ _ _ rfl rfl
  refine r_iconst (pc := 0) (v := 0) d_Md_isTrue_0 rfl ?_
  refine sti_11_5 (pc := 1) d_Md_isTrue_1 rfl ?_
  refine lda_n_11_0 (pc := 3) d_Md_isTrue_3 ?_
  refine g_Md_48 (pc := 4) rfl d_Md_isTrue_4 (by assumption) (by assumption) ?_
  refine ldi_11_4 (pc := 7) d_Md_isTrue_7 ?_
  refine r_iald (pc := 9) d_Md_isTrue_9 (by assumption) (by first | assumption | exact vp_in_nI (by omega) (by omega) | (unfold vp_in; decide)) ?_
  rw [ecl, hb]
  refine sti_11_6 (pc := 10) d_Md_isTrue_10 rfl ?_
  rw [q0]
  exact key n 0 (by omega) [] 0 I none none none none rfl (by omega) qOnly.rf ⟨fun j hj => absurd hj (Nat.not_lt_zero _), fun x hx => absurd hx (by simp)⟩ hok rfl rfl rfl
end G2
