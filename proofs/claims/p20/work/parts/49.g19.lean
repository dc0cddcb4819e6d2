/-! the reference's reader: E, T and F -/
theorem pbf {x : Bool × pSt} (h : ¬ x.1 = true) : (false, x.2) = x := by
  obtain ⟨b, r⟩ := x
  cases b
  · rfl
  · exact absurd rfl h
theorem pbt {x : Bool × pSt} (h : x.1 = true) : (true, x.2) = x := by
  obtain ⟨b, r⟩ := x
  cases b
  · exact absurd h Bool.false_ne_true
  · rfl
section G19
variable {E : qE} {S : qSh} {I0 : qI} {J : qJ} {f : Nat → Int32} {n cz op : Nat}
theorem c_Md_isT {one : pSt → Bool × pSt} {dd : Nat} (hM : isMd S) (hx : pTx I0 f n) (hcz : cz ≤ 600) (hg : pgood one) (hdd : 1 ≤ dd)
    (H1 : ∀ (I : qI) (s : pSt), pRd I0 n cz op s I → s.2.length ≤ s.1 → qMet E y_Md_isF b_Md_isF 2 (some .boolean) dd 0 0 [.ref (qb E + 114)] S I J (pQ S J I0 n cz op (one s))) :
    ∀ (I : qI) (s : pSt), pRd I0 n cz op s I → s.2.length ≤ s.1 → qMet E y_Md_isT b_Md_isT 1 (some .boolean) (dd + 1) 0 0 [.ref (qb E + 114)] S I J (pQ S J I0 n cz op (psq f n one 38 1 s)) := by
  intro I s h hs
  have hT := hM.1
  have hn := hx.2.1
  refine qMet.of (L := [some (.ref (qb E + 114))]) (by decide +kernel) (Nat.le_of_ble_eq_true rfl) rfl ?_
  refine lda_n_1_0 (pc := 0) d_Md_isT_0 ?_
  refine r_callV (pc := 1) (As := []) (k := 9) (N := 56) (T := T_Md) k_Md_193 im_Md_isF se_Md_isF rfl (by decide) rfl (by decide) d_Md_isT_1 (by assumption) (H1 I s h hs) rfl (Nat.le_of_ble_eq_true rfl) (by omega) (by omega) (by omega) (fun v S' I' J' hq => ?_)
  obtain ⟨rfl, rfl, hr, rfl⟩ := hq
  have g1 := hg s
  refine r_if_ne (pc := 4) (tgt := 9) d_Md_isT_4 (by decide) (fun c => ?_) (fun c => ?_)
  · have ht := pb1 c
    generalize hend : psq f n one 38 1 s = rr
    unfold psq at hend
    rw [if_pos ht] at hend
    have key : ∀ (m : Nat) (K : qI) (t : pSt), n < m + t.1 → pRd I0 n cz op t K → t.2.length ≤ t.1 → ploop f n one 38 1 m t = rr → qW E y_Md_isT b_Md_isT (some .boolean) (dd + 1) 0 0 (pQ S J I0 n cz op rr) 0 0 9 [some (.ref (qb E + 114))] [] S K J := by
      intro m
      induction m with
      | zero => intro K t hm hK; have := hK.2.2.2.1; omega
      | succ m ih =>
        intro K t hm hK hl e
        rw [ploop] at e
        refine lda_n_1_0 (pc := 9) d_Md_isT_9 ?_
        refine r_bipush (pc := 10) (v := 38) d_Md_isT_10 rfl ?_
        refine r_callV (pc := 12) (As := [.int 38]) (k := 9) (N := 56) (T := T_Md) k_Md_168 im_Md_is se_Md_is rfl (by decide) rfl (by decide) d_Md_isT_12 (by assumption) (c_Md_is hM hx hK) rfl (Nat.le_of_ble_eq_true rfl) (by omega) (by omega) (by omega) (fun v S' I' J' hq => ?_)
        obtain ⟨rfl, rfl, hr1, rfl⟩ := hq
        by_cases hc : t.1 < n ∧ f t.1 = 38
        · rw [if_pos hc] at e
          rw [show pis f n 38 t = (true, t.1 + 1, t.2) from if_pos hc] at hr1 ⊢
          have g2 := hg (t.1 + 1, t.2)
          unfold pgd at g2
          refine r_if_eq (pc := 15) (tgt := 35) d_Md_isT_15 (by decide) (fun c2 => ?_) (fun c2 => ?_)
          · exact absurd rfl (pb0 c2)
          · refine lda_n_1_0 (pc := 18) d_Md_isT_18 ?_
            refine r_callV (pc := 19) (As := []) (k := 9) (N := 56) (T := T_Md) k_Md_193 im_Md_isF se_Md_isF rfl (by decide) rfl (by decide) d_Md_isT_19 (by assumption) (H1 _ _ hr1 (Nat.le_succ_of_le hl)) rfl (Nat.le_of_ble_eq_true rfl) (by omega) (by omega) (by omega) (fun v S' I' J' hq => ?_)
            obtain ⟨rfl, rfl, hr2, rfl⟩ := hq
            have hr2 : pRd I0 n cz op (one (t.1 + 1, t.2)).2 I' := hr2
            have b2 := hr2.2.2.2.1
            simp only at g2
            refine r_if_eq (pc := 22) (tgt := 33) d_Md_isT_22 (by decide) (fun c3 => ?_) (fun c3 => ?_)
            · rw [if_neg (pb0 c3)] at e
              refine r_iconst (pc := 33) (v := 0) d_Md_isT_33 rfl ?_
              exact r_nret d_Md_isT_34 rfl (qbool_n (by first | exact Or.inl rfl | exact Or.inr rfl | assumption | exact qwithin_b | exact qbit_b)) (by omega) (by omega) (⟨by rw [← e, if_neg (pb0 c3)], rfl, by rw [← e]; exact hr2, rfl⟩)
            · rw [if_pos (pb1 c3)] at e
              refine lda_n_1_0 (pc := 25) d_Md_isT_25 ?_
              refine r_iconst (pc := 26) (v := 1) d_Md_isT_26 rfl ?_
              refine r_callV (pc := 27) (As := [.int 1]) (k := 9) (N := 56) (T := T_Md) k_Md_184 im_Md_codes se_Md_codes rfl (by decide) rfl (by decide) d_Md_isT_27 (by assumption) (c_Md_codes hM hr2 (by omega)) rfl (Nat.le_of_ble_eq_true rfl) (by omega) (by omega) (by omega) (fun v S' I' J' hq => ?_)
              obtain ⟨rfl, rfl, hr3, rfl⟩ := hq
              refine r_if_ne (pc := 30) (tgt := 9) d_Md_isT_30 (by decide) (fun c4 => ?_) (fun c4 => ?_)
              · refine ih _ _ ?_ hr3 ?_ e
                · simp only; omega
                · simp only [List.length_append, List.length_singleton]; omega
              · exact absurd rfl (pb0 c4)
        · rw [if_neg hc] at e
          rw [show pis f n 38 t = (false, t) from if_neg hc] at hr1 ⊢
          refine r_if_eq (pc := 15) (tgt := 35) d_Md_isT_15 (by decide) (fun c2 => ?_) (fun c2 => ?_)
          · rw [← e]
            refine r_iconst (pc := 35) (v := 1) d_Md_isT_35 rfl ?_
            exact r_nret d_Md_isT_36 rfl (qbool_n (by first | exact Or.inl rfl | exact Or.inr rfl | assumption | exact qwithin_b | exact qbit_b)) (by omega) (by omega) (⟨rfl, rfl, hr1, rfl⟩)
          · exact absurd rfl c2
    unfold pgd at g1
    exact key 101 _ _ (by omega) hr (by omega) hend
  · have ht := pb0 c
    rw [show psq f n one 38 1 s = one s from if_neg ht]
    refine r_iconst (pc := 7) (v := 0) d_Md_isT_7 rfl ?_
    exact r_nret d_Md_isT_8 rfl (qbool_n (by first | exact Or.inl rfl | exact Or.inr rfl | assumption | exact qwithin_b | exact qbit_b)) (by omega) (by omega) (⟨by rw [if_neg ht], rfl, hr, rfl⟩)
theorem c_Md_isE {one : pSt → Bool × pSt} {dd : Nat} (hM : isMd S) (hx : pTx I0 f n) (hcz : cz ≤ 600) (hg : pgood one) (hdd : 1 ≤ dd)
    (H1 : ∀ (I : qI) (s : pSt), pRd I0 n cz op s I → s.2.length ≤ s.1 → qMet E y_Md_isT b_Md_isT 1 (some .boolean) dd 0 0 [.ref (qb E + 114)] S I J (pQ S J I0 n cz op (one s))) :
    ∀ (I : qI) (s : pSt), pRd I0 n cz op s I → s.2.length ≤ s.1 → qMet E y_Md_isE b_Md_isE 1 (some .boolean) (dd + 1) 0 0 [.ref (qb E + 114)] S I J (pQ S J I0 n cz op (psq f n one 124 2 s)) := by
  intro I s h hs
  have hT := hM.1
  have hn := hx.2.1
  refine qMet.of (L := [some (.ref (qb E + 114))]) (by decide +kernel) (Nat.le_of_ble_eq_true rfl) rfl ?_
  refine lda_n_1_0 (pc := 0) d_Md_isE_0 ?_
  refine r_callV (pc := 1) (As := []) (k := 9) (N := 56) (T := T_Md) k_Md_202 im_Md_isT se_Md_isT rfl (by decide) rfl (by decide) d_Md_isE_1 (by assumption) (H1 I s h hs) rfl (Nat.le_of_ble_eq_true rfl) (by omega) (by omega) (by omega) (fun v S' I' J' hq => ?_)
  obtain ⟨rfl, rfl, hr, rfl⟩ := hq
  have g1 := hg s
  refine r_if_ne (pc := 4) (tgt := 9) d_Md_isE_4 (by decide) (fun c => ?_) (fun c => ?_)
  · have ht := pb1 c
    generalize hend : psq f n one 124 2 s = rr
    unfold psq at hend
    rw [if_pos ht] at hend
    have key : ∀ (m : Nat) (K : qI) (t : pSt), n < m + t.1 → pRd I0 n cz op t K → t.2.length ≤ t.1 → ploop f n one 124 2 m t = rr → qW E y_Md_isE b_Md_isE (some .boolean) (dd + 1) 0 0 (pQ S J I0 n cz op rr) 0 0 9 [some (.ref (qb E + 114))] [] S K J := by
      intro m
      induction m with
      | zero => intro K t hm hK; have := hK.2.2.2.1; omega
      | succ m ih =>
        intro K t hm hK hl e
        rw [ploop] at e
        refine lda_n_1_0 (pc := 9) d_Md_isE_9 ?_
        refine r_bipush (pc := 10) (v := 124) d_Md_isE_10 rfl ?_
        refine r_callV (pc := 12) (As := [.int 124]) (k := 9) (N := 56) (T := T_Md) k_Md_168 im_Md_is se_Md_is rfl (by decide) rfl (by decide) d_Md_isE_12 (by assumption) (c_Md_is hM hx hK) rfl (Nat.le_of_ble_eq_true rfl) (by omega) (by omega) (by omega) (fun v S' I' J' hq => ?_)
        obtain ⟨rfl, rfl, hr1, rfl⟩ := hq
        by_cases hc : t.1 < n ∧ f t.1 = 124
        · rw [if_pos hc] at e
          rw [show pis f n 124 t = (true, t.1 + 1, t.2) from if_pos hc] at hr1 ⊢
          have g2 := hg (t.1 + 1, t.2)
          unfold pgd at g2
          refine r_if_eq (pc := 15) (tgt := 35) d_Md_isE_15 (by decide) (fun c2 => ?_) (fun c2 => ?_)
          · exact absurd rfl (pb0 c2)
          · refine lda_n_1_0 (pc := 18) d_Md_isE_18 ?_
            refine r_callV (pc := 19) (As := []) (k := 9) (N := 56) (T := T_Md) k_Md_202 im_Md_isT se_Md_isT rfl (by decide) rfl (by decide) d_Md_isE_19 (by assumption) (H1 _ _ hr1 (Nat.le_succ_of_le hl)) rfl (Nat.le_of_ble_eq_true rfl) (by omega) (by omega) (by omega) (fun v S' I' J' hq => ?_)
            obtain ⟨rfl, rfl, hr2, rfl⟩ := hq
            have hr2 : pRd I0 n cz op (one (t.1 + 1, t.2)).2 I' := hr2
            have b2 := hr2.2.2.2.1
            simp only at g2
            refine r_if_eq (pc := 22) (tgt := 33) d_Md_isE_22 (by decide) (fun c3 => ?_) (fun c3 => ?_)
            · rw [if_neg (pb0 c3)] at e
              refine r_iconst (pc := 33) (v := 0) d_Md_isE_33 rfl ?_
              exact r_nret d_Md_isE_34 rfl (qbool_n (by first | exact Or.inl rfl | exact Or.inr rfl | assumption | exact qwithin_b | exact qbit_b)) (by omega) (by omega) (⟨by rw [← e, if_neg (pb0 c3)], rfl, by rw [← e]; exact hr2, rfl⟩)
            · rw [if_pos (pb1 c3)] at e
              refine lda_n_1_0 (pc := 25) d_Md_isE_25 ?_
              refine r_iconst (pc := 26) (v := 2) d_Md_isE_26 rfl ?_
              refine r_callV (pc := 27) (As := [.int 2]) (k := 9) (N := 56) (T := T_Md) k_Md_184 im_Md_codes se_Md_codes rfl (by decide) rfl (by decide) d_Md_isE_27 (by assumption) (c_Md_codes hM hr2 (by omega)) rfl (Nat.le_of_ble_eq_true rfl) (by omega) (by omega) (by omega) (fun v S' I' J' hq => ?_)
              obtain ⟨rfl, rfl, hr3, rfl⟩ := hq
              refine r_if_ne (pc := 30) (tgt := 9) d_Md_isE_30 (by decide) (fun c4 => ?_) (fun c4 => ?_)
              · refine ih _ _ ?_ hr3 ?_ e
                · simp only; omega
                · simp only [List.length_append, List.length_singleton]; omega
              · exact absurd rfl (pb0 c4)
        · rw [if_neg hc] at e
          rw [show pis f n 124 t = (false, t) from if_neg hc] at hr1 ⊢
          refine r_if_eq (pc := 15) (tgt := 35) d_Md_isE_15 (by decide) (fun c2 => ?_) (fun c2 => ?_)
          · rw [← e]
            refine r_iconst (pc := 35) (v := 1) d_Md_isE_35 rfl ?_
            exact r_nret d_Md_isE_36 rfl (qbool_n (by first | exact Or.inl rfl | exact Or.inr rfl | assumption | exact qwithin_b | exact qbit_b)) (by omega) (by omega) (⟨rfl, rfl, hr1, rfl⟩)
          · exact absurd rfl c2
    unfold pgd at g1
    exact key 101 _ _ (by omega) hr (by omega) hend
  · have ht := pb0 c
    rw [show psq f n one 124 2 s = one s from if_neg ht]
    refine r_iconst (pc := 7) (v := 0) d_Md_isE_7 rfl ?_
    exact r_nret d_Md_isE_8 rfl (qbool_n (by first | exact Or.inl rfl | exact Or.inr rfl | assumption | exact qwithin_b | exact qbit_b)) (by omega) (by omega) (⟨by rw [if_neg ht], rfl, hr, rfl⟩)
theorem c_Md_isF (hM : isMd S) (hx : pTx I0 f n) (hcz : cz ≤ 600) : ∀ (k op : Nat), op + k = 4 → ∀ (I : qI) (s : pSt), pRd I0 n cz op s I → s.2.length ≤ s.1 → qMet E y_Md_isF b_Md_isF 2 (some .boolean) (3 * k + 5) 0 0 [.ref (qb E + 114)] S I J (pQ S J I0 n cz op (pF f n k s)) := by
  have hT := hM.1
  have hn := hx.2.1
  intro k
  induction k with
  | zero =>
    intro op hop I s h hs
    have b1 := h.2.2.2.1
    refine qMet.of (L := [some (.ref (qb E + 114)), none]) (by decide +kernel) (Nat.le_of_ble_eq_true rfl) rfl ?_
    refine lda_n_2_0 (pc := 0) d_Md_isF_0 ?_
    refine r_bipush (pc := 1) (v := 33) d_Md_isF_1 rfl ?_
    refine r_callV (pc := 3) (As := [.int 33]) (k := 9) (N := 56) (T := T_Md) k_Md_190 im_Md_isOpened se_Md_isOpened rfl (by decide) rfl (by decide) d_Md_isF_3 (by assumption) (c_Md_isOpened hM hx h (by omega)) rfl (Nat.le_of_ble_eq_true rfl) (by omega) (by omega) (by omega) (fun v S' I' J' hq => ?_)
    obtain ⟨rfl, rfl, hh⟩ := hq
    rcases hh with ⟨-, w, -⟩ | ⟨rfl, -, hr⟩
    · omega
    refine r_if_eq (pc := 6) (tgt := 33) d_Md_isF_6 (by decide) (fun c => ?_) (fun c => ?_)
    · refine lda_n_2_0 (pc := 33) d_Md_isF_33 ?_
      refine r_bipush (pc := 34) (v := 40) d_Md_isF_34 rfl ?_
      refine r_callV (pc := 36) (As := [.int 40]) (k := 9) (N := 56) (T := T_Md) k_Md_190 im_Md_isOpened se_Md_isOpened rfl (by decide) rfl (by decide) d_Md_isF_36 (by assumption) (c_Md_isOpened hM hx hr (by omega)) rfl (Nat.le_of_ble_eq_true rfl) (by omega) (by omega) (by omega) (fun v S' I' J' hq => ?_)
      obtain ⟨rfl, rfl, hh⟩ := hq
      rcases hh with ⟨-, w, -⟩ | ⟨rfl, -, hr⟩
      · omega
      refine r_if_eq (pc := 39) (tgt := 67) d_Md_isF_39 (by decide) (fun c2 => ?_) (fun c2 => ?_)
      · refine lda_n_2_0 (pc := 67) d_Md_isF_67 ?_
        refine r_callV (pc := 68) (As := []) (k := 9) (N := 56) (T := T_Md) k_Md_199 im_Md_isTest se_Md_isTest rfl (by decide) rfl (by decide) d_Md_isF_68 (by assumption) (c_Md_isTest hM hx hr (by omega)) rfl (Nat.le_of_ble_eq_true rfl) (by omega) (by omega) (by omega) (fun v S' I' J' hq => ?_)
        obtain ⟨rfl, rfl, hr, rfl⟩ := hq
        rw [show pF f n 0 s = ptest f n s from rfl]
        exact r_nret d_Md_isF_71 rfl (qbool_n (by first | exact Or.inl rfl | exact Or.inr rfl | assumption | exact qwithin_b | exact qbit_b)) (by omega) (by omega) (⟨rfl, rfl, hr, rfl⟩)
      · exact absurd rfl c2
    · exact absurd rfl c
  | succ k ih =>
    intro op hop I s h hs
    have b1 := h.2.2.2.1
    have fin : ∀ (K : qI) (r : pSt) (b : Bool), pRd I0 n cz (op + 1) r K → (b, r) = pF f n (k + 1) s → qW E y_Md_isF b_Md_isF (some .boolean) (3 * (k + 1) + 5) 0 0 (pQ S J I0 n cz op (pF f n (k + 1) s)) 0 0 72 [some (.ref (qb E + 114)), some (.int (if b = true then 1 else 0))] [] S K J := by
      intro K r b hK e
      rw [← e]
      have h5 := hK.2.2.2.2.1
      refine lda_n_2_0 (pc := 72) d_Md_isF_72 ?_
      refine r_dup (pc := 73) d_Md_isF_73 rfl ?_
      refine g_Md_187 (pc := 74) rfl d_Md_isF_74 (by assumption) ?_
      refine r_iconst (pc := 77) (v := 1) d_Md_isF_77 rfl ?_
      refine r_isub (pc := 78) d_Md_isF_78 ?_
      refine p_Md_187 (pc := 79) rfl d_Md_isF_79 (by assumption) ?_
      refine ldi_n_2_1 (pc := 82) d_Md_isF_82 ?_
      exact r_nret d_Md_isF_83 rfl (qbool_n (by first | exact Or.inl rfl | exact Or.inr rfl | assumption | exact qwithin_b | exact qbit_b)) (by omega) (by omega) (⟨rfl, rfl, hK.op (by rw [h5, nI_pred]), rfl⟩)
    refine qMet.of (L := [some (.ref (qb E + 114)), none]) (by decide +kernel) (Nat.le_of_ble_eq_true rfl) rfl ?_
    refine lda_n_2_0 (pc := 0) d_Md_isF_0 ?_
    refine r_bipush (pc := 1) (v := 33) d_Md_isF_1 rfl ?_
    refine r_callV (pc := 3) (As := [.int 33]) (k := 9) (N := 56) (T := T_Md) k_Md_190 im_Md_isOpened se_Md_isOpened rfl (by decide) rfl (by decide) d_Md_isF_3 (by assumption) (c_Md_isOpened hM hx h (by omega)) rfl (Nat.le_of_ble_eq_true rfl) (by omega) (by omega) (by omega) (fun v S' I' J' hq => ?_)
    obtain ⟨rfl, rfl, hh⟩ := hq
    rcases hh with ⟨rfl, -, hc, hr⟩ | ⟨rfl, hno, hr⟩
    · refine r_if_eq (pc := 6) (tgt := 33) d_Md_isF_6 (by decide) (fun c => ?_) (fun c => ?_)
      · exact absurd c (by decide)
      · have g2 := pF_good (f := f) (n := n) k (s.1 + 1, s.2)
        unfold pgd at g2
        refine lda_n_2_0 (pc := 9) d_Md_isF_9 ?_
        refine r_callV (pc := 10) (As := []) (k := 9) (N := 56) (T := T_Md) k_Md_193 im_Md_isF se_Md_isF rfl (by decide) rfl (by decide) d_Md_isF_10 (by assumption) (ih (op + 1) (by omega) _ _ hr (Nat.le_succ_of_le hs)) rfl (Nat.le_of_ble_eq_true rfl) (by omega) (by omega) (by omega) (fun v S' I' J' hq => ?_)
        obtain ⟨rfl, rfl, hr2, rfl⟩ := hq
        have b2 := hr2.2.2.2.1
        simp only at g2 b2
        refine r_if_eq (pc := 13) (tgt := 28) d_Md_isF_13 (by decide) (fun c2 => ?_) (fun c2 => ?_)
        · have e : (false, (pF f n k (s.1 + 1, s.2)).2) = pF f n (k + 1) s := by
            rw [pF, if_pos hc, if_neg (pb0 c2)]; exact pbf (pb0 c2)
          refine r_iconst (pc := 28) (v := 0) d_Md_isF_28 rfl ?_
          refine sti_n_2_1 (pc := 29) d_Md_isF_29 rfl ?_
          refine r_goto (pc := 30) (tgt := 72) d_Md_isF_30 (by decide) ?_
          exact fin _ _ false hr2 e
        · have e : (true, (pF f n k (s.1 + 1, s.2)).2.1, (pF f n k (s.1 + 1, s.2)).2.2 ++ [0]) = pF f n (k + 1) s := by
            rw [pF, if_pos hc, if_pos (pb1 c2)]
          refine lda_n_2_0 (pc := 16) d_Md_isF_16 ?_
          refine r_iconst (pc := 17) (v := 0) d_Md_isF_17 rfl ?_
          refine r_callV (pc := 18) (As := [.int 0]) (k := 9) (N := 56) (T := T_Md) k_Md_184 im_Md_codes se_Md_codes rfl (by decide) rfl (by decide) d_Md_isF_18 (by assumption) (c_Md_codes hM hr2 (by omega)) rfl (Nat.le_of_ble_eq_true rfl) (by omega) (by omega) (by omega) (fun v S' I' J' hq => ?_)
          obtain ⟨rfl, rfl, hr3, rfl⟩ := hq
          refine r_if_eq (pc := 21) (tgt := 28) d_Md_isF_21 (by decide) (fun c3 => ?_) (fun c3 => ?_)
          · exact absurd rfl (pb0 c3)
          · refine r_iconst (pc := 24) (v := 1) d_Md_isF_24 rfl ?_
            refine r_goto (pc := 25) (tgt := 29) d_Md_isF_25 (by decide) ?_
            refine sti_n_2_1 (pc := 29) d_Md_isF_29 rfl ?_
            refine r_goto (pc := 30) (tgt := 72) d_Md_isF_30 (by decide) ?_
            exact fin _ _ true hr3 e
    · have h33 : ¬ (s.1 < n ∧ f s.1 = 33) := fun q => hno ⟨by omega, q.1, q.2⟩
      refine r_if_eq (pc := 6) (tgt := 33) d_Md_isF_6 (by decide) (fun c => ?_) (fun c => ?_)
      · refine lda_n_2_0 (pc := 33) d_Md_isF_33 ?_
        refine r_bipush (pc := 34) (v := 40) d_Md_isF_34 rfl ?_
        refine r_callV (pc := 36) (As := [.int 40]) (k := 9) (N := 56) (T := T_Md) k_Md_190 im_Md_isOpened se_Md_isOpened rfl (by decide) rfl (by decide) d_Md_isF_36 (by assumption) (c_Md_isOpened hM hx hr (by omega)) rfl (Nat.le_of_ble_eq_true rfl) (by omega) (by omega) (by omega) (fun v S' I' J' hq => ?_)
        obtain ⟨rfl, rfl, hh⟩ := hq
        rcases hh with ⟨rfl, -, hc, hr1⟩ | ⟨rfl, hno2, hr1⟩
        · refine r_if_eq (pc := 39) (tgt := 67) d_Md_isF_39 (by decide) (fun c1 => ?_) (fun c1 => ?_)
          · exact absurd c1 (by decide)
          · refine lda_n_2_0 (pc := 42) d_Md_isF_42 ?_
            refine r_callV (pc := 43) (As := []) (k := 9) (N := 56) (T := T_Md) k_Md_196 im_Md_isE se_Md_isE rfl (by decide) rfl (by decide) d_Md_isF_43 (by assumption) (c_Md_isE hM hx hcz (psq_good (pF_good k)) (by omega) (c_Md_isT hM hx hcz (pF_good k) (by omega) (ih (op + 1) (by omega))) _ _ hr1 (Nat.le_succ_of_le hs)) rfl (Nat.le_of_ble_eq_true rfl) (by omega) (by omega) (by omega) (fun v S' I' J' hq => ?_)
            obtain ⟨rfl, rfl, hr2, rfl⟩ := hq
            have ee : pF f n (k + 1) s = (if (pE f n (pF f n k) (s.1 + 1, s.2)).1 = true then pis f n 41 (pE f n (pF f n k) (s.1 + 1, s.2)).2 else pE f n (pF f n k) (s.1 + 1, s.2)) := by
              rw [pF, if_neg h33, if_pos hc]
            have hr2' : pRd I0 n cz (op + 1) (pE f n (pF f n k) (s.1 + 1, s.2)).2 _ := hr2
            refine r_if_eq (pc := 46) (tgt := 62) d_Md_isF_46 (by decide) (fun c2 => ?_) (fun c2 => ?_)
            · have c2' : ¬ (pE f n (pF f n k) (s.1 + 1, s.2)).1 = true := pb0 c2
              refine r_iconst (pc := 62) (v := 0) d_Md_isF_62 rfl ?_
              refine sti_n_2_1 (pc := 63) d_Md_isF_63 rfl ?_
              refine r_goto (pc := 64) (tgt := 72) d_Md_isF_64 (by decide) ?_
              exact fin _ _ false hr2' (by rw [ee, if_neg c2']; exact pbf c2')
            · have c2' : (pE f n (pF f n k) (s.1 + 1, s.2)).1 = true := pb1 c2
              refine lda_n_2_0 (pc := 49) d_Md_isF_49 ?_
              refine r_bipush (pc := 50) (v := 41) d_Md_isF_50 rfl ?_
              refine r_callV (pc := 52) (As := [.int 41]) (k := 9) (N := 56) (T := T_Md) k_Md_168 im_Md_is se_Md_is rfl (by decide) rfl (by decide) d_Md_isF_52 (by assumption) (c_Md_is hM hx hr2') rfl (Nat.le_of_ble_eq_true rfl) (by omega) (by omega) (by omega) (fun v S' I' J' hq => ?_)
              obtain ⟨rfl, rfl, hr3, rfl⟩ := hq
              refine r_if_eq (pc := 55) (tgt := 62) d_Md_isF_55 (by decide) (fun c3 => ?_) (fun c3 => ?_)
              · refine r_iconst (pc := 62) (v := 0) d_Md_isF_62 rfl ?_
                refine sti_n_2_1 (pc := 63) d_Md_isF_63 rfl ?_
                refine r_goto (pc := 64) (tgt := 72) d_Md_isF_64 (by decide) ?_
                exact fin _ _ false hr3 (by rw [ee, if_pos c2']; exact pbf (pb0 c3))
              · refine r_iconst (pc := 58) (v := 1) d_Md_isF_58 rfl ?_
                refine r_goto (pc := 59) (tgt := 63) d_Md_isF_59 (by decide) ?_
                refine sti_n_2_1 (pc := 63) d_Md_isF_63 rfl ?_
                refine r_goto (pc := 64) (tgt := 72) d_Md_isF_64 (by decide) ?_
                exact fin _ _ true hr3 (by rw [ee, if_pos c2']; exact pbt (pb1 c3))
        · have h40 : ¬ (s.1 < n ∧ f s.1 = 40) := fun q => hno2 ⟨by omega, q.1, q.2⟩
          refine r_if_eq (pc := 39) (tgt := 67) d_Md_isF_39 (by decide) (fun c2 => ?_) (fun c2 => ?_)
          · refine lda_n_2_0 (pc := 67) d_Md_isF_67 ?_
            refine r_callV (pc := 68) (As := []) (k := 9) (N := 56) (T := T_Md) k_Md_199 im_Md_isTest se_Md_isTest rfl (by decide) rfl (by decide) d_Md_isF_68 (by assumption) (c_Md_isTest hM hx hr1 (by omega)) rfl (Nat.le_of_ble_eq_true rfl) (by omega) (by omega) (by omega) (fun v S' I' J' hq => ?_)
            obtain ⟨rfl, rfl, hr2, rfl⟩ := hq
            rw [show pF f n (k + 1) s = ptest f n s by rw [pF, if_neg h33, if_neg h40]]
            exact r_nret d_Md_isF_71 rfl (qbool_n (by first | exact Or.inl rfl | exact Or.inr rfl | assumption | exact qwithin_b | exact qbit_b)) (by omega) (by omega) (⟨rfl, rfl, hr2, rfl⟩)
          · exact absurd rfl c2
      · exact absurd rfl c
/-- an E at the start of a clause -/
theorem c_Md_isE0 (hM : isMd S) (hx : pTx I0 f n) (hcz : cz ≤ 600) {I : qI} {s : pSt} (h : pRd I0 n cz 0 s I) (hs : s.2.length ≤ s.1) : qMet E y_Md_isE b_Md_isE 1 (some .boolean) 19 0 0 [.ref (qb E + 114)] S I J (pQ S J I0 n cz 0 (pE f n (pF f n 4) s)) :=
  c_Md_isE hM hx hcz (psq_good (pF_good 4)) (by omega) (c_Md_isT hM hx hcz (pF_good 4) (by omega) (c_Md_isF hM hx hcz 4 0 rfl)) I s h hs
end G19
