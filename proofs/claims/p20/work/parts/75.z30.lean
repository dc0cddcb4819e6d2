/-! class and reference side by side: the image, undo, tapes -/
theorem qbecN_m {I : qI} {o q : Nat} (hap : qApM o q) : ∀ n, n ≤ 6 → ∀ p, p < n → qbecN I o q n (qm o p) 1 = I (qm q p) 1 ∧ qbecN I o q n (qm o p) 2 = I (qm q p) 2 ∧ ∀ r, r < 4 → qbecN I o q n (qm o p + 1) r = I (qm q p + 1) r := by
  intro n
  induction n with
  | zero => intro _ p hp; omega
  | succ n ih =>
    intro hn p hp
    unfold qApM at hap
    rw [qbecN]
    by_cases w : p = n
    · subst w
      have s1 : qbecN I o q p (qm q p) = I (qm q p) := qbecN_row p (by omega) (by unfold qm; omega)
      have s2 : qbecN I o q p (qm q p + 1) = I (qm q p + 1) := qbecN_row p (by omega) (by unfold qm; omega)
      unfold qbecomes
      refine ⟨?_, ?_, fun r hr => ?_⟩
      · rw [qfil_o (by omega), qup_j (by decide), qup_j (by decide), qup_j (by decide), qup_j (by decide), qup_j (by decide), qup_at, s1]
      · rw [qfil_o (by omega), qup_j (by decide), qup_j (by decide), qup_j (by decide), qup_j (by decide), qup_at, s1]
      · unfold qfil; rw [if_pos ⟨rfl, hr⟩, s2]
    · rw [qbecomes_row (by unfold qm; omega) (by unfold qm; omega), qbecomes_row (by unfold qm; omega) (by unfold qm; omega)]
      exact ih (by omega) p (by omega)
theorem qbecN_0 {I : qI} {q : Nat} : ∀ n, n ≤ 6 → ∀ p, p < 6 → qbecN I 6 q n (qm 6 p) 0 = I (qm 6 p) 0 := by
  intro n
  induction n with
  | zero => intro _ p _; rfl
  | succ n ih =>
    intro hn p hp
    rw [qbecN]; unfold qbecomes
    rw [qfil_o (by unfold qm; omega), qup_j (by decide), qup_j (by decide), qup_j (by decide), qup_j (by decide), qup_j (by decide), qup_j (by decide)]
    exact ih (by omega) p hp
theorem xT.bec {I : qI} {f f' : Nat → Int32} {o q D : Nat} (h : xT I q f) (hok : qMgOK I q D) (hap : qApM o q) (hf : ∀ j, cDj j → f' j = f j) : xT (qmbec I o q) o f' := by
  obtain ⟨a1, a2, a3, a4, a5, a6, a7, a8⟩ := h
  obtain ⟨⟨c, c6, hc⟩, ⟨l, l6, hl⟩, -, ⟨z1, y1, x1⟩, ⟨z2, y2, x2⟩, ⟨z3, y3, x3⟩, -⟩ := hok
  unfold cDj at hf
  have b1 : qmbec I o q o 1 = nI c := qmbec_1 hc c6
  refine ⟨?_, ?_, ?_, ?_, ?_, ?_, fun c' p hc' e hp => ?_, fun l' i hl6 e hi => ?_⟩
  · rw [hf _ (by omega), b1, ← hc]; exact a1
  · rw [hf _ (by omega), qmbec_3]; exact a2
  · rw [hf _ (by omega), qmbec_4]; exact a3
  · rw [hf _ (by omega), qmbec_n3, x1, qcl (by omega), ← x1]; exact a4
  · rw [hf _ (by omega), qmbec_n7, x2, qcl (by omega), ← x2]; exact a5
  · rw [hf _ (by omega), qmbec_n11, x3, qcl (by omega), ← x3]; exact a6
  · have ec : c' = c := (nI_eq (by omega) (by omega)).mp (e.symm.trans b1)
    subst ec
    have s : ∀ a, o + 15 ≤ a → a ≤ o + 26 → qmbec I o q a = qbecN (qup I o 1 (I q 1)) o q c' a := fun a h1 h2 => by
      unfold qmbec
      rw [qnbec_row (by omega), qnbec_row (by omega), qnbec_row (by omega)]
      unfold qmbA
      rw [qup_row (by omega), qfil_o (by omega), qup_row (by omega), hc, qcl (by omega)]
    obtain ⟨m1, m0, m2⟩ := qbecN_m (I := qup I o 1 (I q 1)) hap c' c6 p hp
    have n1 : qup I o 1 (I q 1) (qm q p) = I (qm q p) := qup_row (by unfold qApM at hap; unfold qm; omega)
    have n2 : qup I o 1 (I q 1) (qm q p + 1) = I (qm q p + 1) := qup_row (by unfold qApM at hap; unfold qm; omega)
    rw [n1] at m1 m0
    rw [n2] at m2
    obtain ⟨k1, k0, k2⟩ := a7 c' p c6 hc hp
    refine ⟨by rw [hf _ (by omega), s (qm o p) (by unfold qm; omega) (by unfold qm; omega), m1]; exact k1, by rw [hf _ (by omega), s (qm o p) (by unfold qm; omega) (by unfold qm; omega), m0]; exact k0, fun r hr => ?_⟩
    rw [hf _ (by omega), s (qm o p + 1) (by unfold qm; omega) (by unfold qm; omega), m2 r hr]; exact k2 r hr
  · rw [qmbec_3, hl] at e
    have el : l = l' := (nI_eq (by omega) (by omega)).mp e
    subst el
    have s : qmbec I o q (o + 2) i = I (q + 2) i := by
      unfold qmbec
      rw [qnbec_row (by omega), qnbec_row (by omega), qnbec_row (by omega)]
      unfold qmbA
      rw [qup_o (by omega)]
      unfold qfil
      rw [hl, qcl (by omega), if_pos ⟨rfl, hi⟩]
    rw [hf _ (by omega), s]; exact a8 l i hl6 hl hi
theorem xINV.image {S S1 S2 : qSh} {I I1 I2 : qI} {J J1 J2 : qJ} {T T2 : qI → Prop} {v v2 : Option Value} (g : xINV S I J) (pK : I1 = qup (qmbec I 60 6) 0 4 1 ∧ J1 = J ∧ qMgOK I 6 9999) (hK : KQ0 S I J T v S1 I1 J1) (pR : (∀ j, j < 124 → I2 139 j = kp I1 j) ∧ (∀ j, j < 124 → kp I2 j = kp I1 j) ∧ I2 114 39 = 1 ∧ (I2 114 37 = I1 114 37 ∧ I2 138 = I1 138) ∧ (I2 114 17 = I1 114 17 ∧ I2 114 11 = I1 114 11 ∧ I2 123 = I1 123) ∧ (∀ a, 145 ≤ a → a ≤ 147 → I2 a = I1 a) ∧ J2 = J1) (hV : RQ0 S1 I1 J1 T2 v2 S2 I2 J2) : xINV S2 I2 J2 := by
  have cf := hK.2.2.1
  have rf := hV.2.2.1
  obtain ⟨t1, t2, t3, t4, t5, t6⟩ := g.2.2.2
  obtain ⟨hI1, rfl, hok⟩ := pK
  obtain ⟨k139, kk, h39, r37, r17, r145, j2⟩ := pR
  have ap : qApM 60 6 := by unfold qApM; omega
  have r1 : ∀ a, a ≠ 0 → (a < 60 ∨ 86 < a) → I1 a = I a := fun a a0 ha => by rw [hI1, qup_row a0, qmbec_row hok (by omega)]
  have r60 : ∀ a, 60 ≤ a → I1 a = qmbec I 60 6 a := fun a ha => by rw [hI1, qup_row (by omega)]
  have kk2 : ∀ j, j < 124 → kp I2 j = kp I j := fun j hj => by rw [kk j hj, kp_far cf hj]
  refine g.mk2 hK hV ⟨?_, ?_, fun _ => ?_, fun t ht => ?_, t5.fr (by rw [(rf 99 (by omega)).1, r1 99 (by omega) (by omega)]) (by rw [(rf 100 (by omega)).1, r1 100 (by omega) (by omega)]) (by rw [r37.1, (cf 114 (by omega) (by omega)).1]) (by rw [r37.2, (cf 138 (by omega) (by omega)).1]) (fun p hp => by rw [(rf (qm 6 p) (by unfold qm; omega)).1, r1 (qm 6 p) (by unfold qm; omega) (by unfold qm; omega)]), t6.fr (by rw [(rf 0 (by omega)).1, hI1, qup_j (by decide), qmbec_row hok (by omega)]) (by rw [(rf 87 (by omega)).1, r1 87 (by omega) (by omega)]) (by rw [(rf 88 (by omega)).1, r1 88 (by omega) (by omega)]) (by rw [r17.1, (cf 114 (by omega) (by omega)).1]) (by rw [r17.2.1, (cf 114 (by omega) (by omega)).1]) (by rw [r17.2.2, (cf 123 (by omega) (by omega)).1])⟩
  · exact t1.rows (fun a a1 a2 => by rw [(rf a (by omega)).1, r1 a (by omega) (by omega)]) (fun j hj => kk2 j hj.lt)
  · rw [h39, (rf 0 (by omega)).1, hI1, qup_at]
  · have b : xT (qmbec I 60 6) 60 (I2 139) := t1.bec hok ap (fun j hj => by rw [k139 j hj.lt, kp_far cf hj.lt])
    exact b.rows (fun a a1 a2 => by rw [(rf a (by omega)).1, r60 a a1]) (fun j _ => rfl)
  · obtain ⟨b1, b2, b3, b4⟩ := t4 t ht
    have e1 : I2 145 = I 145 := by rw [r145 145 (by omega) (by omega), (cf 145 (by omega) (by omega)).1]
    have e2 : I2 146 = I 146 := by rw [r145 146 (by omega) (by omega), (cf 146 (by omega) (by omega)).1]
    rw [e1, e2, (rf (102 + 2 * t) (by omega)).1, r1 (102 + 2 * t) (by omega) (by omega), j2]
    exact ⟨b1, b2, b3, b4⟩
theorem xINV.undo1 {S S1 S2 : qSh} {I I1 I2 : qI} {J J1 J2 : qJ} {T T2 : qI → Prop} {v v2 : Option Value} (g : xINV S I J) (hz : I 0 4 = 1) (pK : I1 = qmbec I 6 60 ∧ J1 = J ∧ qMgOK I 60 9999) (hK : KQ0 S I J T v S1 I1 J1) (pR : (∀ j, j < 124 → kp I2 j = I1 139 j) ∧ I2 139 = I1 139 ∧ (I2 114 37 = I1 114 37 ∧ I2 138 = I1 138) ∧ (I2 114 17 = I1 114 17 ∧ I2 114 11 = I1 114 11 ∧ I2 123 = I1 123) ∧ (∀ a, 145 ≤ a → a ≤ 147 → I2 a = I1 a) ∧ J2 = J1) (h39 : I2 114 39 = 1) (hV : RQ0 S1 I1 J1 T2 v2 S2 I2 J2) : xINV S2 I2 J2 := by
  have cf := hK.2.2.1
  have rf := hV.2.2.1
  obtain ⟨t1, t2, t3, t4, t5, t6⟩ := g.2.2.2
  obtain ⟨hI1, rfl, hok⟩ := pK
  obtain ⟨kk, e139, r37, r17, r145, j2⟩ := pR
  have ap : qApM 6 60 := by unfold qApM; omega
  have r1 : ∀ a, (a < 6 ∨ 32 < a) → I1 a = I a := fun a ha => by rw [hI1, qmbec_row hok (by omega)]
  have e139' : I1 139 = I 139 := (cf 139 (by omega) (by omega)).1
  have r0 : ∀ p, p < 6 → I1 (qm 6 p) 0 = I (qm 6 p) 0 := fun p hp => by
    obtain ⟨⟨c, c6, hc⟩, -⟩ := hok
    rw [hI1, qmbec_m hc c6 hp, qbecN_0 c c6 p hp, qup_o (by unfold qm; omega)]
  refine g.mk2 hK hV ⟨?_, ?_, fun _ => ?_, fun t ht => ?_, t5.fr (by rw [(rf 99 (by omega)).1, r1 99 (by omega)]) (by rw [(rf 100 (by omega)).1, r1 100 (by omega)]) (by rw [r37.1, (cf 114 (by omega) (by omega)).1]) (by rw [r37.2, (cf 138 (by omega) (by omega)).1]) (fun p hp => by rw [(rf (qm 6 p) (by unfold qm; omega)).1]; exact r0 p hp), t6.fr (by rw [(rf 0 (by omega)).1, r1 0 (by omega)]) (by rw [(rf 87 (by omega)).1, r1 87 (by omega)]) (by rw [(rf 88 (by omega)).1, r1 88 (by omega)]) (by rw [r17.1, (cf 114 (by omega) (by omega)).1]) (by rw [r17.2.1, (cf 114 (by omega) (by omega)).1]) (by rw [r17.2.2, (cf 123 (by omega) (by omega)).1])⟩
  · have b : xT (qmbec I 6 60) 6 (kp I2) := (t3 hz).bec hok ap (fun j hj => by rw [kk j hj.lt, e139'])
    exact b.rows (fun a a1 a2 => by rw [(rf a (by omega)).1, hI1]) (fun j _ => rfl)
  · rw [h39, (rf 0 (by omega)).1, r1 0 (by omega), hz]
  · rw [e139, e139']
    exact (t3 hz).rows (fun a a1 a2 => by rw [(rf a (by omega)).1, r1 a (by omega)]) (fun j _ => rfl)
  · obtain ⟨b1, b2, b3, b4⟩ := t4 t ht
    have e1 : I2 145 = I 145 := by rw [r145 145 (by omega) (by omega), (cf 145 (by omega) (by omega)).1]
    have e2 : I2 146 = I 146 := by rw [r145 146 (by omega) (by omega), (cf 146 (by omega) (by omega)).1]
    rw [e1, e2, (rf (102 + 2 * t) (by omega)).1, r1 (102 + 2 * t) (by omega), j2]
    exact ⟨b1, b2, b3, b4⟩
/-- what touches tapes alone -/
theorem xTie.tps {I I1 I2 : qI} {J J1 J2 : qJ} (h : xTie I J) (c1 : ∀ a, (a < 102 ∨ 113 < a) → I1 a = I a) (cf : cFar I I1 J J1) (r2 : ∀ a, a ≠ 145 → a ≠ 146 → I2 a = I1 a) (rf : rFar I1 I2 J1 J2) (ht : xTps I2 J2) : xTie I2 J2 := by
  obtain ⟨t1, t2, t3, t4, t5, t6⟩ := h
  have e : ∀ a, (a < 102 ∨ 113 < a) → a ≠ 145 → a ≠ 146 → I2 a = I a := fun a a1 a2 a3 => by rw [r2 a a2 a3, c1 a a1]
  refine ⟨t1.rows (fun a a1 a2 => e a (by omega) (by omega) (by omega)) (fun j hj => ?_), ?_, fun h1 => ?_, ht, t5.fr (by rw [e 99 (by omega) (by omega) (by omega)]) (e 100 (by omega) (by omega) (by omega)) (by rw [e 114 (by omega) (by omega) (by omega)]) (e 138 (by omega) (by omega) (by omega)) (fun p hp => by rw [e (qm 6 p) (by unfold qm; omega) (by unfold qm; omega) (by unfold qm; omega)]), t6.fr (by rw [e 0 (by omega) (by omega) (by omega)]) (by rw [e 87 (by omega) (by omega) (by omega)]) (e 88 (by omega) (by omega) (by omega)) (by rw [e 114 (by omega) (by omega) (by omega)]) (by rw [e 114 (by omega) (by omega) (by omega)]) (e 123 (by omega) (by omega) (by omega))⟩
  · rw [kp_D hj (fun a ha => e a (by omega) (by omega) (by omega))]
  · rw [e 114 (by omega) (by omega) (by omega), e 0 (by omega) (by omega) (by omega)]; exact t2
  · rw [e 0 (by omega) (by omega) (by omega)] at h1
    rw [e 139 (by omega) (by omega) (by omega)]
    exact (t3 h1).rows (fun a a1 a2 => e a (by omega) (by omega) (by omega)) (fun j _ => rfl)
theorem ci_tape_no {I : qI} {J : qJ} {tp s n : Int32} (h : qwithin tp 0 5 = 0 ∨ ¬ ca_tape tp s n = 1) : ci_tape I tp s n = I ∧ cj_tape J tp s n = J := by
  unfold ci_tape cj_tape
  by_cases c1 : qwithin tp 0 5 = 0
  · rw [if_pos c1, if_pos c1]; exact ⟨rfl, rfl⟩
  · have h2 := h.resolve_left c1
    unfold ca_tape at h2
    rw [if_neg c1] at h2 ⊢
    rw [if_neg c1]
    by_cases c2 : s = -1
    · rw [if_pos c2] at h2; exact absurd rfl h2
    · rw [if_neg c2] at h2 ⊢
      rw [if_neg c2]
      by_cases c3 : qwithin s 0 4 = 0
      · rw [if_pos c3, if_pos c3]; exact ⟨rfl, rfl⟩
      · rw [if_neg c3] at h2 ⊢
        rw [if_neg c3]
        by_cases c4 : n ≤ 60
        · rw [if_pos c4] at h2 ⊢
          rw [if_pos c4]
          by_cases c5 : 0 ≤ n
          · rw [if_pos c5] at h2; exact absurd rfl h2
          · rw [if_neg c5, if_neg c5]; exact ⟨rfl, rfl⟩
        · rw [if_neg c4, if_neg c4]; exact ⟨rfl, rfl⟩
theorem ctp_nI {t : Nat} (h : t < 6) : ctp (nI t) = 102 + 2 * t := by unfold ctp; rw [qcl (by omega)]
theorem ci_tape_ye {I : qI} {J : qJ} {s n : Int32} {t : Nat} (ht : t < 6) (h1 : ¬ qwithin s (-1) 4 = 0) (h2 : s < 0 ∨ n ≤ 60 ∧ 0 ≤ n) : ci_tape I (nI t) s n = qup (qup I (102 + 2 * t) 0 s) (102 + 2 * t) 1 (if 0 ≤ s then n else 0) ∧ cj_tape J (nI t) s n = qfilJ J (102 + 2 * t + 1) 60 (fun _ => 0) ∧ (s = -1 ∧ (if 0 ≤ s then n else 0) = 0 ∨ 0 ≤ s) := by
  unfold ci_tape cj_tape
  rw [if_neg (tp_in t ht), if_neg (tp_in t ht), ctp_nI ht]
  by_cases c : s = -1
  · rw [if_pos c, if_pos c, if_neg (show ¬ 0 ≤ s by rw [c]; decide)]
    exact ⟨rfl, rfl, Or.inl ⟨c, rfl⟩⟩
  · have h0 := qm1_nn h1 c
    have h3 := h2.resolve_left (Int32.not_lt.mpr h0)
    have c3 : ¬ qwithin s 0 4 = 0 := fun c2 => h1 (q14 c c2)
    rw [if_neg c, if_neg c, if_neg c3, if_neg c3, if_pos h3.1, if_pos h3.1, if_pos h3.2, if_pos h3.2, if_pos h0]
    exact ⟨rfl, rfl, Or.inr h0⟩
theorem xINV.tape {S S1 S2 : qSh} {I I1 I2 : qI} {J J1 J2 : qJ} {T T2 : qI → Prop} {v v2 : Option Value} {tp s n : Int32} (g : xINV S I J) (pK : I1 = ci_tape I tp s n ∧ J1 = cj_tape J tp s n) (hK : KQ0 S I J T v S1 I1 J1) (pR : xTp I1 J1 tp s n I2 J2) (hV : RQ0 S1 I1 J1 T2 v2 S2 I2 J2) : xINV S2 I2 J2 := by
  have cf := hK.2.2.1
  have rf := hV.2.2.1
  have tie := g.2.2.2
  obtain ⟨hI1, hJ1⟩ := pK
  rcases pR with ⟨h, hI2, hJ2⟩ | ⟨t, ht, rfl, -, h1, h2, hI2, hJ2⟩
  · obtain ⟨e1, e2⟩ := ci_tape_no (I := I) (J := J) h
    rw [e1] at hI1
    rw [e2] at hJ1
    exact g.mk2 hK hV (tie.idn hI1 hJ1 hI2 hJ2)
  · obtain ⟨e1, e2, e3⟩ := ci_tape_ye (I := I) (J := J) ht h1 h2
    rw [e1] at hI1
    rw [e2] at hJ1
    refine g.mk2 hK hV (tie.tps (fun a ha => by rw [hI1, qup_row (by omega), qup_row (by omega)]) cf (fun a a1 a2 => by rw [hI2, qup_row a2, qup_row a1]) rf (fun u hu => ?_))
    have q147 : ∀ k, J2 147 k = if 60 * t ≤ k ∧ k < 60 * t + 60 then 0 else J 147 k := fun k => by
      rw [hJ2]; unfold mfil
      by_cases w : 60 * t ≤ k ∧ k < 60 * t + 60
      · rw [if_pos ⟨rfl, w⟩, if_pos w]
      · rw [if_neg (fun z => w z.2), if_neg w, (cf 147 (by omega) (by omega)).2]
    have qc : ∀ i, i < 60 → J2 (102 + 2 * u + 1) i = if u = t then 0 else J (102 + 2 * u + 1) i := fun i hi => by
      rw [(rf (102 + 2 * u + 1) (by omega)).2, hJ1]; unfold qfilJ
      by_cases w : u = t
      · subst w; rw [if_pos ⟨rfl, hi⟩, if_pos rfl]
      · rw [if_neg (by omega), if_neg w]
    obtain ⟨b1, b2, b3, b4⟩ := tie.2.2.2.1 u hu
    rw [(rf (102 + 2 * u) (by omega)).1]
    by_cases w : u = t
    · subst w
      rw [hI2, qup_o (by decide), qup_at, qup_at, hI1, qup_j (by decide), qup_at, qup_at]
      refine ⟨rfl, rfl, fun i hi => ?_, e3⟩
      rw [q147, if_pos (by omega), qc i hi, if_pos rfl]
    · have i1 : I2 145 u = I 145 u := by rw [hI2, qup_o (by decide), qup_j w, (cf 145 (by omega) (by omega)).1]
      have i2 : I2 146 u = I 146 u := by rw [hI2, qup_j w, qup_o (by decide), (cf 146 (by omega) (by omega)).1]
      have i3 : I1 (102 + 2 * u) = I (102 + 2 * u) := by rw [hI1, qup_row (by omega), qup_row (by omega)]
      rw [i1, i2, i3]
      refine ⟨b1, b2, fun i hi => ?_, b4⟩
      rw [q147, if_neg (by omega), qc i hi, if_neg w]; exact b3 i hi
theorem qitem_kept {s : Int32} {z : Int64} : qitem s z = mkept s z := rfl
theorem nI_60 (t k : Nat) : 60 * nI t + nI k = nI (60 * t + k) := by
  show Int32.ofNat 60 * Int32.ofNat t + Int32.ofNat k = Int32.ofNat (60 * t + k)
  rw [Int32.ofNat_add, Int32.ofNat_mul]
theorem n11 : ¬ (0 : Int32) ≤ -1 := by decide
theorem xINV.item {S S1 S2 : qSh} {I I1 I2 : qI} {J J1 J2 : qJ} {T T2 : qI → Prop} {v v2 : Option Value} {tp i : Int32} {z : Int64} (g : xINV S I J) (pK : v = some (.int (ca_item I tp i)) ∧ I1 = I ∧ J1 = cj_item I J tp i z) (hK : KQ0 S I J T v S1 I1 J1) (pR : v2 = some (.int (ga_Md_item I1 J1 tp i z)) ∧ I2 = I1 ∧ J2 = gj_Md_item I1 J1 tp i z) (hV : RQ0 S1 I1 J1 T2 v2 S2 I2 J2) : xINV S2 I2 J2 ∧ v = v2 := by
  have cf := hK.2.2.1
  have rf := hV.2.2.1
  have tie := g.2.2.2
  have tps := g.2.2.1.tapes
  obtain ⟨hv, rfl, hJ1⟩ := pK
  obtain ⟨hv2, rfl, hJ2⟩ := pR
  unfold ca_item at hv
  unfold cj_item at hJ1
  unfold ga_Md_item at hv2
  unfold gj_Md_item at hJ2
  have idn : J1 = J → J2 = J1 → xINV S2 I2 J2 := fun h1 h2 => g.mk2 hK hV (tie.idn rfl h1 rfl h2)
  by_cases q0 : qwithin tp 0 5 = 0
  · rw [if_pos q0] at hv hJ1 hv2 hJ2
    exact ⟨idn hJ1 hJ2, hv.trans hv2.symm⟩
  rw [if_neg q0] at hv hJ1 hv2 hJ2
  obtain ⟨t, ht, rfl⟩ := qtape_y q0
  obtain ⟨b1, b2, b3, b4⟩ := tie.2.2.2.1 t ht
  rw [ctp_nI ht, ← b1, ← b2] at hv hJ1
  rw [qcl (n := t) (by omega)] at hv2 hJ2
  rcases b4 with ⟨w, w2⟩ | w
  · rw [w, if_pos rfl] at hv hJ1
    rw [w, if_neg n11] at hv2 hJ2
    exact ⟨idn hJ1 hJ2, hv.trans hv2.symm⟩
  have nw : ¬ I2 145 t = -1 := fun x => n11 (x ▸ w)
  rw [if_neg nw] at hv hJ1
  rw [if_pos w] at hv2 hJ2
  by_cases q1 : qwithin i 0 (I2 146 t - 1) = 0
  · rw [if_pos q1] at hv hJ1 hv2 hJ2
    exact ⟨idn hJ1 hJ2, hv.trans hv2.symm⟩
  rw [if_neg q1] at hv hJ1 hv2 hJ2
  obtain ⟨zz, z60, hz⟩ := tps t ht
  rw [hz] at q1
  obtain ⟨k, k1, rfl⟩ := qisM_y (by omega) q1
  rw [nI_60, qcl (by omega)] at hJ2
  rw [qcl (by omega), qitem_kept] at hJ1
  refine ⟨g.mk2 hK hV (tie.tps (fun a ha => rfl) cf (fun a _ _ => rfl) rf (fun u hu => ?_)), hv.trans hv2.symm⟩
  obtain ⟨c1, c2, c3, c4⟩ := tie.2.2.2.1 u hu
  refine ⟨c1, c2, fun j hj => ?_, c4⟩
  have x1 : J2 147 (60 * u + j) = if 60 * u + j = 60 * t + k then mkept (I2 145 t) z else J 147 (60 * u + j) := by
    rw [hJ2]
    by_cases y : 60 * u + j = 60 * t + k
    · rw [y, qup_at, if_pos rfl]
    · rw [qup_j y, if_neg y, (cf 147 (by omega) (by omega)).2]
  have x2 : J2 (102 + 2 * u + 1) j = if u = t ∧ j = k then mkept (I2 145 t) z else J (102 + 2 * u + 1) j := by
    rw [(rf (102 + 2 * u + 1) (by omega)).2, hJ1]
    by_cases y : u = t ∧ j = k
    · rw [y.1, y.2, qup_at, if_pos ⟨rfl, rfl⟩]
    · rw [qup_ne (by omega), if_neg y]
  rw [x1, x2]
  by_cases y : u = t ∧ j = k
  · rw [if_pos y, if_pos (by rw [y.1, y.2])]
  · rw [if_neg y, if_neg (by omega)]; exact c3 j hj
theorem x_read {I I1 : qI} {J J1 : qJ} {tp i : Int32} (tie : xTie I J) (h : rDat I) (u : cU I I1 J J1) (cf : cFar I I1 J J1) : ca_read I J tp i = ga_Md_read I1 J1 tp i := by
  have e1 : I1 145 = I 145 := (cf 145 (by omega) (by omega)).1
  have e2 : I1 146 = I 146 := (cf 146 (by omega) (by omega)).1
  have e3 : J1 147 = J 147 := (cf 147 (by omega) (by omega)).2
  unfold ca_read ga_Md_read
  rw [e1, e2, e3]
  by_cases q0 : qwithin tp 0 5 = 0
  · rw [if_pos q0, if_pos q0]
  rw [if_neg q0, if_neg q0]
  obtain ⟨t, ht, rfl⟩ := qtape_y q0
  obtain ⟨b1, b2, b3, b4⟩ := tie.2.2.2.1 t ht
  obtain ⟨zz, z60, hz⟩ := h.tapes t ht
  rw [ctp_nI ht, ← b2, qcl (n := t) (by omega)]
  rcases b4 with ⟨w, w2⟩ | w
  · rw [w, w2, if_pos (show (-1 : Int32) < 0 by decide), if_pos]
    rcases (by exact qwithin_b : qbool (qwithin i 0 (0 - 1))) with x | x
    · exact x
    · exfalso
      obtain ⟨y1, y2⟩ := qwithin_y (n := i) (a := 0) (b := 0 - 1) (by rw [x]; decide)
      exact absurd (Int32.le_trans y1 y2) (by decide)
  · rw [if_neg (Int32.not_lt.mpr w)]
    by_cases q1 : qwithin i 0 (I 146 t - 1) = 0
    · rw [if_pos q1, if_pos q1]
    · rw [if_neg q1, if_neg q1]
      rw [hz] at q1
      obtain ⟨k, k1, rfl⟩ := qisM_y (by omega) q1
      rw [nI_60, qcl (by omega), qcl (by omega), b3 k (by omega)]
theorem qholds_y {Z : Nat} {i n : Int32} (hZ : Z ≤ 60) (h : ¬ qholds (nI Z) i n = 0) : ∃ x m, i = nI x ∧ n = nI m ∧ x + m ≤ Z := by
  unfold qholds at h
  by_cases q : qwithin n 0 (nI Z) = 0
  · rw [if_pos q] at h; exact absurd rfl h
  · rw [if_neg q] at h
    obtain ⟨g1, g2⟩ := qwithin_y q
    obtain ⟨m, m1, rfl⟩ := nI_of2 (M := nI Z) (n := Z) (Int32.toInt_ofNat_of_lt (by omega)) (Int32.not_lt.mpr g1) g2
    have e : nI Z - nI m = nI (Z - m) := by
      have := nI_add (Z - m) m
      rw [show Z - m + m = Z by omega] at this
      rw [← this, Int32.add_sub_cancel]
    rw [e] at h
    obtain ⟨g3, g4⟩ := qwithin_y h
    obtain ⟨x, x1, rfl⟩ := nI_of2 (M := nI (Z - m)) (n := Z - m) (Int32.toInt_ofNat_of_lt (by omega)) (Int32.not_lt.mpr g3) g4
    exact ⟨x, m, rfl, rfl, by omega⟩
theorem qholds_n {Z x m : Nat} (hZ : Z ≤ 60) (h : x + m ≤ Z) : ¬ qholds (nI Z) (nI x) (nI m) = 0 := by
  unfold qholds
  have e : nI Z - nI m = nI (Z - m) := by
    have := nI_add (Z - m) m
    rw [show Z - m + m = Z by omega] at this
    rw [← this, Int32.add_sub_cancel]
  have p : ∀ a b, a ≤ b → b ≤ 60 → ¬ qwithin (nI a) 0 (nI b) = 0 := fun a b h1 h2 q =>
    qwithin_n q ⟨(nI_leI (a := 0) (by omega) (by omega)).mpr (Nat.zero_le _), (nI_leI (by omega) (by omega)).mpr h1⟩
  rw [if_neg (p m Z (by omega) hZ), e]
  exact p x (Z - m) (by omega) (by omega)
/-! class and reference side by side: shifts, texts; the start -/
theorem xINV.shift {S S1 S2 : qSh} {I I1 I2 : qI} {J J1 J2 : qJ} {T T2 : qI → Prop} {v v2 : Option Value} {tp i tq j n : Int32} (g : xINV S I J) (pK : v = some (.int (ca_shift I tp i tq j n)) ∧ I1 = I ∧ J1 = cj_shift I J tp i tq j n) (hK : KQ0 S I J T v S1 I1 J1) (pR : qSh1 S1 I1 J1 tp i tq j n v2 S2 I2 J2) (hV : RQ0 S1 I1 J1 T2 v2 S2 I2 J2) : xINV S2 I2 J2 ∧ v = v2 := by
  have cf := hK.2.2.1
  have rf := hV.2.2.1
  have tie := g.2.2.2
  have tps := g.2.2.1.tapes
  obtain ⟨hv, hI1, hJ1⟩ := pK
  obtain ⟨-, hI2, hR⟩ := pR
  subst hI1
  subst hI2
  unfold ca_shift at hv
  unfold cj_shift at hJ1
  have idn : J1 = J → J1 = J2 → xINV S2 I1 J2 := fun h1 h2 => g.mk2 hK hV (tie.idn rfl h1 rfl h2.symm)
  rcases hR with ⟨h, hv2, hJ2⟩ | ⟨t, u, ht, hu, rfl, rfl, hR⟩
  · by_cases q0 : qwithin tp 0 5 = 0
    · rw [if_pos q0] at hv hJ1
      exact ⟨idn hJ1 hJ2, hv.trans hv2.symm⟩
    · have q1 := h.resolve_left q0
      rw [if_neg q0, if_pos q1] at hv hJ1
      exact ⟨idn hJ1 hJ2, hv.trans hv2.symm⟩
  · obtain ⟨b1, b2, b3, b4⟩ := tie.2.2.2.1 t ht
    obtain ⟨c1, c2, c3, c4⟩ := tie.2.2.2.1 u hu
    obtain ⟨zt, zt6, hzt⟩ := tps t ht
    obtain ⟨zu, zu6, hzu⟩ := tps u hu
    rw [if_neg (tp_in t ht), if_neg (tp_in u hu), ctp_nI ht, ctp_nI hu, ← b1, ← b2, ← c1, ← c2] at hv hJ1
    have m1 : ∀ y : Int32, y = -1 → y < 0 := fun y h => by rw [h]; decide
    have p1 : ∀ y : Int32, 0 ≤ y → ¬ y = -1 := fun y h e => n11 (e ▸ h)
    rcases hR with ⟨h, hv2, hJ2⟩ | ⟨h1, h2, h3, hv2, hJ2⟩ | ⟨h1, h3, h4, hv2, hJ2⟩ | ⟨h1, h3, x, y, m, rfl, rfl, rfl, ⟨z1, e1, f1, k1⟩, ⟨z2, e2, f2, k2⟩, hv2, hJ2⟩
    · by_cases q0 : I1 145 t = -1
      · rw [if_pos q0] at hv hJ1
        exact ⟨idn hJ1 hJ2, hv.trans hv2.symm⟩
      · have q1 : I1 145 u = -1 := by
          rcases h with h | h
          · rcases b4 with w | w
            · exact absurd w.1 q0
            · exact absurd w (Int32.not_le.mpr h)
          · rcases c4 with w | w
            · exact w.1
            · exact absurd w (Int32.not_le.mpr h)
        rw [if_neg q0, if_pos q1] at hv hJ1
        exact ⟨idn hJ1 hJ2, hv.trans hv2.symm⟩
    · rw [if_neg (fun e => h1 (m1 _ e)), if_neg (fun e => h2 (m1 _ e)), if_neg h3] at hv hJ1
      exact ⟨idn hJ1 hJ2, hv.trans hv2.symm⟩
    · rw [if_neg (fun e => h1 (m1 _ e)), if_neg (fun e => h1 (by rw [h3]; exact m1 _ e)), if_pos h3, hzt, hzu] at hv hJ1
      by_cases q0 : qholds (nI zt) i n = 0
      · rw [if_pos q0] at hv hJ1
        exact ⟨idn hJ1 hJ2, hv.trans hv2.symm⟩
      · by_cases q1 : qholds (nI zu) j n = 0
        · rw [if_neg q0, if_pos q1] at hv hJ1
          exact ⟨idn hJ1 hJ2, hv.trans hv2.symm⟩
        · exfalso
          obtain ⟨x, m, rfl, rfl, k1⟩ := qholds_y zt6 q0
          obtain ⟨y, m', rfl, em, k2⟩ := qholds_y zu6 q1
          have emm : m = m' := (nI_eq (by omega) (by omega)).mp em
          subst emm
          exact h4 x y m rfl rfl rfl (by omega) (by omega) (by omega) ⟨rfl, ⟨zt, hzt, zt6, k1⟩, ⟨zu, hzu, zu6, k2⟩⟩
    · have ez1 : zt = z1 := (nI_eq (by omega) (by omega)).mp (hzt.symm.trans e1)
      have ez2 : zu = z2 := (nI_eq (by omega) (by omega)).mp (hzu.symm.trans e2)
      subst ez1; subst ez2
      rw [if_neg (fun e => h1 (m1 _ e)), if_neg (fun e => h1 (by rw [h3]; exact m1 _ e)), if_pos h3, hzt, hzu, if_neg (qholds_n zt6 k1), if_neg (qholds_n zu6 k2)] at hv hJ1
      rw [qcl (by omega), qcl (by omega), qcl (by omega)] at hJ1
      refine ⟨g.mk2 hK hV (tie.tps (fun a ha => rfl) cf (fun a _ _ => rfl) rf (fun w hw => ?_)), hv.trans hv2.symm⟩
      obtain ⟨d1, d2, d3, d4⟩ := tie.2.2.2.1 w hw
      refine ⟨d1, d2, fun k hk => ?_, d4⟩
      have e147 : J1 147 = J 147 := (cf 147 (by omega) (by omega)).2
      have x1 : J2 147 (60 * w + k) = if w = u ∧ y ≤ k ∧ k < y + m then J 147 (60 * t + (x + (k - y))) else J 147 (60 * w + k) := by
        rw [hJ2]; unfold mcp
        by_cases q : w = u ∧ y ≤ k ∧ k < y + m
        · rw [if_pos q, if_pos (by omega), e147]
          obtain ⟨rfl, -, -⟩ := q
          congr 1
          omega
        · rw [if_neg q, if_neg (by omega), e147]
      have x2 : J2 (102 + 2 * w + 1) k = if w = u ∧ y ≤ k ∧ k < y + m then J (102 + 2 * t + 1) (x + (k - y)) else J (102 + 2 * w + 1) k := by
        rw [(rf (102 + 2 * w + 1) (by omega)).2, hJ1]; unfold qrow va_cpy
        by_cases q : w = u
        · subst q
          rw [if_pos rfl]
          by_cases q2 : y ≤ k ∧ k < y + m
          · rw [if_pos q2, if_pos ⟨rfl, q2⟩]
          · rw [if_neg q2, if_neg (fun z => q2 z.2)]
        · rw [if_neg (by omega), if_neg (fun z => q z.1)]
      rw [x1, x2]
      by_cases q : w = u ∧ y ≤ k ∧ k < y + m
      · rw [if_pos q, if_pos q]; exact b3 _ (by omega)
      · rw [if_neg q, if_neg q]; exact d3 k hk
theorem lcmp_self {a b : Int64} (h : a = b) : lg_cmp a b = 0 := by
  subst h
  unfold lg_cmp
  rw [if_neg (fun q => absurd q (Int64.not_lt.mpr (Int64.le_refl a))), if_pos rfl]
