/-! class and reference side by side: what calls see of a state, hurts aside -/
def cDj (j : Nat) : Prop := j < 12 ∨ (36 ≤ j ∧ j < 66) ∨ (117 ≤ j ∧ j < 123)
def xT (I : qI) (o : Nat) (f : Nat → Int32) : Prop := f 117 = I o 1 ∧ f 118 = I o 3 ∧ f 119 = I o 4 ∧ f 120 = I (o + 3) 3 ∧ f 121 = I (o + 7) 3 ∧ f 122 = I (o + 11) 3 ∧ (∀ c p, c ≤ 6 → I o 1 = nI c → p < c → f p = I (qm o p) 1 ∧ f (6 + p) = I (qm o p) 2 ∧ ∀ r, r < 4 → f (42 + (4 * p + r)) = I (qm o p + 1) r) ∧ ∀ l i, l ≤ 6 → I o 3 = nI l → i < l → f (36 + i) = I (o + 2) i
theorem xT.fr {I I' : qI} {f f' : Nat → Int32} {o : Nat} (h : xT I o f) (h1 : I' o 1 = I o 1) (h3 : I' o 3 = I o 3) (h4 : I' o 4 = I o 4) (n1 : I' (o + 3) 3 = I (o + 3) 3) (n2 : I' (o + 7) 3 = I (o + 7) 3) (n3 : I' (o + 11) 3 = I (o + 11) 3) (hl : ∀ i, i < 6 → I' (o + 2) i = I (o + 2) i) (hk : ∀ p, p < 6 → I' (qm o p) 1 = I (qm o p) 1 ∧ I' (qm o p) 2 = I (qm o p) 2 ∧ ∀ r, r < 4 → I' (qm o p + 1) r = I (qm o p + 1) r) (hf : ∀ j, cDj j → f' j = f j) : xT I' o f' := by
  obtain ⟨a1, a2, a3, a4, a5, a6, a7, a8⟩ := h
  unfold cDj at hf
  refine ⟨by rw [hf _ (by omega), h1]; exact a1, by rw [hf _ (by omega), h3]; exact a2, by rw [hf _ (by omega), h4]; exact a3, by rw [hf _ (by omega), n1]; exact a4, by rw [hf _ (by omega), n2]; exact a5, by rw [hf _ (by omega), n3]; exact a6, fun c p hc e hp => ?_, fun l i hl6 e hi => ?_⟩
  · rw [h1] at e
    obtain ⟨b1, b0, b2⟩ := a7 c p hc e hp
    refine ⟨by rw [hf _ (by omega), (hk p (by omega)).1]; exact b1, by rw [hf _ (by omega), (hk p (by omega)).2.1]; exact b0, fun r hr => ?_⟩
    rw [hf _ (by omega), (hk p (by omega)).2.2 r hr]; exact b2 r hr
  · rw [h3] at e
    rw [hf _ (by omega), hl i (by omega)]; exact a8 l i hl6 e hi
theorem xT.rows {I I' : qI} {f f' : Nat → Int32} {o : Nat} (h : xT I o f) (hI : ∀ a, o ≤ a → a ≤ o + 26 → I' a = I a) (hf : ∀ j, cDj j → f' j = f j) : xT I' o f' := by
  refine h.fr (by rw [hI _ (by omega) (by omega)]) (by rw [hI _ (by omega) (by omega)]) (by rw [hI _ (by omega) (by omega)]) (by rw [hI _ (by omega) (by omega)]) (by rw [hI _ (by omega) (by omega)]) (by rw [hI _ (by omega) (by omega)]) (fun i _ => by rw [hI _ (by omega) (by omega)]) (fun p hp => ⟨by rw [hI _ (by unfold qm; omega) (by unfold qm; omega)], by rw [hI _ (by unfold qm; omega) (by unfold qm; omega)], fun r _ => by rw [hI _ (by unfold qm; omega) (by unfold qm; omega)]⟩) hf
def xTps (I : qI) (J : qJ) : Prop := ∀ t, t < 6 → I 145 t = I (102 + 2 * t) 0 ∧ I 146 t = I (102 + 2 * t) 1 ∧ (∀ i, i < 60 → J 147 (60 * t + i) = J (102 + 2 * t + 1) i) ∧ (I 145 t = -1 ∧ I 146 t = 0 ∨ 0 ≤ I 145 t)
def xTN (I : qI) : Prop := I 99 1 = I 114 37 ∧ (∀ j, j < 20 → nI j < I 99 1 → I 100 j = I 138 j) ∧ ∀ p, p < 6 → I (qm 6 p) 0 = nI p
def xTX (I : qI) : Prop := I 0 7 = I 114 17 ∧ I 87 1 = I 114 11 ∧ ∀ j, j < 100 → nI j < I 87 1 → I 88 j = I 123 j
def xTie (I : qI) (J : qJ) : Prop := xT I 6 (kp I) ∧ I 114 39 = I 0 4 ∧ (I 0 4 = 1 → xT I 60 (I 139)) ∧ xTps I J ∧ xTN I ∧ xTX I
theorem xTX.fr {I I' : qI} (h : xTX I) (h0 : I' 0 7 = I 0 7) (h1 : I' 87 1 = I 87 1) (h2 : I' 88 = I 88) (h3 : I' 114 17 = I 114 17) (h4 : I' 114 11 = I 114 11) (h5 : I' 123 = I 123) : xTX I' := ⟨by rw [h0, h3]; exact h.1, by rw [h1, h4]; exact h.2.1, fun j hj hk => by rw [h2, h5]; exact h.2.2 j hj (by rw [← h1]; exact hk)⟩
theorem xTN.fr {I I' : qI} (h : xTN I) (h1 : I' 99 1 = I 99 1) (h2 : I' 100 = I 100) (h3 : I' 114 37 = I 114 37) (h4 : I' 138 = I 138) (h5 : ∀ p, p < 6 → I' (qm 6 p) 0 = I (qm 6 p) 0) : xTN I' := ⟨by rw [h1, h3]; exact h.1, fun j hj hk => by rw [h2, h4]; exact h.2.1 j hj (by rw [← h1]; exact hk), fun p hp => (h5 p hp).trans (h.2.2 p hp)⟩
def xINV (S : qSh) (I : qI) (J : qJ) : Prop := (∃ w0 w1 w2 bl, cINV S I J w0 w1 w2 bl) ∧ isMd S ∧ rDat I ∧ xTie I J
theorem kp_far {I I1 : qI} {J J1 : qJ} (cf : cFar I I1 J J1) {j : Nat} (hj : j < 124) : kp I1 j = kp I j := by
  obtain ⟨q1, q2⟩ := kpa_in j hj
  unfold kp
  rw [(cf _ q1 q2).1]
theorem kpa_D : ∀ j, j < 124 → (j < 12 ∨ (36 ≤ j ∧ j < 66) ∨ (117 ≤ j ∧ j < 123)) → (kpa j).1 = 114 ∨ (kpa j).1 = 115 ∨ (kpa j).1 = 116 ∨ (kpa j).1 = 121 ∨ (kpa j).1 = 122 := by decide +kernel
theorem kp_D {I I' : qI} {j : Nat} (hj : cDj j) (h : ∀ a, (a = 114 ∨ a = 115 ∨ a = 116 ∨ a = 121 ∨ a = 122) → I' a = I a) : kp I' j = kp I j := by
  have hl : j < 124 := by unfold cDj at hj; omega
  unfold kp
  rw [h _ (kpa_D j hl hj)]
theorem cDj.lt {j : Nat} (h : cDj j) : j < 124 := by unfold cDj at h; omega
/-- what a call on the living leaves -/
theorem xTie.live {I I1 I2 : qI} {J J1 J2 : qJ} (h : xTie I J) (hc : ∀ a, ((60 ≤ a ∧ a ≤ 88) ∨ (99 ≤ a ∧ a ≤ 113)) → I1 a = I a) (hj : ∀ a, (102 ≤ a ∧ a ≤ 113) → J1 a = J a) (h0 : I1 0 = I 0) (cf : cFar I I1 J J1) (r139 : I2 139 = I1 139) (r39 : I2 114 39 = I1 114 39) (r37 : I2 114 37 = I1 114 37 ∧ I2 138 = I1 138) (r17 : I2 114 17 = I1 114 17 ∧ I2 114 11 = I1 114 11 ∧ I2 123 = I1 123) (hn : ∀ p, p < 6 → I1 (qm 6 p) 0 = I (qm 6 p) 0) (r145 : ∀ a, 145 ≤ a → a ≤ 147 → I2 a = I1 a ∧ J2 a = J1 a) (rf : rFar I1 I2 J1 J2) (h6 : xT I2 6 (kp I2)) : xTie I2 J2 := by
  obtain ⟨t1, t2, t3, t4, t5, t6⟩ := h
  have e : ∀ a, ((60 ≤ a ∧ a ≤ 88) ∨ (99 ≤ a ∧ a ≤ 113)) → I2 a = I a := fun a ha => by rw [(rf a (by omega)).1, hc a ha]
  have e0 : I2 0 4 = I 0 4 := by rw [(rf 0 (by omega)).1, h0]
  have e139 : I2 139 = I 139 := by rw [r139, (cf 139 (by omega) (by omega)).1]
  refine ⟨h6, ?_, fun h1 => ?_, fun t ht => ?_, t5.fr (by rw [e 99 (by omega)]) (e 100 (by omega)) (by rw [r37.1, (cf 114 (by omega) (by omega)).1]) (by rw [r37.2, (cf 138 (by omega) (by omega)).1]) (fun p hp => by rw [(rf (qm 6 p) (by unfold qm; omega)).1]; exact hn p hp), t6.fr (by rw [(rf 0 (by omega)).1, h0]) (by rw [e 87 (by omega)]) (e 88 (by omega)) (by rw [r17.1, (cf 114 (by omega) (by omega)).1]) (by rw [r17.2.1, (cf 114 (by omega) (by omega)).1]) (by rw [r17.2.2, (cf 123 (by omega) (by omega)).1])⟩
  · rw [r39, (cf 114 (by omega) (by omega)).1, e0]; exact t2
  · rw [e0] at h1
    rw [e139]
    exact (t3 h1).rows (fun a a1 a2 => e a (by omega)) (fun j _ => rfl)
  · obtain ⟨b1, b2, b3, b4⟩ := t4 t ht
    refine ⟨?_, ?_, fun i hi => ?_, by rw [(r145 145 (by omega) (by omega)).1, (cf 145 (by omega) (by omega)).1, (r145 146 (by omega) (by omega)).1, (cf 146 (by omega) (by omega)).1]; exact b4⟩
    · rw [(r145 145 (by omega) (by omega)).1, (cf 145 (by omega) (by omega)).1, e _ (by omega)]; exact b1
    · rw [(r145 146 (by omega) (by omega)).1, (cf 146 (by omega) (by omega)).1, e _ (by omega)]; exact b2
    · rw [(r145 147 (by omega) (by omega)).2, (cf 147 (by omega) (by omega)).2, (rf (102 + 2 * t + 1) (by omega)).2, hj _ (by omega)]; exact b3 i hi
theorem xINV.mk2 {S S1 S2 : qSh} {I I1 I2 : qI} {J J1 J2 : qJ} {T T2 : qI → Prop} {v v2 : Option Value} (g : xINV S I J) (hK : KQ0 S I J T v S1 I1 J1) (hV : RQ0 S1 I1 J1 T2 v2 S2 I2 J2) (ht : xTie I2 J2) : xINV S2 I2 J2 := by
  obtain ⟨⟨w0, w1, w2, bl, hC⟩, hM, -, -⟩ := hK
  obtain ⟨rfl, hr, rf, -⟩ := hV
  exact ⟨⟨w0, w1, w2, bl, hC.rf rf⟩, hM g.2.1, hr, ht⟩
/-- two asks -/
theorem xINV.ask {S S1 S2 : qSh} {I I1 I2 : qI} {J J1 J2 : qJ} {T T2 : qI → Prop} {v v2 : Option Value} (g : xINV S I J) (u : cU I I1 J J1) (hK : KQ0 S I J T v S1 I1 J1) (r : rU I1 I2 J1 J2) (hV : RQ0 S1 I1 J1 T2 v2 S2 I2 J2) : xINV S2 I2 J2 := by
  refine g.mk2 hK hV ?_
  have cf := hK.2.2.1
  have rf := hV.2.2.1
  refine g.2.2.2.live (fun a ha => (u.1 a (by omega)).1) (fun a ha => (u.1 a (by omega)).2) (u.1 0 (by omega)).1 cf r.2.1 r.2.2.1 r.2.2.2.1 r.2.2.2.2.1 (fun p hp => by rw [(u.1 (qm 6 p) (by unfold qm; omega)).1]) r.2.2.2.2.2 rf ?_
  refine g.2.2.2.1.rows (fun a a1 a2 => by rw [(rf a (by omega)).1, (u.1 a (by omega)).1]) (fun j hj => ?_)
  rw [r.1 j (by unfold cDj at hj; omega), kp_far cf hj.lt]
theorem vI {x y : Int32} (h : x = y) : some (Value.int x) = some (Value.int y) := by rw [h]
theorem vinj {x y : Int32} (h : some (Value.int x) = some (Value.int y)) : x = y := by injection h with h; injection h
theorem vinjL {x y : Int64} (h : some (Value.long x) = some (Value.long y)) : x = y := by injection h with h; injection h
theorem xT.mo {I : qI} {f f' : Nat → Int32} {m jj : Nat} {v : Int32} (h : xT I 6 f) (hm : m < 6) (hj : jj ≠ 1) (hj2 : jj ≠ 2) (hf : ∀ j, cDj j → f' j = f j) : xT (qup I (qm 6 m) jj v) 6 f' := by
  have r : ∀ a, a ≠ qm 6 m → qup I (qm 6 m) jj v a = I a := fun a ha => qup_row ha
  refine h.fr (by rw [r _ (by unfold qm; omega)]) (by rw [r _ (by unfold qm; omega)]) (by rw [r _ (by unfold qm; omega)]) (by rw [r _ (by unfold qm; omega)]) (by rw [r _ (by unfold qm; omega)]) (by rw [r _ (by unfold qm; omega)]) (fun i _ => by rw [r _ (by unfold qm; omega)]) (fun p hp => ⟨qup_j (Ne.symm hj), qup_j (Ne.symm hj2), fun r' _ => by rw [r _ (by unfold qm; omega)]⟩) hf
theorem ci_set_or {I : qI} {c : Nat} {p x n : Int32} (hc : c ≤ 6) : ci_set I c p x n = I ∨ ∃ m jj, m < 6 ∧ (jj = 3 ∨ jj = 4 ∨ jj = 5) ∧ ci_set I c p x n = qup I (qm 6 m) jj n := by
  unfold ci_set
  split
  · exact Or.inl rfl
  · rename_i h1
    obtain ⟨m, m1, rfl⟩ := qisM_y (show c < 2 ^ 31 by omega) h1
    rw [qcl (by omega)]
    split
    · exact Or.inl rfl
    · split
      · exact Or.inl rfl
      · refine Or.inr ⟨m, cfld x, by omega, ?_, rfl⟩
        unfold cfld
        (repeat' split) <;> omega
theorem gi_set_or {I : qI} {J : qJ} {p x n : Int32} : gi_Md_set I J p x n = I ∨ ∃ a m, (a = 117 ∨ a = 118 ∨ a = 119) ∧ gi_Md_set I J p x n = qup I a m n := by
  unfold gi_Md_set
  (repeat' split) <;> first | exact Or.inl rfl | exact Or.inr ⟨117, _, Or.inl rfl, rfl⟩ | exact Or.inr ⟨118, _, Or.inr (Or.inl rfl), rfl⟩ | exact Or.inr ⟨119, _, Or.inr (Or.inr rfl), rfl⟩
theorem xINV.set {S S1 S2 : qSh} {I I1 I2 : qI} {J J1 J2 : qJ} {T T2 : qI → Prop} {v v2 : Option Value} {p x n : Int32} (g : xINV S I J) (pK : ∃ c, c ≤ 6 ∧ I 6 1 = nI c ∧ v = some (.int (ca_set I c p x n)) ∧ I1 = ci_set I c p x n ∧ J1 = J) (hK : KQ0 S I J T v S1 I1 J1) (pR : v2 = some (.int (ga_Md_set I1 J1 p x n)) ∧ I2 = gi_Md_set I1 J1 p x n ∧ J2 = gj_Md_set I1 J1 p x n) (hV : RQ0 S1 I1 J1 T2 v2 S2 I2 J2) : xINV S2 I2 J2 := by
  refine g.mk2 hK hV ?_
  have cf := hK.2.2.1
  have rf := hV.2.2.1
  obtain ⟨c, c6, hc, -, hI1, rfl⟩ := pK
  obtain ⟨-, hI2, hJ2⟩ := pR
  have j2 : J2 = J1 := by rw [hJ2]; unfold gj_Md_set; (repeat' split) <;> rfl
  have r2 : ∀ a, (a ≠ 117 ∧ a ≠ 118 ∧ a ≠ 119) → I2 a = I1 a := fun a ha => by
    rcases gi_set_or (I := I1) (J := J1) (p := p) (x := x) (n := n) with q | ⟨b, m, b1, q⟩
    · rw [hI2, q]
    · rw [hI2, q, qup_row (by omega)]
  have r1 : ∀ a, (a < 21 ∨ 32 < a) → I1 a = I a := fun a ha => by
    rcases ci_set_or (I := I) (c := c) (p := p) (x := x) (n := n) c6 with q | ⟨m, jj, m6, -, q⟩
    · rw [hI1, q]
    · rw [hI1, q, qup_row (by unfold qm; omega)]
  have rn : ∀ u, u < 6 → I1 (qm 6 u) 0 = I (qm 6 u) 0 := fun u hu => by
    rcases ci_set_or (I := I) (c := c) (p := p) (x := x) (n := n) c6 with q | ⟨m, jj, m6, hjj, q⟩
    · rw [hI1, q]
    · rw [hI1, q, qup_j (by omega)]
  refine g.2.2.2.live (fun a ha => r1 a (by omega)) (fun a ha => rfl) (by rw [r1 0 (by omega)]) cf (r2 139 (by omega)) (by rw [r2 114 (by omega)]) ⟨by rw [r2 114 (by omega)], r2 138 (by omega)⟩ ⟨by rw [r2 114 (by omega)], by rw [r2 114 (by omega)], r2 123 (by omega)⟩ rn (fun a a1 a2 => ⟨r2 a (by omega), by rw [j2]⟩) rf ?_
  have hf : ∀ j, cDj j → kp I2 j = kp I j := fun j hj => by rw [kp_D hj (fun a ha => r2 a (by omega)), kp_far cf hj.lt]
  have base : xT I1 6 (kp I2) := by
    rcases ci_set_or (I := I) (c := c) (p := p) (x := x) (n := n) c6 with q | ⟨m, jj, m6, hjj, q⟩
    · rw [hI1, q]; exact g.2.2.2.1.rows (fun a _ _ => rfl) hf
    · rw [hI1, q]; exact g.2.2.2.1.mo m6 (by omega) (by omega) hf
  exact base.rows (fun a a1 a2 => (rf a (by omega)).1) (fun j _ => rfl)
theorem ci_done_or {I : qI} {c : Nat} {p b : Int32} (hc : c ≤ 6) : ci_done I c p b = I ∨ ∃ m, m < 6 ∧ ci_done I c p b = qup I (qm 6 m) 6 b := by
  unfold ci_done
  split
  · exact Or.inl rfl
  · rename_i h1
    obtain ⟨m, m1, rfl⟩ := qisM_y (show c < 2 ^ 31 by omega) h1
    rw [qcl (by omega)]
    exact Or.inr ⟨m, by omega, rfl⟩
theorem gi_done_or {I : qI} {J : qJ} {p x : Int32} : gi_Md_done I J p x = I ∨ ∃ m y, gi_Md_done I J p x = qup I 120 m y := by
  unfold gi_Md_done
  (repeat' split) <;> first | exact Or.inl rfl | exact Or.inr ⟨_, _, rfl⟩
theorem xINV.done {S S1 S2 : qSh} {I I1 I2 : qI} {J J1 J2 : qJ} {T T2 : qI → Prop} {v v2 : Option Value} {p b x : Int32} (g : xINV S I J) (pK : ∃ c, c ≤ 6 ∧ I 6 1 = nI c ∧ v = some (.int (ca_done I c p)) ∧ I1 = ci_done I c p b ∧ J1 = J) (hK : KQ0 S I J T v S1 I1 J1) (pR : v2 = some (.int (ga_Md_done I1 J1 p x)) ∧ I2 = gi_Md_done I1 J1 p x ∧ J2 = gj_Md_done I1 J1 p x) (hV : RQ0 S1 I1 J1 T2 v2 S2 I2 J2) : xINV S2 I2 J2 := by
  refine g.mk2 hK hV ?_
  have cf := hK.2.2.1
  have rf := hV.2.2.1
  obtain ⟨c, c6, hc, -, hI1, rfl⟩ := pK
  obtain ⟨-, hI2, hJ2⟩ := pR
  have j2 : J2 = J1 := by rw [hJ2]; unfold gj_Md_done; (repeat' split) <;> rfl
  have r2 : ∀ a, a ≠ 120 → I2 a = I1 a := fun a ha => by
    rcases gi_done_or (I := I1) (J := J1) (p := p) (x := x) with q | ⟨m, y, q⟩
    · rw [hI2, q]
    · rw [hI2, q, qup_row ha]
  have r1 : ∀ a, (a < 21 ∨ 32 < a) → I1 a = I a := fun a ha => by
    rcases ci_done_or (I := I) (c := c) (p := p) (b := b) c6 with q | ⟨m, m6, q⟩
    · rw [hI1, q]
    · rw [hI1, q, qup_row (by unfold qm; omega)]
  have rn : ∀ u, u < 6 → I1 (qm 6 u) 0 = I (qm 6 u) 0 := fun u hu => by
    rcases ci_done_or (I := I) (c := c) (p := p) (b := b) c6 with q | ⟨m, m6, q⟩
    · rw [hI1, q]
    · rw [hI1, q, qup_j (by omega)]
  refine g.2.2.2.live (fun a ha => r1 a (by omega)) (fun a ha => rfl) (by rw [r1 0 (by omega)]) cf (r2 139 (by omega)) (by rw [r2 114 (by omega)]) ⟨by rw [r2 114 (by omega)], r2 138 (by omega)⟩ ⟨by rw [r2 114 (by omega)], by rw [r2 114 (by omega)], r2 123 (by omega)⟩ rn (fun a a1 a2 => ⟨r2 a (by omega), by rw [j2]⟩) rf ?_
  have hf : ∀ j, cDj j → kp I2 j = kp I j := fun j hj => by rw [kp_D hj (fun a ha => r2 a (by omega)), kp_far cf hj.lt]
  have base : xT I1 6 (kp I2) := by
    rcases ci_done_or (I := I) (c := c) (p := p) (b := b) c6 with q | ⟨m, m6, q⟩
    · rw [hI1, q]; exact g.2.2.2.1.rows (fun a _ _ => rfl) hf
    · rw [hI1, q]; exact g.2.2.2.1.mo m6 (by omega) (by omega) hf
  exact base.rows (fun a a1 a2 => (rf a (by omega)).1) (fun j _ => rfl)
