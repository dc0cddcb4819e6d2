/-! class and reference side by side: what calls see of a state, hurts aside -/
def cDj (j : Nat) : Prop := j < 12 ∨ (36 ≤ j ∧ j < 66) ∨ (117 ≤ j ∧ j < 123)
def xT (I : qI) (o : Nat) (f : Nat → Int32) : Prop := f 117 = I o 1 ∧ f 118 = I o 3 ∧ f 119 = I o 4 ∧ f 120 = I (o + 3) 3 ∧ f 121 = I (o + 7) 3 ∧ f 122 = I (o + 11) 3 ∧ (∀ c p, c ≤ 6 → I o 1 = nI c → p < c → f p = I (qm o p) 1 ∧ f (6 + p) = I (qm o p) 2 ∧ ∀ r, r < 4 → f (42 + (4 * p + r)) = I (qm o p + 1) r) ∧ ∀ l i, l ≤ 6 → I o 3 = nI l → i < l → f (36 + i) = I (o + 2) i
theorem xT.fr {I I' : qI} {f f' : Nat → Int32} {o : Nat} (h : xT I o f) (h1 : I' o 1 = I o 1) (h3 : I' o 3 = I o 3) (h4 : I' o 4 = I o 4) (n1 : I' (o + 3) 3 = I (o + 3) 3) (n2 : I' (o + 7) 3 = I (o + 7) 3) (n3 : I' (o + 11) 3 = I (o + 11) 3) (hl : ∀ i, i < 6 → I' (o + 2) i = I (o + 2) i) (hk : ∀ p, p < 6 → I' (qm o p) 1 = I (qm o p) 1 ∧ I' (qm o p) 2 = I (qm o p) 2 ∧ ∀ r, r < 4 → I' (qm o p + 1) r = I (qm o p + 1) r) (hf : ∀ j, cDj j → f' j = f j) : xT I' o f' := by
  obtain ⟨a1, a2, a3, a4, a5, a6, a7, a8⟩ := h
  unfold cDj at hf
  refine ⟨by rw [hf _ (by omega), h1]; exact a1, by rw [hf _ (by omega), h3]; exact a2, by rw [hf _ (by omega), h4]; exact a3, by rw [hf _ (by omega), n1]; exact a4, by rw [hf _ (by omega), n2]; exact a5, by rw [hf _ (by omega), n3]; exact a6, fun c p hc e hp => ?_, fun l i hl6 e hi => ?_⟩
  · rw [h1] at e
    obtain ⟨b1, b0, b2⟩ := a7 c p hc e hp
    refine ⟨by rw [hf _ (by omega), (hk p (by omega)).1]; exact b1, by rw [hf _ (by omega), (hk p (by omega)).2.1]; exact b0, fun r hr => ?_⟩
    rw [hf _ (by omega), (hk p (by omega)).2.2 r hr]; exact b2 r hr
  · rw [h3] at e
    rw [hf _ (by omega), hl i (by omega)]; exact a8 l i hl6 e hi
theorem xT.rows {I I' : qI} {f f' : Nat → Int32} {o : Nat} (h : xT I o f) (hI : ∀ a, o ≤ a → a ≤ o + 26 → I' a = I a) (hf : ∀ j, cDj j → f' j = f j) : xT I' o f' := by
  refine h.fr (by rw [hI _ (by omega) (by omega)]) (by rw [hI _ (by omega) (by omega)]) (by rw [hI _ (by omega) (by omega)]) (by rw [hI _ (by omega) (by omega)]) (by rw [hI _ (by omega) (by omega)]) (by rw [hI _ (by omega) (by omega)]) (fun i _ => by rw [hI _ (by omega) (by omega)]) (fun p hp => ⟨by rw [hI _ (by unfold qm; omega) (by unfold qm; omega)], by rw [hI _ (by unfold qm; omega) (by unfold qm; omega)], fun r _ => by rw [hI _ (by unfold qm; omega) (by unfold qm; omega)]⟩) hf
def xTps (I : qI) (J : qJ) : Prop := ∀ t, t < 6 → I 145 t = I (102 + 2 * t) 0 ∧ I 146 t = I (102 + 2 * t) 1 ∧ (∀ i, i < 60 → J 147 (60 * t + i) = J (102 + 2 * t + 1) i) ∧ (I 145 t = -1 ∧ I 146 t = 0 ∨ 0 ≤ I 145 t)
def xTN (I : qI) : Prop := I 99 1 = I 114 37 ∧ (∀ j, j < 20 → nI j < I 99 1 → I 100 j = I 138 j) ∧ ∀ p, p < 6 → I (qm 6 p) 0 = nI p
def xTX (I : qI) : Prop := I 0 7 = I 114 17 ∧ I 87 1 = I 114 11 ∧ ∀ j, j < 100 → nI j < I 87 1 → I 88 j = I 123 j
def xTie (I : qI) (J : qJ) : Prop := xT I 6 (kp I) ∧ I 114 39 = I 0 4 ∧ (I 0 4 = 1 → xT I 60 (I 139)) ∧ xTps I J ∧ xTN I ∧ xTX I
theorem xTX.fr {I I' : qI} (h : xTX I) (h0 : I' 0 7 = I 0 7) (h1 : I' 87 1 = I 87 1) (h2 : I' 88 = I 88) (h3 : I' 114 17 = I 114 17) (h4 : I' 114 11 = I 114 11) (h5 : I' 123 = I 123) : xTX I' := ⟨by rw [h0, h3]; exact h.1, by rw [h1, h4]; exact h.2.1, fun j hj hk => by rw [h2, h5]; exact h.2.2 j hj (by rw [← h1]; exact hk)⟩
theorem xTN.fr {I I' : qI} (h : xTN I) (h1 : I' 99 1 = I 99 1) (h2 : I' 100 = I 100) (h3 : I' 114 37 = I 114 37) (h4 : I' 138 = I 138) (h5 : ∀ p, p < 6 → I' (qm 6 p) 0 = I (qm 6 p) 0) : xTN I' := ⟨by rw [h1, h3]; exact h.1, fun j hj hk => by rw [h2, h4]; exact h.2.1 j hj (by rw [← h1]; exact hk), fun p hp => (h5 p hp).trans (h.2.2 p hp)⟩
def xINV (S : qSh) (I : qI) (J : qJ) : Prop := (∃ w0 w1 w2 bl, cINV S I J w0 w1 w2 bl) ∧ isMd S ∧ rDat I ∧ xTie I J
theorem kp_far {I I1 : qI} {J J1 : qJ} (cf : cFar I I1 J J1) {j : Nat} (hj : j < 124) : kp I1 j = kp I j := by
  obtain ⟨q1, q2⟩ := kpa_in j hj
  unfold kp
  rw [(cf _ q1 q2).1]
theorem kpa_D : ∀ j, j < 124 → (j < 12 ∨ (36 ≤ j ∧ j < 66) ∨ (117 ≤ j ∧ j < 123)) → (kpa j).1 = 114 ∨ (kpa j).1 = 115 ∨ (kpa j).1 = 116 ∨ (kpa j).1 = 121 ∨ (kpa j).1 = 122 := by decide +kernel
theorem kp_D {I I' : qI} {j : Nat} (hj : cDj j) (h : ∀ a, (a = 114 ∨ a = 115 ∨ a = 116 ∨ a = 121 ∨ a = 122) → I' a = I a) : kp I' j = kp I j := by
  have hl : j < 124 := by unfold cDj at hj; omega
  unfold kp
  rw [h _ (kpa_D j hl hj)]
theorem cDj.lt {j : Nat} (h : cDj j) : j < 124 := by unfold cDj at h; omega
/-- what a call on the living leaves -/
theorem xTie.live {I I1 I2 : qI} {J J1 J2 : qJ} (h : xTie I J) (hc : ∀ a, ((60 ≤ a ∧ a ≤ 88) ∨ (99 ≤ a ∧ a ≤ 113)) → I1 a = I a) (hj : ∀ a, (102 ≤ a ∧ a ≤ 113) → J1 a = J a) (h0 : I1 0 = I 0) (cf : cFar I I1 J J1) (r139 : I2 139 = I1 139) (r39 : I2 114 39 = I1 114 39) (r37 : I2 114 37 = I1 114 37 ∧ I2 138 = I1 138) (r17 : I2 114 17 = I1 114 17 ∧ I2 114 11 = I1 114 11 ∧ I2 123 = I1 123) (hn : ∀ p, p < 6 → I1 (qm 6 p) 0 = I (qm 6 p) 0) (r145 : ∀ a, 145 ≤ a → a ≤ 147 → I2 a = I1 a ∧ J2 a = J1 a) (rf : rFar I1 I2 J1 J2) (h6 : xT I2 6 (kp I2)) : xTie I2 J2 := by
  obtain ⟨t1, t2, t3, t4, t5, t6⟩ := h
  have e : ∀ a, ((60 ≤ a ∧ a ≤ 88) ∨ (99 ≤ a ∧ a ≤ 113)) → I2 a = I a := fun a ha => by rw [(rf a (by omega)).1, hc a ha]
  have e0 : I2 0 4 = I 0 4 := by rw [(rf 0 (by omega)).1, h0]
  have e139 : I2 139 = I 139 := by rw [r139, (cf 139 (by omega) (by omega)).1]
  refine ⟨h6, ?_, fun h1 => ?_, fun t ht => ?_, t5.fr (by rw [e 99 (by omega)]) (e 100 (by omega)) (by rw [r37.1, (cf 114 (by omega) (by omega)).1]) (by rw [r37.2, (cf 138 (by omega) (by omega)).1]) (fun p hp => by rw [(rf (qm 6 p) (by unfold qm; omega)).1]; exact hn p hp), t6.fr (by rw [(rf 0 (by omega)).1, h0]) (by rw [e 87 (by omega)]) (e 88 (by omega)) (by rw [r17.1, (cf 114 (by omega) (by omega)).1]) (by rw [r17.2.1, (cf 114 (by omega) (by omega)).1]) (by rw [r17.2.2, (cf 123 (by omega) (by omega)).1])⟩
  · rw [r39, (cf 114 (by omega) (by omega)).1, e0]; exact t2
  · rw [e0] at h1
    rw [e139]
    exact (t3 h1).rows (fun a a1 a2 => e a (by omega)) (fun j _ => rfl)
  · obtain ⟨b1, b2, b3, b4⟩ := t4 t ht
    refine ⟨?_, ?_, fun i hi => ?_, by rw [(r145 145 (by omega) (by omega)).1, (cf 145 (by omega) (by omega)).1, (r145 146 (by omega) (by omega)).1, (cf 146 (by omega) (by omega)).1]; exact b4⟩
    · rw [(r145 145 (by omega) (by omega)).1, (cf 145 (by omega) (by omega)).1, e _ (by omega)]; exact b1
    · rw [(r145 146 (by omega) (by omega)).1, (cf 146 (by omega) (by omega)).1, e _ (by omega)]; exact b2
    · rw [(r145 147 (by omega) (by omega)).2, (cf 147 (by omega) (by omega)).2, (rf (102 + 2 * t + 1) (by omega)).2, hj _ (by omega)]; exact b3 i hi
theorem xINV.mk2 {S S1 S2 : qSh} {I I1 I2 : qI} {J J1 J2 : qJ} {T T2 : qI → Prop} {v v2 : Option Value} (g : xINV S I J) (hK : KQ0 S I J T v S1 I1 J1) (hV : RQ0 S1 I1 J1 T2 v2 S2 I2 J2) (ht : xTie I2 J2) : xINV S2 I2 J2 := by
  obtain ⟨⟨w0, w1, w2, bl, hC⟩, hM, -, -⟩ := hK
  obtain ⟨rfl, hr, rf, -⟩ := hV
  exact ⟨⟨w0, w1, w2, bl, hC.rf rf⟩, hM g.2.1, hr, ht⟩
/-- two asks -/
theorem xINV.ask {S S1 S2 : qSh} {I I1 I2 : qI} {J J1 J2 : qJ} {T T2 : qI → Prop} {v v2 : Option Value} (g : xINV S I J) (u : cU I I1 J J1) (hK : KQ0 S I J T v S1 I1 J1) (r : rU I1 I2 J1 J2) (hV : RQ0 S1 I1 J1 T2 v2 S2 I2 J2) : xINV S2 I2 J2 := by
  refine g.mk2 hK hV ?_
  have cf := hK.2.2.1
  have rf := hV.2.2.1
  refine g.2.2.2.live (fun a ha => (u.1 a (by omega)).1) (fun a ha => (u.1 a (by omega)).2) (u.1 0 (by omega)).1 cf r.2.1 r.2.2.1 r.2.2.2.1 r.2.2.2.2.1 (fun p hp => by rw [(u.1 (qm 6 p) (by unfold qm; omega)).1]) r.2.2.2.2.2 rf ?_
  refine g.2.2.2.1.rows (fun a a1 a2 => by rw [(rf a (by omega)).1, (u.1 a (by omega)).1]) (fun j hj => ?_)
  rw [r.1 j (by unfold cDj at hj; omega), kp_far cf hj.lt]
theorem vI {x y : Int32} (h : x = y) : some (Value.int x) = some (Value.int y) := by rw [h]
theorem vinj {x y : Int32} (h : some (Value.int x) = some (Value.int y)) : x = y := by injection h with h; injection h
theorem vinjL {x y : Int64} (h : some (Value.long x) = some (Value.long y)) : x = y := by injection h with h; injection h
theorem xT.mo {I : qI} {f f' : Nat → Int32} {m jj : Nat} {v : Int32} (h : xT I 6 f) (hm : m < 6) (hj : jj ≠ 1) (hj2 : jj ≠ 2) (hf : ∀ j, cDj j → f' j = f j) : xT (qup I (qm 6 m) jj v) 6 f' := by
  have r : ∀ a, a ≠ qm 6 m → qup I (qm 6 m) jj v a = I a := fun a ha => qup_row ha
  refine h.fr (by rw [r _ (by unfold qm; omega)]) (by rw [r _ (by unfold qm; omega)]) (by rw [r _ (by unfold qm; omega)]) (by rw [r _ (by unfold qm; omega)]) (by rw [r _ (by unfold qm; omega)]) (by rw [r _ (by unfold qm; omega)]) (fun i _ => by rw [r _ (by unfold qm; omega)]) (fun p hp => ⟨qup_j (Ne.symm hj), qup_j (Ne.symm hj2), fun r' _ => by rw [r _ (by unfold qm; omega)]⟩) hf
theorem ci_set_or {I : qI} {c : Nat} {p x n : Int32} (hc : c ≤ 6) : ci_set I c p x n = I ∨ ∃ m jj, m < 6 ∧ (jj = 3 ∨ jj = 4 ∨ jj = 5) ∧ ci_set I c p x n = qup I (qm 6 m) jj n := by
  unfold ci_set
  split
  · exact Or.inl rfl
  · rename_i h1
    obtain ⟨m, m1, rfl⟩ := qisM_y (show c < 2 ^ 31 by omega) h1
    rw [qcl (by omega)]
    split
    · exact Or.inl rfl
    · split
      · exact Or.inl rfl
      · refine Or.inr ⟨m, cfld x, by omega, ?_, rfl⟩
        unfold cfld
        (repeat' split) <;> omega
theorem gi_set_or {I : qI} {J : qJ} {p x n : Int32} : gi_Md_set I J p x n = I ∨ ∃ a m, (a = 117 ∨ a = 118 ∨ a = 119) ∧ gi_Md_set I J p x n = qup I a m n := by
  unfold gi_Md_set
  (repeat' split) <;> first | exact Or.inl rfl | exact Or.inr ⟨117, _, Or.inl rfl, rfl⟩ | exact Or.inr ⟨118, _, Or.inr (Or.inl rfl), rfl⟩ | exact Or.inr ⟨119, _, Or.inr (Or.inr rfl), rfl⟩
theorem xINV.set {S S1 S2 : qSh} {I I1 I2 : qI} {J J1 J2 : qJ} {T T2 : qI → Prop} {v v2 : Option Value} {p x n : Int32} (g : xINV S I J) (pK : ∃ c, c ≤ 6 ∧ I 6 1 = nI c ∧ v = some (.int (ca_set I c p x n)) ∧ I1 = ci_set I c p x n ∧ J1 = J) (hK : KQ0 S I J T v S1 I1 J1) (pR : v2 = some (.int (ga_Md_set I1 J1 p x n)) ∧ I2 = gi_Md_set I1 J1 p x n ∧ J2 = gj_Md_set I1 J1 p x n) (hV : RQ0 S1 I1 J1 T2 v2 S2 I2 J2) : xINV S2 I2 J2 := by
  refine g.mk2 hK hV ?_
  have cf := hK.2.2.1
  have rf := hV.2.2.1
  obtain ⟨c, c6, hc, -, hI1, rfl⟩ := pK
  obtain ⟨-, hI2, hJ2⟩ := pR
  have j2 : J2 = J1 := by rw [hJ2]; unfold gj_Md_set; (repeat' split) <;> rfl
  have r2 : ∀ a, (a ≠ 117 ∧ a ≠ 118 ∧ a ≠ 119) → I2 a = I1 a := fun a ha => by
    rcases gi_set_or (I := I1) (J := J1) (p := p) (x := x) (n := n) with q | ⟨b, m, b1, q⟩
    · rw [hI2, q]
    · rw [hI2, q, qup_row (by omega)]
  have r1 : ∀ a, (a < 21 ∨ 32 < a) → I1 a = I a := fun a ha => by
    rcases ci_set_or (I := I) (c := c) (p := p) (x := x) (n := n) c6 with q | ⟨m, jj, m6, -, q⟩
    · rw [hI1, q]
    · rw [hI1, q, qup_row (by unfold qm; omega)]
  have rn : ∀ u, u < 6 → I1 (qm 6 u) 0 = I (qm 6 u) 0 := fun u hu => by
    rcases ci_set_or (I := I) (c := c) (p := p) (x := x) (n := n) c6 with q | ⟨m, jj, m6, hjj, q⟩
    · rw [hI1, q]
    · rw [hI1, q, qup_j (by omega)]
  refine g.2.2.2.live (fun a ha => r1 a (by omega)) (fun a ha => rfl) (by rw [r1 0 (by omega)]) cf (r2 139 (by omega)) (by rw [r2 114 (by omega)]) ⟨by rw [r2 114 (by omega)], r2 138 (by omega)⟩ ⟨by rw [r2 114 (by omega)], by rw [r2 114 (by omega)], r2 123 (by omega)⟩ rn (fun a a1 a2 => ⟨r2 a (by omega), by rw [j2]⟩) rf ?_
  have hf : ∀ j, cDj j → kp I2 j = kp I j := fun j hj => by rw [kp_D hj (fun a ha => r2 a (by omega)), kp_far cf hj.lt]
  have base : xT I1 6 (kp I2) := by
    rcases ci_set_or (I := I) (c := c) (p := p) (x := x) (n := n) c6 with q | ⟨m, jj, m6, hjj, q⟩
    · rw [hI1, q]; exact g.2.2.2.1.rows (fun a _ _ => rfl) hf
    · rw [hI1, q]; exact g.2.2.2.1.mo m6 (by omega) (by omega) hf
  exact base.rows (fun a a1 a2 => (rf a (by omega)).1) (fun j _ => rfl)
theorem ci_done_or {I : qI} {c : Nat} {p b : Int32} (hc : c ≤ 6) : ci_done I c p b = I ∨ ∃ m, m < 6 ∧ ci_done I c p b = qup I (qm 6 m) 6 b := by
  unfold ci_done
  split
  · exact Or.inl rfl
  · rename_i h1
    obtain ⟨m, m1, rfl⟩ := qisM_y (show c < 2 ^ 31 by omega) h1
    rw [qcl (by omega)]
    exact Or.inr ⟨m, by omega, rfl⟩
theorem gi_done_or {I : qI} {J : qJ} {p x : Int32} : gi_Md_done I J p x = I ∨ ∃ m y, gi_Md_done I J p x = qup I 120 m y := by
  unfold gi_Md_done
  (repeat' split) <;> first | exact Or.inl rfl | exact Or.inr ⟨_, _, rfl⟩
theorem xINV.done {S S1 S2 : qSh} {I I1 I2 : qI} {J J1 J2 : qJ} {T T2 : qI → Prop} {v v2 : Option Value} {p b x : Int32} (g : xINV S I J) (pK : ∃ c, c ≤ 6 ∧ I 6 1 = nI c ∧ v = some (.int (ca_done I c p)) ∧ I1 = ci_done I c p b ∧ J1 = J) (hK : KQ0 S I J T v S1 I1 J1) (pR : v2 = some (.int (ga_Md_done I1 J1 p x)) ∧ I2 = gi_Md_done I1 J1 p x ∧ J2 = gj_Md_done I1 J1 p x) (hV : RQ0 S1 I1 J1 T2 v2 S2 I2 J2) : xINV S2 I2 J2 := by
  refine g.mk2 hK hV ?_
  have cf := hK.2.2.1
  have rf := hV.2.2.1
  obtain ⟨c, c6, hc, -, hI1, rfl⟩ := pK
  obtain ⟨-, hI2, hJ2⟩ := pR
  have j2 : J2 = J1 := by rw [hJ2]; unfold gj_Md_done; (repeat' split) <;> rfl
  have r2 : ∀ a, a ≠ 120 → I2 a = I1 a := fun a ha => by
    rcases gi_done_or (I := I1) (J := J1) (p := p) (x := x) with q | ⟨m, y, q⟩
    · rw [hI2, q]
    · rw [hI2, q, qup_row ha]
  have r1 : ∀ a, (a < 21 ∨ 32 < a) → I1 a = I a := fun a ha => by
    rcases ci_done_or (I := I) (c := c) (p := p) (b := b) c6 with q | ⟨m, m6, q⟩
    · rw [hI1, q]
    · rw [hI1, q, qup_row (by unfold qm; omega)]
  have rn : ∀ u, u < 6 → I1 (qm 6 u) 0 = I (qm 6 u) 0 := fun u hu => by
    rcases ci_done_or (I := I) (c := c) (p := p) (b := b) c6 with q | ⟨m, m6, q⟩
    · rw [hI1, q]
    · rw [hI1, q, qup_j (by omega)]
  refine g.2.2.2.live (fun a ha => r1 a (by omega)) (fun a ha => rfl) (by rw [r1 0 (by omega)]) cf (r2 139 (by omega)) (by rw [r2 114 (by omega)]) ⟨by rw [r2 114 (by omega)], r2 138 (by omega)⟩ ⟨by rw [r2 114 (by omega)], by rw [r2 114 (by omega)], r2 123 (by omega)⟩ rn (fun a a1 a2 => ⟨r2 a (by omega), by rw [j2]⟩) rf ?_
  have hf : ∀ j, cDj j → kp I2 j = kp I j := fun j hj => by rw [kp_D hj (fun a ha => r2 a (by omega)), kp_far cf hj.lt]
  have base : xT I1 6 (kp I2) := by
    rcases ci_done_or (I := I) (c := c) (p := p) (b := b) c6 with q | ⟨m, m6, q⟩
    · rw [hI1, q]; exact g.2.2.2.1.rows (fun a _ _ => rfl) hf
    · rw [hI1, q]; exact g.2.2.2.1.mo m6 (by omega) (by omega) hf
  exact base.rows (fun a a1 a2 => (rf a (by omega)).1) (fun j _ => rfl)
/-! class and reference side by side: rows, what is seen, planned, booked -/
theorem xTie.idn {I I1 I2 : qI} {J J1 J2 : qJ} (h : xTie I J) (h1 : I1 = I) (h2 : J1 = J) (h3 : I2 = I1) (h4 : J2 = J1) : xTie I2 J2 := by rw [h3, h4, h1, h2]; exact h
theorem kpa_D2 : ∀ j, j < 124 → (j < 12 ∨ (36 ≤ j ∧ j < 66)) → (kpa j).1 = 115 ∨ (kpa j).1 = 116 ∨ (kpa j).1 = 121 ∨ (kpa j).1 = 122 := by decide +kernel
theorem kp_D2 {I I' : qI} {j : Nat} (hj : j < 12 ∨ (36 ≤ j ∧ j < 66)) (h : ∀ a, (a = 115 ∨ a = 116 ∨ a = 121 ∨ a = 122) → I' a = I a) : kp I' j = kp I j := by
  unfold kp
  rw [h _ (kpa_D2 j (by omega) hj)]
theorem xT.c {I : qI} {f : Nat → Int32} {o : Nat} (h : xT I o f) : f 117 = I o 1 := h.1
theorem xT.rw {I : qI} {f f' : Nat → Int32} {c m r : Nat} {n : Int32} (h : xT I 6 f) (c6 : c ≤ 6) (hc : I 6 1 = nI c) (hm : m < c) (hr : r < 4) (hf : ∀ j, cDj j → f' j = if j = 42 + (4 * m + r) then n else f j) : xT (qup I (qm 6 m + 1) r n) 6 f' := by
  obtain ⟨a1, a2, a3, a4, a5, a6, a7, a8⟩ := h
  have k : ∀ a, a ≠ qm 6 m + 1 → qup I (qm 6 m + 1) r n a = I a := fun a ha => qup_row ha
  unfold cDj at hf
  refine ⟨by rw [hf _ (by omega), if_neg (by omega), k _ (by unfold qm; omega)]; exact a1, by rw [hf _ (by omega), if_neg (by omega), k _ (by unfold qm; omega)]; exact a2, by rw [hf _ (by omega), if_neg (by omega), k _ (by unfold qm; omega)]; exact a3, by rw [hf _ (by omega), if_neg (by omega), k _ (by unfold qm; omega)]; exact a4, by rw [hf _ (by omega), if_neg (by omega), k _ (by unfold qm; omega)]; exact a5, by rw [hf _ (by omega), if_neg (by omega), k _ (by unfold qm; omega)]; exact a6, fun c' p hc' e hp => ?_, fun l i hl6 e hi => ?_⟩
  · rw [k _ (by unfold qm; omega)] at e
    obtain ⟨b1, b0, b2⟩ := a7 c' p hc' e hp
    refine ⟨by rw [hf _ (by omega), if_neg (by omega), k _ (by unfold qm; omega)]; exact b1, by rw [hf _ (by omega), if_neg (by omega), k _ (by unfold qm; omega)]; exact b0, fun r' hr' => ?_⟩
    rw [hf _ (by omega)]
    by_cases q : p = m
    · subst q
      by_cases q2 : r' = r
      · subst q2; rw [if_pos rfl, qup_at]
      · rw [if_neg (by omega), qup_j q2]; exact b2 r' hr'
    · rw [if_neg (by omega), k _ (by unfold qm; omega)]; exact b2 r' hr'
  · rw [k _ (by unfold qm; omega)] at e
    rw [hf _ (by omega), if_neg (by omega), k _ (by unfold qm; omega)]; exact a8 l i hl6 e hi
theorem nI_4m (m r : Nat) : 4 * nI m + nI r = nI (4 * m + r) := by
  show Int32.ofNat 4 * Int32.ofNat m + Int32.ofNat r = Int32.ofNat (4 * m + r)
  rw [Int32.ofNat_add, Int32.ofNat_mul]
theorem xINV.row {S S1 S2 : qSh} {I I1 I2 : qI} {J J1 J2 : qJ} {T T2 : qI → Prop} {v v2 : Option Value} {p r n : Int32} (g : xINV S I J) (pK : ∃ c, c ≤ 6 ∧ I 6 1 = nI c ∧ v = some (.int (ca_row I c p r n)) ∧ I1 = ci_row I c p r n ∧ J1 = J) (hK : KQ0 S I J T v S1 I1 J1) (pR : v2 = some (.int (ga_Md_row I1 J1 p r n)) ∧ I2 = gi_Md_row I1 J1 p r n ∧ J2 = gj_Md_row I1 J1 p r n) (hV : RQ0 S1 I1 J1 T2 v2 S2 I2 J2) : xINV S2 I2 J2 ∧ v = v2 := by
  have cf := hK.2.2.1
  have rf := hV.2.2.1
  have tie := g.2.2.2
  obtain ⟨c, c6, hc, hv, hI1, rfl⟩ := pK
  obtain ⟨hv2, hI2, hJ2⟩ := pR
  have j2 : J2 = J1 := by rw [hJ2]; unfold gj_Md_row; (repeat' split) <;> rfl
  have hc1 : I1 114 0 = nI c := by rw [(cf 114 (by omega) (by omega)).1]; exact tie.1.1.trans hc
  have e115 : I1 115 = I 115 := (cf 115 (by omega) (by omega)).1
  have e121 : I1 121 = I 121 := (cf 121 (by omega) (by omega)).1
  unfold ca_row at hv
  unfold ci_row at hI1
  unfold ga_Md_row at hv2
  unfold gi_Md_row at hI2
  rw [hc1] at hv2 hI2
  have idn : I1 = I → I2 = I1 → xINV S2 I2 J2 := fun h1 h2 => g.mk2 hK hV (tie.idn h1 rfl h2 j2)
  by_cases q1 : qwithin p 0 (nI c - 1) = 0
  · rw [if_pos q1] at hv hI1 hv2 hI2
    exact ⟨idn hI1 hI2, hv.trans hv2.symm⟩
  rw [if_neg q1] at hv hI1 hv2 hI2
  obtain ⟨m, m1, rfl⟩ := qisM_y (show c < 2 ^ 31 by omega) q1
  rw [qcl (n := m) (by omega)] at hv hI1 hv2 hI2
  by_cases q2 : qwithin r 0 3 = 0
  · rw [if_pos q2] at hv hI1 hv2 hI2
    exact ⟨idn hI1 hI2, hv.trans hv2.symm⟩
  rw [if_neg q2] at hv hI1 hv2 hI2
  by_cases q3 : qwithin n 0 9 = 0
  · rw [if_pos q3] at hv hI1 hv2 hI2
    exact ⟨idn hI1 hI2, hv.trans hv2.symm⟩
  rw [if_neg q3] at hv hI1 hv2 hI2
  obtain ⟨k1, -, k2⟩ := tie.1.2.2.2.2.2.2.1 c m c6 hc m1
  have kd : I 115 m = I (qm 6 m) 1 := by rw [← k1]; exact (kp_115 (I := I) (k := m) (by omega)).symm.trans (by rw [Nat.zero_add])
  rw [e115, kd] at hv2 hI2
  by_cases q4 : I (qm 6 m) 1 = 6
  · rw [if_pos q4] at hv hI1 hv2 hI2
    obtain ⟨g1, g2⟩ := qwithin_y q2
    obtain ⟨r', r1, rfl⟩ := nI_of2 (M := 3) (n := 3) rfl (Int32.not_lt.mpr g1) g2
    rw [nI_4m, qcl (n := 4 * m + r') (by omega)] at hv2 hI2
    rw [qcl (n := r') (by omega)] at hv hI1
    have kr := k2 r' (by omega)
    rw [kp_121 (by omega)] at kr
    refine ⟨g.mk2 hK hV ?_, hv.trans (Eq.trans ?_ hv2.symm)⟩
    · have r2 : ∀ a, a ≠ 121 → I2 a = I1 a := fun a ha => by rw [hI2, qup_row ha]
      have r1' : ∀ a, (a < 21 ∨ 32 < a) → I1 a = I a := fun a ha => by rw [hI1, qup_row (by unfold qm; omega)]
      refine tie.live (fun a ha => r1' a (by omega)) (fun a ha => rfl) (by rw [r1' 0 (by omega)]) cf (r2 139 (by omega)) (by rw [r2 114 (by omega)]) ⟨by rw [r2 114 (by omega)], r2 138 (by omega)⟩ ⟨by rw [r2 114 (by omega)], by rw [r2 114 (by omega)], r2 123 (by omega)⟩ (fun u hu => by rw [hI1, qup_row (by unfold qm; omega)]) (fun a a1 a2 => ⟨r2 a (by omega), by rw [j2]⟩) rf ?_
      have base : xT I1 6 (kp I2) := by
        rw [hI1]
        refine tie.1.rw c6 hc m1 (by omega) (fun j hj => ?_)
        have hj' := hj
        unfold cDj at hj'
        rw [hI2, kp_up (n := 42 + (4 * m + r')) (kpa_121 (by omega)) hj.lt (by omega), kp_far cf hj.lt]
      exact base.rows (fun a a1 a2 => (rf a (by omega)).1) (fun j _ => rfl)
    · rw [e121, kr]
  · rw [if_neg q4] at hv hI1 hv2 hI2
    exact ⟨idn hI1 hI2, hv.trans hv2.symm⟩
theorem q1k {k : Nat} : nI k + 1 = nI (k + 1) := q1 k
/-- one number changes -/
theorem xT.one {I I1 I2 : qI} {J J1 : qJ} {R N : Nat} {y : Int32} (h : xT I 6 (kp I)) (cf : cFar I I1 J J1) (hR : R = 9 ∧ N = 27 ∨ R = 13 ∧ N = 31 ∨ R = 17 ∧ N = 34) (c1 : ∀ a, (a < R ∨ R + 3 < a) → I1 a = I a) (y1 : I1 R 3 = y) (c2 : ∀ a, (a = 115 ∨ a = 116 ∨ a = 121 ∨ a = 122) → I2 a = I1 a) (c3 : ∀ j, j ≠ N → I2 114 j = I1 114 j) (y2 : I2 114 N = y) (rf : ∀ a, a < 114 → I2 a = I1 a) : xT I2 6 (kp I2) := by
  obtain ⟨a1, a2, a3, a4, a5, a6, a7, a8⟩ := h
  have k : ∀ a, a < 114 → (a < R ∨ R + 3 < a) → I2 a = I a := fun a h1 h2 => by rw [rf a h1, c1 a h2]
  have f : ∀ j, j ≠ N → I2 114 j = I 114 j := fun j hj => by rw [c3 j hj, (cf 114 (by omega) (by omega)).1]
  have kk : ∀ j, (j < 12 ∨ (36 ≤ j ∧ j < 66)) → kp I2 j = kp I j := fun j hj => by rw [kp_D2 hj c2, kp_far cf (by omega)]
  have yR : I2 R 3 = y := by rw [rf R (by omega)]; exact y1
  refine ⟨?_, ?_, ?_, ?_, ?_, ?_, fun c p hc e hp => ?_, fun l i hl6 e hi => ?_⟩
  · show I2 114 0 = I2 6 1
    rw [f 0 (by omega), k 6 (by omega) (by omega)]; exact a1
  · show I2 114 8 = I2 6 3
    rw [f 8 (by omega), k 6 (by omega) (by omega)]; exact a2
  · show I2 114 10 = I2 6 4
    rw [f 10 (by omega), k 6 (by omega) (by omega)]; exact a3
  · show I2 114 27 = I2 9 3
    rcases hR with ⟨rfl, rfl⟩ | ⟨rfl, rfl⟩ | ⟨rfl, rfl⟩
    · rw [y2, yR]
    · rw [f 27 (by omega), k 9 (by omega) (by omega)]; exact a4
    · rw [f 27 (by omega), k 9 (by omega) (by omega)]; exact a4
  · show I2 114 31 = I2 13 3
    rcases hR with ⟨rfl, rfl⟩ | ⟨rfl, rfl⟩ | ⟨rfl, rfl⟩
    · rw [f 31 (by omega), k 13 (by omega) (by omega)]; exact a5
    · rw [y2, yR]
    · rw [f 31 (by omega), k 13 (by omega) (by omega)]; exact a5
  · show I2 114 34 = I2 17 3
    rcases hR with ⟨rfl, rfl⟩ | ⟨rfl, rfl⟩ | ⟨rfl, rfl⟩
    · rw [f 34 (by omega), k 17 (by omega) (by omega)]; exact a6
    · rw [f 34 (by omega), k 17 (by omega) (by omega)]; exact a6
    · rw [y2, yR]
  · rw [k 6 (by omega) (by omega)] at e
    obtain ⟨b1, b0, b2⟩ := a7 c p hc e hp
    refine ⟨by rw [kk _ (by omega), k (qm 6 p) (by unfold qm; omega) (by unfold qm; omega)]; exact b1, by rw [kk _ (by omega), k (qm 6 p) (by unfold qm; omega) (by unfold qm; omega)]; exact b0, fun r hr => ?_⟩
    rw [kk _ (by omega), k (qm 6 p + 1) (by unfold qm; omega) (by unfold qm; omega)]; exact b2 r hr
  · rw [k 6 (by omega) (by omega)] at e
    rw [kk _ (by omega), k (6 + 2) (by omega) (by omega)]; exact a8 l i hl6 e hi
/-- such a step keeps the tie -/
theorem xINV.one {S S1 S2 : qSh} {I I1 I2 : qI} {J J1 J2 : qJ} {T T2 : qI → Prop} {v v2 : Option Value} {R N : Nat} {y : Int32} (g : xINV S I J) (hK : KQ0 S I J T v S1 I1 J1) (hV : RQ0 S1 I1 J1 T2 v2 S2 I2 J2) (hJ1 : J1 = J) (hJ2 : J2 = J1) (hR : R = 9 ∧ N = 27 ∨ R = 13 ∧ N = 31 ∨ R = 17 ∧ N = 34) (c1 : ∀ a, (a < R ∨ R + 3 < a) → I1 a = I a) (y1 : I1 R 3 = y) (c2 : ∀ a, a ≠ 114 → (a < 131 ∨ 137 < a) → I2 a = I1 a) (c3 : ∀ j, j ≠ N → I2 114 j = I1 114 j) (y2 : I2 114 N = y) : xINV S2 I2 J2 := by
  have cf := hK.2.2.1
  have rf := hV.2.2.1
  subst hJ1
  refine g.mk2 hK hV (g.2.2.2.live (fun a ha => c1 a (by omega)) (fun a ha => rfl) (by rw [c1 0 (by omega)]) cf (c2 139 (by omega) (by omega)) (c3 39 (by omega)) ⟨c3 37 (by omega), c2 138 (by omega) (by omega)⟩ ⟨c3 17 (by omega), c3 11 (by omega), c2 123 (by omega) (by omega)⟩ (fun u hu => by rw [c1 _ (by unfold qm; omega)]) (fun a a1 a2 => ⟨c2 a (by omega) (by omega), by rw [hJ2]⟩) rf ?_)
  exact g.2.2.2.1.one cf hR c1 y1 (fun a ha => c2 a (by omega) (by omega)) c3 y2 (fun a ha => (rf a (by omega)).1)
theorem xINV.see {S S1 S2 : qSh} {I I1 I2 : qI} {J J1 J2 : qJ} {T T2 : qI → Prop} {v v2 : Option Value} {p x n : Int32} (g : xINV S I J) (pK : ∃ c z, c ≤ 6 ∧ I 6 1 = nI c ∧ z ≤ 5 ∧ I 9 3 = nI z ∧ v = some (.int (ca_see c z p x n)) ∧ I1 = ci_see I c z p x n ∧ J1 = J) (hK : KQ0 S I J T v S1 I1 J1) (pR : v2 = some (.int (ga_Md_see I1 J1 p x n)) ∧ I2 = gi_Md_see I1 J1 p x n ∧ J2 = gj_Md_see I1 J1 p x n) (hV : RQ0 S1 I1 J1 T2 v2 S2 I2 J2) : xINV S2 I2 J2 ∧ v = v2 := by
  have cf := hK.2.2.1
  have tie := g.2.2.2
  obtain ⟨c, z, c6, hc, z5, hz, hv, hI1, rfl⟩ := pK
  obtain ⟨hv2, hI2, hJ2⟩ := pR
  have j2 : J2 = J1 := by rw [hJ2]; unfold gj_Md_see; (repeat' split) <;> rfl
  have hc1 : I1 114 0 = nI c := by rw [(cf 114 (by omega) (by omega)).1]; exact tie.1.1.trans hc
  have hz1 : I1 114 27 = nI z := by rw [(cf 114 (by omega) (by omega)).1]; exact tie.1.2.2.2.1.trans hz
  unfold ca_see at hv
  unfold ci_see at hI1
  unfold ga_Md_see at hv2
  unfold gi_Md_see at hI2
  rw [hc1, hz1] at hv2 hI2
  have idn : I1 = I → I2 = I1 → xINV S2 I2 J2 := fun h1 h2 => g.mk2 hK hV (tie.idn h1 rfl h2 j2)
  by_cases q0 : p = -1
  · rw [if_pos q0] at hv hI1 hv2 hI2
    exact ⟨g.one (R := 9) (N := 27) (y := 0) hK hV rfl j2 (by omega) (fun a ha => by rw [hI1, qup_row (by omega)]) (by rw [hI1, qup_at]) (fun a a1 a2 => by rw [hI2, qup_row a1]) (fun j hj => by rw [hI2, qup_j hj]) (by rw [hI2, qup_at]), hv.trans hv2.symm⟩
  rw [if_neg q0] at hv hI1 hv2 hI2
  by_cases q1 : qwithin p 0 (nI c - 1) = 0
  · rw [if_pos q1] at hv hI1 hv2 hI2
    exact ⟨idn hI1 hI2, hv.trans hv2.symm⟩
  rw [if_neg q1] at hv hI1 hv2 hI2
  by_cases q2 : qwithin x 0 999 = 0
  · rw [if_pos q2] at hv hI1 hv2 hI2
    exact ⟨idn hI1 hI2, hv.trans hv2.symm⟩
  rw [if_neg q2] at hv hI1 hv2 hI2
  by_cases q3 : qwithin n 0 20 = 0
  · rw [if_pos q3] at hv hI1 hv2 hI2
    exact ⟨idn hI1 hI2, hv.trans hv2.symm⟩
  rw [if_neg q3] at hv hI1 hv2 hI2
  by_cases q4 : z < 5
  · have n4 : ¬ nI z = 5 := fun w => by
      have := (nI_eq (by omega) (by omega)).mp (show nI z = nI 5 from w)
      omega
    rw [if_pos q4] at hv hI1
    rw [if_neg n4, q1k] at hv2
    rw [if_neg n4, q1k, qcl (by omega)] at hI2
    unfold qadd at hI1
    exact ⟨g.one (R := 9) (N := 27) (y := nI (z + 1)) hK hV rfl j2 (by omega) (fun a ha => by rw [hI1, qup_row (by omega), qup_row (by omega), qup_row (by omega), qup_row (by omega)]) (by rw [hI1, qup_at]) (fun a a1 a2 => by rw [hI2, qup_row (by omega), qup_row a1, qup_row (by omega), qup_row (by omega)]) (fun j hj => by rw [hI2, qup_o (by decide), qup_j hj, qup_o (by decide), qup_o (by decide)]) (by rw [hI2, qup_o (by decide), qup_at]), hv.trans hv2.symm⟩
  · have n4 : nI z = 5 := by rw [show z = 5 by omega]; rfl
    rw [if_neg q4] at hv hI1
    rw [if_pos n4] at hv2 hI2
    exact ⟨idn hI1 hI2, hv.trans hv2.symm⟩
theorem xINV.book {S S1 S2 : qSh} {I I1 I2 : qI} {J J1 J2 : qJ} {T T2 : qI → Prop} {v v2 : Option Value} {p x : Int32} (g : xINV S I J) (pK : ∃ c z, c ≤ 6 ∧ I 6 1 = nI c ∧ z ≤ 8 ∧ I 17 3 = nI z ∧ v = some (.int (ca_book c z p x)) ∧ I1 = ci_book I c z p x ∧ J1 = J) (hK : KQ0 S I J T v S1 I1 J1) (pR : v2 = some (.int (ga_Md_book I1 J1 p x)) ∧ I2 = gi_Md_book I1 J1 p x ∧ J2 = gj_Md_book I1 J1 p x) (hV : RQ0 S1 I1 J1 T2 v2 S2 I2 J2) : xINV S2 I2 J2 ∧ v = v2 := by
  have cf := hK.2.2.1
  have tie := g.2.2.2
  obtain ⟨c, z, c6, hc, z5, hz, hv, hI1, rfl⟩ := pK
  obtain ⟨hv2, hI2, hJ2⟩ := pR
  have j2 : J2 = J1 := by rw [hJ2]; unfold gj_Md_book; (repeat' split) <;> rfl
  have hc1 : I1 114 0 = nI c := by rw [(cf 114 (by omega) (by omega)).1]; exact tie.1.1.trans hc
  have hz1 : I1 114 34 = nI z := by rw [(cf 114 (by omega) (by omega)).1]; exact tie.1.2.2.2.2.2.1.trans hz
  unfold ca_book at hv
  unfold ci_book at hI1
  unfold ga_Md_book at hv2
  unfold gi_Md_book at hI2
  rw [hc1, hz1] at hv2 hI2
  have idn : I1 = I → I2 = I1 → xINV S2 I2 J2 := fun h1 h2 => g.mk2 hK hV (tie.idn h1 rfl h2 j2)
  by_cases q0 : p = -1
  · rw [if_pos q0] at hv hI1 hv2 hI2
    exact ⟨g.one (R := 17) (N := 34) (y := 0) hK hV rfl j2 (by omega) (fun a ha => by rw [hI1, qup_row (by omega)]) (by rw [hI1, qup_at]) (fun a a1 a2 => by rw [hI2, qup_row a1]) (fun j hj => by rw [hI2, qup_j hj]) (by rw [hI2, qup_at]), hv.trans hv2.symm⟩
  rw [if_neg q0] at hv hI1 hv2 hI2
  by_cases q1 : qwithin p 0 (nI c - 1) = 0
  · rw [if_pos q1] at hv hI1 hv2 hI2
    exact ⟨idn hI1 hI2, hv.trans hv2.symm⟩
  rw [if_neg q1] at hv hI1 hv2 hI2
  by_cases q2 : qwithin x 0 99999 = 0
  · rw [if_pos q2] at hv hI1 hv2 hI2
    exact ⟨idn hI1 hI2, hv.trans hv2.symm⟩
  rw [if_neg q2] at hv hI1 hv2 hI2
  by_cases q4 : z < 8
  · have n4 : ¬ nI z = 8 := fun w => by
      have := (nI_eq (by omega) (by omega)).mp (show nI z = nI 8 from w)
      omega
    rw [if_pos q4] at hv hI1
    rw [if_neg n4, q1k] at hv2
    rw [if_neg n4, q1k, qcl (by omega)] at hI2
    unfold qadd at hI1
    exact ⟨g.one (R := 17) (N := 34) (y := nI (z + 1)) hK hV rfl j2 (by omega) (fun a ha => by rw [hI1, qup_row (by omega), qup_row (by omega), qup_row (by omega), qup_row (by omega)]) (by rw [hI1, qup_at]) (fun a a1 a2 => by rw [hI2, qup_row (by omega), qup_row a1, qup_row (by omega)]) (fun j hj => by rw [hI2, qup_o (by decide), qup_j hj, qup_o (by decide)]) (by rw [hI2, qup_o (by decide), qup_at]), hv.trans hv2.symm⟩
  · have n4 : nI z = 8 := by rw [show z = 8 by omega]; rfl
    rw [if_neg q4] at hv hI1
    rw [if_pos n4] at hv2 hI2
    exact ⟨idn hI1 hI2, hv.trans hv2.symm⟩
theorem xINV.plan {S S1 S2 : qSh} {I I1 I2 : qI} {J J1 J2 : qJ} {T T2 : qI → Prop} {v v2 : Option Value} {x p : Int32} (g : xINV S I J) (pK : ∃ c z, c ≤ 6 ∧ I 6 1 = nI c ∧ z ≤ 10 ∧ I 13 3 = nI z ∧ v = some (.int (ca_plan c z x p)) ∧ I1 = ci_plan I c z x p ∧ J1 = J) (hK : KQ0 S I J T v S1 I1 J1) (pR : v2 = some (.int (ga_Md_plan I1 J1 x p)) ∧ I2 = gi_Md_plan I1 J1 x p ∧ J2 = gj_Md_plan I1 J1 x p) (hV : RQ0 S1 I1 J1 T2 v2 S2 I2 J2) : xINV S2 I2 J2 ∧ v = v2 := by
  have cf := hK.2.2.1
  have tie := g.2.2.2
  obtain ⟨c, z, c6, hc, z5, hz, hv, hI1, rfl⟩ := pK
  obtain ⟨hv2, hI2, hJ2⟩ := pR
  have j2 : J2 = J1 := by rw [hJ2]; unfold gj_Md_plan; (repeat' split) <;> rfl
  have hc1 : I1 114 0 = nI c := by rw [(cf 114 (by omega) (by omega)).1]; exact tie.1.1.trans hc
  have hz1 : I1 114 31 = nI z := by rw [(cf 114 (by omega) (by omega)).1]; exact tie.1.2.2.2.2.1.trans hz
  unfold ca_plan at hv
  unfold ci_plan at hI1
  unfold ga_Md_plan at hv2
  unfold gi_Md_plan at hI2
  simp only [ite_self] at hv2
  rw [hc1, hz1] at hv2 hI2
  have idn : I1 = I → I2 = I1 → xINV S2 I2 J2 := fun h1 h2 => g.mk2 hK hV (tie.idn h1 rfl h2 j2)
  by_cases q0 : x = -1
  · rw [if_pos q0] at hv hI1 hv2 hI2
    exact ⟨g.one (R := 13) (N := 31) (y := 0) hK hV rfl j2 (by omega) (fun a ha => by rw [hI1, qup_row (by omega)]) (by rw [hI1, qup_at]) (fun a a1 a2 => by rw [hI2, qup_row a1]) (fun j hj => by rw [hI2, qup_j hj]) (by rw [hI2, qup_at]), hv.trans hv2.symm⟩
  rw [if_neg q0] at hv hI1 hv2 hI2
  by_cases q1 : qwithin x 0 3 = 0
  · rw [if_pos q1] at hv hI1 hv2 hI2
    exact ⟨idn hI1 hI2, hv.trans hv2.symm⟩
  rw [if_neg q1] at hv hI1 hv2 hI2
  have go : v = (if z < 10 then some (.int (nI (z + 1))) else some (.int (-4))) → I1 = (if z < 10 then qadd I 13 z x p 0 else I) → v2 = (if nI z = 10 then some (.int (-4)) else some (.int (nI z + 1))) → (∃ t, I2 = if nI z = 10 then I1 else qup (qup (qup I1 134 (nI z).toNatClampNeg x) 114 31 (nI z + 1)) 135 (nI z).toNatClampNeg t) → xINV S2 I2 J2 ∧ v = v2 := by
    intro hv hI1 hv2 hI2
    obtain ⟨t, hI2⟩ := hI2
    by_cases q4 : z < 10
    · have n4 : ¬ nI z = 10 := fun w => by
        have := (nI_eq (by omega) (by omega)).mp (show nI z = nI 10 from w)
        omega
      rw [if_pos q4] at hv hI1
      rw [if_neg n4, q1k] at hv2
      rw [if_neg n4, q1k, qcl (by omega)] at hI2
      unfold qadd at hI1
      exact ⟨g.one (R := 13) (N := 31) (y := nI (z + 1)) hK hV rfl j2 (by omega) (fun a ha => by rw [hI1, qup_row (by omega), qup_row (by omega), qup_row (by omega), qup_row (by omega)]) (by rw [hI1, qup_at]) (fun a a1 a2 => by rw [hI2, qup_row (by omega), qup_row a1, qup_row (by omega)]) (fun j hj => by rw [hI2, qup_o (by decide), qup_j hj, qup_o (by decide)]) (by rw [hI2, qup_o (by decide), qup_at]), hv.trans hv2.symm⟩
    · have n4 : nI z = 10 := by rw [show z = 10 by omega]; rfl
      rw [if_neg q4] at hv hI1
      rw [if_pos n4] at hv2 hI2
      exact ⟨idn hI1 hI2, hv.trans hv2.symm⟩
  have push : ∀ {b : Prop} [Decidable b] {x y : Int32}, some (Value.int (if b then x else y)) = if b then some (Value.int x) else some (Value.int y) := by
    intro b _ x y; split <;> rfl
  by_cases q2 : x = 0
  · rw [if_neg (fun w => w.1 q2), push] at hv
    rw [if_neg (fun w => w.1 q2)] at hI1
    rw [if_pos (by rw [q2]; decide), push] at hv2
    rw [if_pos (by rw [q2]; decide)] at hI2
    simp only [if_pos q2] at hI2
    exact go hv hI1 hv2 ⟨_, hI2⟩
  · have n2 : ¬ x ≤ 0 := fun w => q2 (Int32.le_antisymm w (qwithin_y q1).1)
    rw [if_neg n2] at hv2 hI2
    by_cases q3 : qwithin p 0 (nI c - 1) = 0
    · rw [if_pos ⟨q2, q3⟩] at hv hI1
      rw [if_pos q3] at hv2 hI2
      exact ⟨idn hI1 hI2, hv.trans hv2.symm⟩
    · rw [if_neg (fun w => q3 w.2), push] at hv
      rw [if_neg (fun w => q3 w.2)] at hI1
      rw [if_neg q3, push] at hv2
      rw [if_neg q3] at hI2
      simp only [if_neg q2] at hI2
      exact go hv hI1 hv2 ⟨_, hI2⟩
