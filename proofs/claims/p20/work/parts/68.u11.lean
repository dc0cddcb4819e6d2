/-! the object's calls keep its invariant; what they say of the count, of the image -/
def cT (I I' : qI) : Prop := I' 6 1 = I 6 1 ∧ I' 0 4 = I 0 4 ∧ I' 60 1 = I 60 1
def cFar (I I' : qI) (J J' : qJ) : Prop := ∀ a, 114 ≤ a → a ≤ 147 → I' a = I a ∧ J' a = J a
abbrev KQ0 (S : qSh) (I : qI) (J : qJ) (T : qI → Prop) : qPost := fun _ S' I' J' => (∃ w0 w1 w2 bl, cINV S' I' J' w0 w1 w2 bl) ∧ (isMd S → isMd S') ∧ cFar I I' J J' ∧ T I'
abbrev VI (v : Option Value) : Prop := ∃ r, v = some (.int r)
abbrev VL (v : Option Value) : Prop := ∃ r, v = some (.long r)
abbrev KQ (S : qSh) (I : qI) (J : qJ) (T : qI → Prop) : qPost := fun v S' I' J' => VI v ∧ KQ0 S I J T v S' I' J'
abbrev KL (S : qSh) (I : qI) (J : qJ) (T : qI → Prop) : qPost := fun v S' I' J' => VL v ∧ KQ0 S I J T v S' I' J'
theorem qMet.pv {E : qE} {y : MethodName} {cc : ByteArray} {nL : Nat} {ret : Option FieldType} {d mc ms : Nat} {av : List Value} {S : qSh} {I : qI} {J : qJ} {Q Q' : qPost} {P : Option Value → Prop} (h : qMet E y cc nL ret d mc ms av S I J Q) (hv : ∀ v S' I' J', Q v S' I' J' → P v) (hk : ∀ v S' I' J', Q v S' I' J' → Q' v S' I' J') : qMet E y cc nL ret d mc ms av S I J (fun v S' I' J' => P v ∧ Q' v S' I' J') := h.post (fun v S' I' J' hq => ⟨hv v S' I' J' hq, hk v S' I' J' hq⟩)
def cU (I I' : qI) (J J' : qJ) : Prop := (∀ a, (a = 0 ∨ (6 ≤ a ∧ a ≤ 32) ∨ (60 ≤ a ∧ a ≤ 88) ∨ (99 ≤ a ∧ a ≤ 113)) → I' a = I a ∧ J' a = J a) ∧ I' 0 4 = I 0 4 ∧ n33 I I'
theorem cU.rf {I : qI} {J : qJ} : cU I I J J := ⟨fun _ _ => ⟨rfl, rfl⟩, rfl, n33.rf⟩
theorem cU.mk {I I' : qI} {J J' : qJ} (h1 : ∀ a, (a = 0 ∨ (6 ≤ a ∧ a ≤ 32) ∨ (60 ≤ a ∧ a ≤ 88) ∨ (99 ≤ a ∧ a ≤ 113)) → I' a = I a) (h2 : ∀ a, (a = 0 ∨ (6 ≤ a ∧ a ≤ 32) ∨ (60 ≤ a ∧ a ≤ 88) ∨ (99 ≤ a ∧ a ≤ 113)) → J' a = J a) (h3 : I' 0 4 = I 0 4) (h4 : n33 I I') : cU I I' J J' := ⟨fun a ha => ⟨h1 a ha, h2 a ha⟩, h3, h4⟩
theorem cU.qpr {I I' : qI} {J J' : qJ} {w0 : Nat} (e : qW1 w0) (fr : qFr (qPr w0) I I') (fj : ∀ a, a ≠ 94 → J' a = J a) : cU I I' J J' := by
  unfold qW1 at e
  refine cU.mk (fun a ha => fr a ?_) (fun a ha => fj a (by omega)) (congrFun (fr 0 ?_) 4) (fun p hp => by rw [fr (qm 33 p) (by unfold qPr qm; omega)]) <;> (unfold qPr; omega)
theorem cU.ap {I I' : qI} {J J' : qJ} {w0 : Nat} (e : qW1 w0) (fr : qFr (aP w0) I I') (fj : J = J') (fn : n33 I I') : cU I I' J J' := by
  subst fj
  unfold qW1 at e
  refine cU.mk (fun a ha => fr a ?_) (fun a ha => rfl) (congrFun (fr 0 ?_) 4) fn <;> (unfold aP; omega)
theorem qMet.px {E : qE} {y : MethodName} {cc : ByteArray} {nL : Nat} {ret : Option FieldType} {d mc ms : Nat} {av : List Value} {S : qSh} {I : qI} {J : qJ} {Q Q' P : qPost} (h : qMet E y cc nL ret d mc ms av S I J Q) (hv : ∀ v S' I' J', Q v S' I' J' → P v S' I' J') (hk : ∀ v S' I' J', Q v S' I' J' → Q' v S' I' J') : qMet E y cc nL ret d mc ms av S I J (fun v S' I' J' => P v S' I' J' ∧ Q' v S' I' J') := h.post (fun v S' I' J' hq => ⟨hv v S' I' J' hq, hk v S' I' J' hq⟩)
theorem cINV.w4 {S : qSh} {I : qI} {J : qJ} {w0 w1 w2 bl : Nat} (h : cINV S I J w0 w1 w2 bl) : w0 + 4 < qN S := by
  obtain ⟨a1, a2, a3, a4, a5, a6, a7, a8, a9, a10, b0, b1, -⟩ := h.1
  exact b1.is.2.2.2.2.1.1
theorem cINV.new {S : qSh} {I I' : qI} {J J' : qJ} {w0 w1 w2 bl : Nat} (h : cINV S I J w0 w1 w2 bl) (hd : cDat I' w0 w2) (hf : ∀ a, qN S ≤ a → I' a = I a) (hj : ∀ a, 114 ≤ a → J' a = J a) : cINV S I' J' w0 w1 w2 bl := ⟨h.1, h.2.1.fr (fun a ha => ⟨hf a ha, hj a (by have := h.2.2.1; omega)⟩), h.2.2.1, h.2.2.2.1, hd⟩
section H11
variable {E : qE} {S : qSh} {I : qI} {J : qJ} {w0 w1 w2 bl : Nat}
theorem K_count {x : Int32} (h : cINV S I J w0 w1 w2 bl) : qMet E y_On_count b_On_count 2 (some .int) 0 0 0 [.ref (qb E + 0), .int x] S I J (fun u S' I' J' => ((u = some (.int (ca_count I x)) ∧ cU I I' J J') ∧ cW S S' I I') ∧ KQ0 S I J (cT I) u S' I' J') := by
  have h0 := h
  have hw4 := h.w4
  obtain ⟨hO, hZ, hN, ⟨e0, e1, e2, eb, s0, s2, s3⟩, hd⟩ := h
  obtain ⟨hok, hI0, hI2, hah, him, hig, hrd, hts, hh⟩ := id hd
  obtain ⟨c, hc6, hc⟩ := hok.1
  obtain ⟨l, hl6, hl⟩ := hok.2.1
  obtain ⟨d, hd9, hdd⟩ := hok.2.2.1
  obtain ⟨z1, y1, x1⟩ := hok.2.2.2.1
  obtain ⟨z2, y2, x2⟩ := hok.2.2.2.2.1
  obtain ⟨z3, y3, x3⟩ := hok.2.2.2.2.2.1
  refine (c_On_count hO).px (fun u S' I' J' hq => ⟨(by obtain ⟨h, -, rfl, rfl⟩ := hq; exact ⟨h, cU.rf⟩), (by obtain ⟨-, rfl, rfl, -⟩ := hq; exact cW.rf)⟩) (fun v S' I' J' hq => ?_)
  obtain ⟨-, rfl, rfl, rfl⟩ := hq
  exact ⟨⟨_, _, _, _, h0⟩, id, fun _ _ _ => ⟨rfl, rfl⟩, rfl, rfl, rfl⟩
theorem K_trace {x : Int32} (h : cINV S I J w0 w1 w2 bl) : qMet E y_On_trace b_On_trace 2 (some .int) 1 0 0 [.ref (qb E + 0), .int x] S I J (fun u S' I' J' => ((u = some (.int (ca_trace I x)) ∧ cU I I' J J') ∧ cW S S' I I') ∧ KQ0 S I J (cT I) u S' I' J') := by
  have h0 := h
  have hw4 := h.w4
  obtain ⟨hO, hZ, hN, ⟨e0, e1, e2, eb, s0, s2, s3⟩, hd⟩ := h
  obtain ⟨hok, hI0, hI2, hah, him, hig, hrd, hts, hh⟩ := id hd
  obtain ⟨c, hc6, hc⟩ := hok.1
  obtain ⟨l, hl6, hl⟩ := hok.2.1
  obtain ⟨d, hd9, hdd⟩ := hok.2.2.1
  obtain ⟨z1, y1, x1⟩ := hok.2.2.2.1
  obtain ⟨z2, y2, x2⟩ := hok.2.2.2.2.1
  obtain ⟨z3, y3, x3⟩ := hok.2.2.2.2.2.1
  refine (c_On_trace hO).px (fun u S' I' J' hq => ⟨(by obtain ⟨h, -, rfl, rfl⟩ := hq; exact ⟨h, cU.rf⟩), (by obtain ⟨-, rfl, rfl, -⟩ := hq; exact cW.rf)⟩) (fun v S' I' J' hq => ?_)
  obtain ⟨-, rfl, rfl, rfl⟩ := hq
  exact ⟨⟨_, _, _, _, h0⟩, id, fun _ _ _ => ⟨rfl, rfl⟩, rfl, rfl, rfl⟩
theorem K_read {tp i : Int32} (h : cINV S I J w0 w1 w2 bl) : qMet E y_On_read b_On_read 3 (some .long) 2 0 0 [.ref (qb E + 0), .int tp, .int i] S I J (fun u S' I' J' => ((u = some (.long (ca_read I J tp i)) ∧ cU I I' J J') ∧ cW S S' I I') ∧ KQ0 S I J (cT I) u S' I' J') := by
  have h0 := h
  have hw4 := h.w4
  obtain ⟨hO, hZ, hN, ⟨e0, e1, e2, eb, s0, s2, s3⟩, hd⟩ := h
  obtain ⟨hok, hI0, hI2, hah, him, hig, hrd, hts, hh⟩ := id hd
  obtain ⟨c, hc6, hc⟩ := hok.1
  obtain ⟨l, hl6, hl⟩ := hok.2.1
  obtain ⟨d, hd9, hdd⟩ := hok.2.2.1
  obtain ⟨z1, y1, x1⟩ := hok.2.2.2.1
  obtain ⟨z2, y2, x2⟩ := hok.2.2.2.2.1
  obtain ⟨z3, y3, x3⟩ := hok.2.2.2.2.2.1
  refine (c_On_read hO hts).px (fun u S' I' J' hq => ⟨(by obtain ⟨h, -, rfl, rfl⟩ := hq; exact ⟨h, cU.rf⟩), (by obtain ⟨-, rfl, rfl, -⟩ := hq; exact cW.rf)⟩) (fun v S' I' J' hq => ?_)
  obtain ⟨-, rfl, rfl, rfl⟩ := hq
  exact ⟨⟨_, _, _, _, h0⟩, id, fun _ _ _ => ⟨rfl, rfl⟩, rfl, rfl, rfl⟩
theorem K_taken {x k : Int32} (h : cINV S I J w0 w1 w2 bl) : qMet E y_On_taken b_On_taken 6 (some .int) 2 0 0 [.ref (qb E + 0), .int x, .int k] S I J (fun u S' I' J' => ((∃ c, c ≤ 6 ∧ I 6 1 = nI c ∧ u = some (.int (ca_taken I c x k)) ∧ cU I I' J J') ∧ cW S S' I I') ∧ KQ0 S I J (cT I) u S' I' J') := by
  have h0 := h
  have hw4 := h.w4
  obtain ⟨hO, hZ, hN, ⟨e0, e1, e2, eb, s0, s2, s3⟩, hd⟩ := h
  obtain ⟨hok, hI0, hI2, hah, him, hig, hrd, hts, hh⟩ := id hd
  obtain ⟨c, hc6, hc⟩ := hok.1
  obtain ⟨l, hl6, hl⟩ := hok.2.1
  obtain ⟨d, hd9, hdd⟩ := hok.2.2.1
  obtain ⟨z1, y1, x1⟩ := hok.2.2.2.1
  obtain ⟨z2, y2, x2⟩ := hok.2.2.2.2.1
  obtain ⟨z3, y3, x3⟩ := hok.2.2.2.2.2.1
  refine (c_On_takenX hO hc hc6).px (fun u S' I' J' hq => ⟨(by obtain ⟨h, -, rfl, rfl⟩ := hq; exact ⟨c, hc6, hc, h, cU.rf⟩), (by obtain ⟨-, rfl, rfl, -⟩ := hq; exact cW.rf)⟩) (fun v S' I' J' hq => ?_)
  obtain ⟨-, rfl, rfl, rfl⟩ := hq
  exact ⟨⟨_, _, _, _, h0⟩, id, fun _ _ _ => ⟨rfl, rfl⟩, rfl, rfl, rfl⟩
theorem K_looked  (h : cINV S I J w0 w1 w2 bl) : qMet E y_On_looked b_On_looked 3 (some .int) 2 0 0 [.ref (qb E + 0)] S I J (fun u S' I' J' => ((VI u ∧ cU I I' J J') ∧ cW S S' I I') ∧ KQ0 S I J (cT I) u S' I' J') := by
  have h0 := h
  have hw4 := h.w4
  obtain ⟨hO, hZ, hN, ⟨e0, e1, e2, eb, s0, s2, s3⟩, hd⟩ := h
  obtain ⟨hok, hI0, hI2, hah, him, hig, hrd, hts, hh⟩ := id hd
  obtain ⟨c, hc6, hc⟩ := hok.1
  obtain ⟨l, hl6, hl⟩ := hok.2.1
  obtain ⟨d, hd9, hdd⟩ := hok.2.2.1
  obtain ⟨z1, y1, x1⟩ := hok.2.2.2.1
  obtain ⟨z2, y2, x2⟩ := hok.2.2.2.2.1
  obtain ⟨z3, y3, x3⟩ := hok.2.2.2.2.2.1
  refine (c_On_looked hO hc hc6 x3 y3).px (fun u S' I' J' hq => ⟨(by obtain ⟨h, -, rfl, rfl⟩ := hq; exact ⟨h, cU.rf⟩), (by obtain ⟨-, rfl, rfl, -⟩ := hq; exact cW.rf)⟩) (fun v S' I' J' hq => ?_)
  obtain ⟨-, rfl, rfl, rfl⟩ := hq
  exact ⟨⟨_, _, _, _, h0⟩, id, fun _ _ _ => ⟨rfl, rfl⟩, rfl, rfl, rfl⟩
theorem K_judge {tp i : Int32} (h : cINV S I J w0 w1 w2 bl) : qMet E y_On_judge b_On_judge 5 (some .int) 2 0 0 [.ref (qb E + 0), .int tp, .int i] S I J (fun u S' I' J' => ((VI u ∧ cU I I' J J') ∧ cW S S' I I') ∧ KQ0 S I J (cT I) u S' I' J') := by
  have h0 := h
  have hw4 := h.w4
  obtain ⟨hO, hZ, hN, ⟨e0, e1, e2, eb, s0, s2, s3⟩, hd⟩ := h
  obtain ⟨hok, hI0, hI2, hah, him, hig, hrd, hts, hh⟩ := id hd
  obtain ⟨c, hc6, hc⟩ := hok.1
  obtain ⟨l, hl6, hl⟩ := hok.2.1
  obtain ⟨d, hd9, hdd⟩ := hok.2.2.1
  obtain ⟨z1, y1, x1⟩ := hok.2.2.2.1
  obtain ⟨z2, y2, x2⟩ := hok.2.2.2.2.1
  obtain ⟨z3, y3, x3⟩ := hok.2.2.2.2.2.1
  refine (c_On_judge hO hc hc6 hts).px (fun u S' I' J' hq => ⟨(by obtain ⟨h, -, rfl, rfl⟩ := hq; exact ⟨h, cU.rf⟩), (by obtain ⟨-, rfl, rfl, -⟩ := hq; exact cW.rf)⟩) (fun v S' I' J' hq => ?_)
  obtain ⟨-, rfl, rfl, rfl⟩ := hq
  exact ⟨⟨_, _, _, _, h0⟩, id, fun _ _ _ => ⟨rfl, rfl⟩, rfl, rfl, rfl⟩
theorem K_told {x : Int32} (h : cINV S I J w0 w1 w2 bl) : qMet E y_On_told b_On_told 2 (some .int) 6 0 0 [.ref (qb E + 0), .int x] S I J (fun u S' I' J' => ((VI u ∧ cU I I' J J') ∧ cW S S' I I') ∧ KQ0 S I J (cT I) u S' I' J') := by
  have h0 := h
  have hw4 := h.w4
  obtain ⟨hO, hZ, hN, ⟨e0, e1, e2, eb, s0, s2, s3⟩, hd⟩ := h
  obtain ⟨hok, hI0, hI2, hah, him, hig, hrd, hts, hh⟩ := id hd
  obtain ⟨c, hc6, hc⟩ := hok.1
  obtain ⟨l, hl6, hl⟩ := hok.2.1
  obtain ⟨d, hd9, hdd⟩ := hok.2.2.1
  obtain ⟨z1, y1, x1⟩ := hok.2.2.2.1
  obtain ⟨z2, y2, x2⟩ := hok.2.2.2.2.1
  obtain ⟨z3, y3, x3⟩ := hok.2.2.2.2.2.1
  refine (c_On_told hO e0 hok hI0 hc hc6 hl hl6).px (fun u S' I' J' hq => ⟨⟨hq.1, cU.qpr e0 hq.2.2.1 hq.2.2.2⟩, cW.qpr hO e0 e2 s3 hq.2.1 hq.2.2.1⟩) (fun v S' I' J' hq => ?_)
  obtain ⟨-, rfl, fr, fj⟩ := hq
  unfold qW1 at e0 e2
  refine ⟨⟨_, _, _, _, h0.new (hd.fr (fun a ha => fr a ?_) e0 e2) (fun a ha => fr a ?_) (fun a ha => fj a (by omega))⟩, id, fun a a1 a2 => ⟨fr a ?_, fj a (by omega)⟩, congrFun (fr 6 ?_) 1, congrFun (fr 0 ?_) 4, congrFun (fr 60 ?_) 1⟩
  · unfold cR at ha; unfold qPr; omega
  all_goals (unfold qPr; omega)
theorem K_best {x k : Int32} (h : cINV S I J w0 w1 w2 bl) : qMet E y_On_best b_On_best 3 (some .int) 6 0 0 [.ref (qb E + 0), .int x, .int k] S I J (fun u S' I' J' => ((VI u ∧ cU I I' J J') ∧ cW S S' I I') ∧ KQ0 S I J (cT I) u S' I' J') := by
  have h0 := h
  have hw4 := h.w4
  obtain ⟨hO, hZ, hN, ⟨e0, e1, e2, eb, s0, s2, s3⟩, hd⟩ := h
  obtain ⟨hok, hI0, hI2, hah, him, hig, hrd, hts, hh⟩ := id hd
  obtain ⟨c, hc6, hc⟩ := hok.1
  obtain ⟨l, hl6, hl⟩ := hok.2.1
  obtain ⟨d, hd9, hdd⟩ := hok.2.2.1
  obtain ⟨z1, y1, x1⟩ := hok.2.2.2.1
  obtain ⟨z2, y2, x2⟩ := hok.2.2.2.2.1
  obtain ⟨z3, y3, x3⟩ := hok.2.2.2.2.2.1
  refine (c_On_best hO e0 hok hI0 hc hc6).px (fun u S' I' J' hq => ⟨⟨hq.1, cU.qpr e0 hq.2.2.1 hq.2.2.2⟩, cW.qpr hO e0 e2 s3 hq.2.1 hq.2.2.1⟩) (fun v S' I' J' hq => ?_)
  obtain ⟨-, rfl, fr, fj⟩ := hq
  unfold qW1 at e0 e2
  refine ⟨⟨_, _, _, _, h0.new (hd.fr (fun a ha => fr a ?_) e0 e2) (fun a ha => fr a ?_) (fun a ha => fj a (by omega))⟩, id, fun a a1 a2 => ⟨fr a ?_, fj a (by omega)⟩, congrFun (fr 6 ?_) 1, congrFun (fr 0 ?_) 4, congrFun (fr 60 ?_) 1⟩
  · unfold cR at ha; unfold qPr; omega
  all_goals (unfold qPr; omega)
theorem K_odds {q p : Int32} (h : cINV S I J w0 w1 w2 bl) : qMet E y_On_odds b_On_odds 3 (some .long) 6 0 0 [.ref (qb E + 0), .int q, .int p] S I J (fun u S' I' J' => ((VL u ∧ cU I I' J J') ∧ cW S S' I I') ∧ KQ0 S I J (cT I) u S' I' J') := by
  have h0 := h
  have hw4 := h.w4
  obtain ⟨hO, hZ, hN, ⟨e0, e1, e2, eb, s0, s2, s3⟩, hd⟩ := h
  obtain ⟨hok, hI0, hI2, hah, him, hig, hrd, hts, hh⟩ := id hd
  obtain ⟨c, hc6, hc⟩ := hok.1
  obtain ⟨l, hl6, hl⟩ := hok.2.1
  obtain ⟨d, hd9, hdd⟩ := hok.2.2.1
  obtain ⟨z1, y1, x1⟩ := hok.2.2.2.1
  obtain ⟨z2, y2, x2⟩ := hok.2.2.2.2.1
  obtain ⟨z3, y3, x3⟩ := hok.2.2.2.2.2.1
  refine (c_On_odds hO e0 hok hI0 hc hc6).px (fun u S' I' J' hq => ⟨⟨hq.1, cU.qpr e0 hq.2.2.1 hq.2.2.2⟩, cW.qpr hO e0 e2 s3 hq.2.1 hq.2.2.1⟩) (fun v S' I' J' hq => ?_)
  obtain ⟨-, rfl, fr, fj⟩ := hq
  unfold qW1 at e0 e2
  refine ⟨⟨_, _, _, _, h0.new (hd.fr (fun a ha => fr a ?_) e0 e2) (fun a ha => fr a ?_) (fun a ha => fj a (by omega))⟩, id, fun a a1 a2 => ⟨fr a ?_, fj a (by omega)⟩, congrFun (fr 6 ?_) 1, congrFun (fr 0 ?_) 4, congrFun (fr 60 ?_) 1⟩
  · unfold cR at ha; unfold qPr; omega
  all_goals (unfold qPr; omega)
theorem K_mean {p : Int32} (h : cINV S I J w0 w1 w2 bl) : qMet E y_On_mean b_On_mean 2 (some .long) 6 0 0 [.ref (qb E + 0), .int p] S I J (fun u S' I' J' => ((VL u ∧ cU I I' J J') ∧ cW S S' I I') ∧ KQ0 S I J (cT I) u S' I' J') := by
  have h0 := h
  have hw4 := h.w4
  obtain ⟨hO, hZ, hN, ⟨e0, e1, e2, eb, s0, s2, s3⟩, hd⟩ := h
  obtain ⟨hok, hI0, hI2, hah, him, hig, hrd, hts, hh⟩ := id hd
  obtain ⟨c, hc6, hc⟩ := hok.1
  obtain ⟨l, hl6, hl⟩ := hok.2.1
  obtain ⟨d, hd9, hdd⟩ := hok.2.2.1
  obtain ⟨z1, y1, x1⟩ := hok.2.2.2.1
  obtain ⟨z2, y2, x2⟩ := hok.2.2.2.2.1
  obtain ⟨z3, y3, x3⟩ := hok.2.2.2.2.2.1
  refine (c_On_mean hO e0 hok hI0 hc hc6).px (fun u S' I' J' hq => ⟨⟨hq.1, cU.qpr e0 hq.2.2.1 hq.2.2.2⟩, cW.qpr hO e0 e2 s3 hq.2.1 hq.2.2.1⟩) (fun v S' I' J' hq => ?_)
  obtain ⟨-, rfl, fr, fj⟩ := hq
  unfold qW1 at e0 e2
  refine ⟨⟨_, _, _, _, h0.new (hd.fr (fun a ha => fr a ?_) e0 e2) (fun a ha => fr a ?_) (fun a ha => fj a (by omega))⟩, id, fun a a1 a2 => ⟨fr a ?_, fj a (by omega)⟩, congrFun (fr 6 ?_) 1, congrFun (fr 0 ?_) 4, congrFun (fr 60 ?_) 1⟩
  · unfold cR at ha; unfold qPr; omega
  all_goals (unfold qPr; omega)
theorem K_of {x w : Int32} (h : cINV S I J w0 w1 w2 bl) : qMet E y_On_of b_On_of 4 (some .int) 4 0 0 [.ref (qb E + 0), .int x, .int w] S I J (fun u S' I' J' => ((VI u ∧ cU I I' J J') ∧ cW S S' I I') ∧ KQ0 S I J (cT I) u S' I' J') := by
  have h0 := h
  have hw4 := h.w4
  obtain ⟨hO, hZ, hN, ⟨e0, e1, e2, eb, s0, s2, s3⟩, hd⟩ := h
  obtain ⟨hok, hI0, hI2, hah, him, hig, hrd, hts, hh⟩ := id hd
  obtain ⟨c, hc6, hc⟩ := hok.1
  obtain ⟨l, hl6, hl⟩ := hok.2.1
  obtain ⟨d, hd9, hdd⟩ := hok.2.2.1
  obtain ⟨z1, y1, x1⟩ := hok.2.2.2.1
  obtain ⟨z2, y2, x2⟩ := hok.2.2.2.2.1
  obtain ⟨z3, y3, x3⟩ := hok.2.2.2.2.2.1
  refine (c_On_of hO e0 hI0 hc hc6 hl hl6 hdd hd9).px (fun u S' I' J' hq => ⟨⟨hq.1, cU.qpr e0 hq.2.2.1 hq.2.2.2⟩, cW.qpr hO e0 e2 s3 hq.2.1 hq.2.2.1⟩) (fun v S' I' J' hq => ?_)
  obtain ⟨-, rfl, fr, fj⟩ := hq
  unfold qW1 at e0 e2
  refine ⟨⟨_, _, _, _, h0.new (hd.fr (fun a ha => fr a ?_) e0 e2) (fun a ha => fr a ?_) (fun a ha => fj a (by omega))⟩, id, fun a a1 a2 => ⟨fr a ?_, fj a (by omega)⟩, congrFun (fr 6 ?_) 1, congrFun (fr 0 ?_) 4, congrFun (fr 60 ?_) 1⟩
  · unfold cR at ha; unfold qPr; omega
  all_goals (unfold qPr; omega)
theorem K_ahd {v : Option Value} {S' : qSh} {I' : qI} {J' : qJ} (h : cINV S I J w0 w1 w2 bl) (hq : cAQ S I J w0 v S' I' J') : KQ0 S I J (cT I) v S' I' J' := by
  have h0 := h
  have hw4 := h.w4
  obtain ⟨hO, hZ, hN, ⟨e0, e1, e2, eb, s0, s2, s3⟩, hd⟩ := h
  obtain ⟨hok, hI0, hI2, hah, him, hig, hrd, hts, hh⟩ := id hd
  obtain ⟨c, hc6, hc⟩ := hok.1
  obtain ⟨l, hl6, hl⟩ := hok.2.1
  obtain ⟨d, hd9, hdd⟩ := hok.2.2.1
  obtain ⟨z1, y1, x1⟩ := hok.2.2.2.1
  obtain ⟨z2, y2, x2⟩ := hok.2.2.2.2.1
  obtain ⟨z3, y3, x3⟩ := hok.2.2.2.2.2.1
  obtain ⟨-, hS, fr, ah, rfl⟩ := hq
  have e0' := e0
  have e2' := e2
  unfold qW1 at e0' e2'
  have dat : cDat I' w0 w2 := hd.ah ah (fun a ha h3 => fr a (by unfold cR at ha; unfold aP; omega)) e0 e2
  refine ⟨?_, ?_, fun a a1 a2 => ⟨fr a (by unfold aP; omega), rfl⟩, congrFun (fr 6 (by unfold aP; omega)) 1, congrFun (fr 0 (by unfold aP; omega)) 4, congrFun (fr 60 (by unfold aP; omega)) 1⟩
  · have z := h0.new dat (J' := J) (fun a ha => fr a (by unfold aP; omega)) (fun _ _ => rfl)
    rcases hS with rfl | rfl
    · exact ⟨_, _, _, _, z⟩
    · exact ⟨w0, w0, w2, bl, z.1.set33 (by obtain ⟨a1, a2, a3, a4, a5, a6, a7, a8, a9, a10, b0, b1, -⟩ := hO; exact b1.is), z.2.1, z.2.2.1, ⟨e0, e0, e2, eb, s0, s2, s3⟩, dat⟩
  · intro hM
    rcases hS with rfl | rfl
    · exact hM
    · exact ⟨hM.1, fun t ht => ⟨(show qup (qR S) 33 5 (some w0) 114 t.1 = some t.2.1 from (qup_o (by decide)).trans (hM.2 t ht).1), (hM.2 t ht).2⟩⟩
theorem K_on {n x : Int32} (h : cINV S I J w0 w1 w2 bl) : qMet E y_On_on b_On_on 4 (some .int) 5 0 0 [.ref (qb E + 0), .int n, .int x] S I J (fun u S' I' J' => (((∃ c w0, c ≤ 6 ∧ I 6 1 = nI c ∧ qR S 6 5 = some w0 ∧ u = some (.int (ca_on I w0 c n x))) ∧ cU I I' J J') ∧ cW S S' I I') ∧ KQ0 S I J (cT I) u S' I' J') := by
  have h0 := h
  have hw4 := h.w4
  obtain ⟨hO, hZ, hN, ⟨e0, e1, e2, eb, s0, s2, s3⟩, hd⟩ := h
  obtain ⟨hok, hI0, hI2, hah, him, hig, hrd, hts, hh⟩ := id hd
  obtain ⟨c, hc6, hc⟩ := hok.1
  obtain ⟨l, hl6, hl⟩ := hok.2.1
  obtain ⟨d, hd9, hdd⟩ := hok.2.2.1
  obtain ⟨z1, y1, x1⟩ := hok.2.2.2.1
  obtain ⟨z2, y2, x2⟩ := hok.2.2.2.2.1
  obtain ⟨z3, y3, x3⟩ := hok.2.2.2.2.2.1
  refine (c_On_onX hO e0 hok hI0 hah hc hc6).px (fun u S' I' J' hq => ⟨⟨⟨c, w0, hc6, hc, hO.p6.1, hq.1⟩, cU.ap e0 hq.2.2.1 hq.2.2.2.2.1 hq.2.2.2.2.2⟩, cW.ap hO e0 e2 s3 hq.2.1 hq.2.2.1⟩) (fun v S' I' J' hq => ?_)
  exact K_ahd h0 ⟨⟨_, hq.1⟩, hq.2.1, hq.2.2.1, hq.2.2.2.1, hq.2.2.2.2.1⟩
theorem K_turn {x : Int32} (h : cINV S I J w0 w1 w2 bl) : qMet E y_On_turn b_On_turn 3 (some .int) 5 0 0 [.ref (qb E + 0), .int x] S I J (fun u S' I' J' => (((∃ c w0, c ≤ 6 ∧ I 6 1 = nI c ∧ qR S 6 5 = some w0 ∧ u = some (.int (ca_turn I w0 c x))) ∧ cU I I' J J') ∧ cW S S' I I') ∧ KQ0 S I J (cT I) u S' I' J') := by
  have h0 := h
  have hw4 := h.w4
  obtain ⟨hO, hZ, hN, ⟨e0, e1, e2, eb, s0, s2, s3⟩, hd⟩ := h
  obtain ⟨hok, hI0, hI2, hah, him, hig, hrd, hts, hh⟩ := id hd
  obtain ⟨c, hc6, hc⟩ := hok.1
  obtain ⟨l, hl6, hl⟩ := hok.2.1
  obtain ⟨d, hd9, hdd⟩ := hok.2.2.1
  obtain ⟨z1, y1, x1⟩ := hok.2.2.2.1
  obtain ⟨z2, y2, x2⟩ := hok.2.2.2.2.1
  obtain ⟨z3, y3, x3⟩ := hok.2.2.2.2.2.1
  refine (c_On_turnX hO e0 hok hI0 hah hc hc6).px (fun u S' I' J' hq => ⟨⟨⟨c, w0, hc6, hc, hO.p6.1, hq.1⟩, cU.ap e0 hq.2.2.1 hq.2.2.2.2.1 hq.2.2.2.2.2⟩, cW.ap hO e0 e2 s3 hq.2.1 hq.2.2.1⟩) (fun v S' I' J' hq => ?_)
  exact K_ahd h0 ⟨⟨_, hq.1⟩, hq.2.1, hq.2.2.1, hq.2.2.2.1, hq.2.2.2.2.1⟩
theorem K_empty  (h : cINV S I J w0 w1 w2 bl) : qMet E y_On_empty b_On_empty 2 (some .int) 5 0 0 [.ref (qb E + 0)] S I J (fun u S' I' J' => (((∃ c w0, c ≤ 6 ∧ I 6 1 = nI c ∧ qR S 6 5 = some w0 ∧ u = some (.int (ca_empty I w0))) ∧ cU I I' J J') ∧ cW S S' I I') ∧ KQ0 S I J (cT I) u S' I' J') := by
  have h0 := h
  have hw4 := h.w4
  obtain ⟨hO, hZ, hN, ⟨e0, e1, e2, eb, s0, s2, s3⟩, hd⟩ := h
  obtain ⟨hok, hI0, hI2, hah, him, hig, hrd, hts, hh⟩ := id hd
  obtain ⟨c, hc6, hc⟩ := hok.1
  obtain ⟨l, hl6, hl⟩ := hok.2.1
  obtain ⟨d, hd9, hdd⟩ := hok.2.2.1
  obtain ⟨z1, y1, x1⟩ := hok.2.2.2.1
  obtain ⟨z2, y2, x2⟩ := hok.2.2.2.2.1
  obtain ⟨z3, y3, x3⟩ := hok.2.2.2.2.2.1
  refine (c_On_emptyX hO e0 hok hI0 hah).px (fun u S' I' J' hq => ⟨⟨⟨c, w0, hc6, hc, hO.p6.1, hq.1⟩, cU.ap e0 hq.2.2.1 hq.2.2.2.2.1 hq.2.2.2.2.2⟩, cW.ap hO e0 e2 s3 hq.2.1 hq.2.2.1⟩) (fun v S' I' J' hq => ?_)
  exact K_ahd h0 ⟨⟨_, hq.1⟩, hq.2.1, hq.2.2.1, hq.2.2.2.1, hq.2.2.2.2.1⟩
theorem K_ends {x : Int32} (h : cINV S I J w0 w1 w2 bl) : qMet E y_On_ends b_On_ends 2 (some .int) 6 0 0 [.ref (qb E + 0), .int x] S I J (fun u S' I' J' => (((∃ c w0, c ≤ 6 ∧ I 6 1 = nI c ∧ qR S 6 5 = some w0 ∧ u = some (.int (ca_ends I w0 x))) ∧ cU I I' J J') ∧ cW S S' I I') ∧ KQ0 S I J (cT I) u S' I' J') := by
  have h0 := h
  have hw4 := h.w4
  obtain ⟨hO, hZ, hN, ⟨e0, e1, e2, eb, s0, s2, s3⟩, hd⟩ := h
  obtain ⟨hok, hI0, hI2, hah, him, hig, hrd, hts, hh⟩ := id hd
  obtain ⟨c, hc6, hc⟩ := hok.1
  obtain ⟨l, hl6, hl⟩ := hok.2.1
  obtain ⟨d, hd9, hdd⟩ := hok.2.2.1
  obtain ⟨z1, y1, x1⟩ := hok.2.2.2.1
  obtain ⟨z2, y2, x2⟩ := hok.2.2.2.2.1
  obtain ⟨z3, y3, x3⟩ := hok.2.2.2.2.2.1
  refine (c_On_endsX hO e0 hok hI0 hah).px (fun u S' I' J' hq => ⟨⟨⟨c, w0, hc6, hc, hO.p6.1, hq.1⟩, cU.ap e0 hq.2.2.1 hq.2.2.2.2.1 hq.2.2.2.2.2⟩, cW.ap hO e0 e2 s3 hq.2.1 hq.2.2.1⟩) (fun v S' I' J' hq => ?_)
  exact K_ahd h0 ⟨⟨_, hq.1⟩, hq.2.1, hq.2.2.1, hq.2.2.2.1, hq.2.2.2.2.1⟩
theorem K_can {x w z : Int32} (h : cINV S I J w0 w1 w2 bl) : qMet E y_On_can b_On_can 9 (some .int) 5 0 0 [.ref (qb E + 0), .int x, .int w, .int z] S I J (fun u S' I' J' => (((∃ c w0, c ≤ 6 ∧ I 6 1 = nI c ∧ qR S 6 5 = some w0 ∧ u = some (.int (ca_can I w0 c x w z))) ∧ cU I I' J J') ∧ cW S S' I I') ∧ KQ0 S I J (cT I) u S' I' J') := by
  have h0 := h
  have hw4 := h.w4
  obtain ⟨hO, hZ, hN, ⟨e0, e1, e2, eb, s0, s2, s3⟩, hd⟩ := h
  obtain ⟨hok, hI0, hI2, hah, him, hig, hrd, hts, hh⟩ := id hd
  obtain ⟨c, hc6, hc⟩ := hok.1
  obtain ⟨l, hl6, hl⟩ := hok.2.1
  obtain ⟨d, hd9, hdd⟩ := hok.2.2.1
  obtain ⟨z1, y1, x1⟩ := hok.2.2.2.1
  obtain ⟨z2, y2, x2⟩ := hok.2.2.2.2.1
  obtain ⟨z3, y3, x3⟩ := hok.2.2.2.2.2.1
  refine (c_On_canX hO e0 hok hI0 hah hc hc6).px (fun u S' I' J' hq => ⟨⟨⟨c, w0, hc6, hc, hO.p6.1, hq.1⟩, cU.ap e0 hq.2.2.1 hq.2.2.2.2.1 hq.2.2.2.2.2⟩, cW.ap hO e0 e2 s3 hq.2.1 hq.2.2.1⟩) (fun v S' I' J' hq => ?_)
  exact K_ahd h0 ⟨⟨_, hq.1⟩, hq.2.1, hq.2.2.1, hq.2.2.2.1, hq.2.2.2.2.1⟩
theorem tc_set {c : Nat} {p x n : Int32} : ci_set I c p x n 6 1 = I 6 1 := by
  unfold ci_set
  (repeat' split) <;> first | rfl | rw [qup_o (by unfold qm; omega)]
theorem tc_done {c : Nat} {p b : Int32} : ci_done I c p b 6 1 = I 6 1 := by
  unfold ci_done
  (repeat' split) <;> first | rfl | rw [qup_o (by unfold qm; omega)]
theorem tc_row {c : Nat} {p r n : Int32} : ci_row I c p r n 6 1 = I 6 1 := by
  unfold ci_row
  (repeat' split) <;> first | rfl | rw [qup_o (by unfold qm; omega)]
theorem K_set {p x n : Int32} (h : cINV S I J w0 w1 w2 bl) : qMet E y_On_set b_On_set 7 (some .int) 2 0 0 [.ref (qb E + 0), .int p, .int x, .int n] S I J (fun u S' I' J' => ((∃ c, c ≤ 6 ∧ I 6 1 = nI c ∧ u = some (.int (ca_set I c p x n)) ∧ I' = ci_set I c p x n ∧ J' = J) ∧ cW S S' I I') ∧ KQ0 S I J (cT I) u S' I' J') := by
  have h0 := h
  have hw4 := h.w4
  obtain ⟨hO, hZ, hN, ⟨e0, e1, e2, eb, s0, s2, s3⟩, hd⟩ := h
  obtain ⟨hok, hI0, hI2, hah, him, hig, hrd, hts, hh⟩ := id hd
  obtain ⟨c, hc6, hc⟩ := hok.1
  obtain ⟨l, hl6, hl⟩ := hok.2.1
  obtain ⟨d, hd9, hdd⟩ := hok.2.2.1
  obtain ⟨z1, y1, x1⟩ := hok.2.2.2.1
  obtain ⟨z2, y2, x2⟩ := hok.2.2.2.2.1
  obtain ⟨z3, y3, x3⟩ := hok.2.2.2.2.2.1
  refine (c_On_set hO hc hc6).px (fun u S' I' J' hq => ⟨⟨c, hc6, hc, hq.1, hq.2.2.1, hq.2.2.2.symm⟩, cW.of hO e0 e2 hq.2.1 (fun a ha => by rw [hq.2.2.1]; exact ci_set_fr hc6 (by omega))⟩) (fun v S' I' J' hq => ?_)
  obtain ⟨-, rfl, hI', rfl⟩ := hq
  have ok := ok_set (I := I) (c := c) (p := p) (x := x) (n := n) hok hc6
  rw [← hI'] at ok
  have e0' := e0
  have e2' := e2
  unfold qW1 at e0' e2'
  have fr : ∀ a, (a < 6 ∨ 32 < a) → I' a = I a := fun a ha => ok.2 a ha
  exact ⟨⟨_, _, _, _, h0.new (hd.on6 ok.1 (fun a _ h3 => fr a h3) e0 e2) (fun a ha => fr a (by omega)) (fun _ _ => rfl)⟩, id, fun a a1 a2 => ⟨fr a (by omega), rfl⟩, hI' ▸ tc_set, congrFun (fr 0 (by omega)) 4, congrFun (fr 60 (by omega)) 1⟩
theorem K_done {p b : Int32} (h : cINV S I J w0 w1 w2 bl) (hb : qbool b) : qMet E y_On_done b_On_done 4 (some .int) 2 0 0 [.ref (qb E + 0), .int p, .int b] S I J (fun u S' I' J' => ((∃ c, c ≤ 6 ∧ I 6 1 = nI c ∧ u = some (.int (ca_done I c p)) ∧ I' = ci_done I c p b ∧ J' = J) ∧ cW S S' I I') ∧ KQ0 S I J (cT I) u S' I' J') := by
  have h0 := h
  have hw4 := h.w4
  obtain ⟨hO, hZ, hN, ⟨e0, e1, e2, eb, s0, s2, s3⟩, hd⟩ := h
  obtain ⟨hok, hI0, hI2, hah, him, hig, hrd, hts, hh⟩ := id hd
  obtain ⟨c, hc6, hc⟩ := hok.1
  obtain ⟨l, hl6, hl⟩ := hok.2.1
  obtain ⟨d, hd9, hdd⟩ := hok.2.2.1
  obtain ⟨z1, y1, x1⟩ := hok.2.2.2.1
  obtain ⟨z2, y2, x2⟩ := hok.2.2.2.2.1
  obtain ⟨z3, y3, x3⟩ := hok.2.2.2.2.2.1
  refine (c_On_done hO hc hc6 hb).px (fun u S' I' J' hq => ⟨⟨c, hc6, hc, hq.1, hq.2.2.1, hq.2.2.2.symm⟩, cW.of hO e0 e2 hq.2.1 (fun a ha => by rw [hq.2.2.1]; exact ci_done_fr hc6 (by omega))⟩) (fun v S' I' J' hq => ?_)
  obtain ⟨-, rfl, hI', rfl⟩ := hq
  have ok := ok_done (I := I) (c := c) (p := p) (b := b) hok hc6 hb
  rw [← hI'] at ok
  have e0' := e0
  have e2' := e2
  unfold qW1 at e0' e2'
  have fr : ∀ a, (a < 6 ∨ 32 < a) → I' a = I a := fun a ha => ok.2 a ha
  exact ⟨⟨_, _, _, _, h0.new (hd.on6 ok.1 (fun a _ h3 => fr a h3) e0 e2) (fun a ha => fr a (by omega)) (fun _ _ => rfl)⟩, id, fun a a1 a2 => ⟨fr a (by omega), rfl⟩, hI' ▸ tc_done, congrFun (fr 0 (by omega)) 4, congrFun (fr 60 (by omega)) 1⟩
theorem K_row {p r n : Int32} (h : cINV S I J w0 w1 w2 bl) : qMet E y_On_row b_On_row 6 (some .int) 2 0 0 [.ref (qb E + 0), .int p, .int r, .int n] S I J (fun u S' I' J' => ((∃ c, c ≤ 6 ∧ I 6 1 = nI c ∧ u = some (.int (ca_row I c p r n)) ∧ I' = ci_row I c p r n ∧ J' = J) ∧ cW S S' I I') ∧ KQ0 S I J (cT I) u S' I' J') := by
  have h0 := h
  have hw4 := h.w4
  obtain ⟨hO, hZ, hN, ⟨e0, e1, e2, eb, s0, s2, s3⟩, hd⟩ := h
  obtain ⟨hok, hI0, hI2, hah, him, hig, hrd, hts, hh⟩ := id hd
  obtain ⟨c, hc6, hc⟩ := hok.1
  obtain ⟨l, hl6, hl⟩ := hok.2.1
  obtain ⟨d, hd9, hdd⟩ := hok.2.2.1
  obtain ⟨z1, y1, x1⟩ := hok.2.2.2.1
  obtain ⟨z2, y2, x2⟩ := hok.2.2.2.2.1
  obtain ⟨z3, y3, x3⟩ := hok.2.2.2.2.2.1
  refine (c_On_row hO hc hc6).px (fun u S' I' J' hq => ⟨⟨c, hc6, hc, hq.1, hq.2.2.1, hq.2.2.2.symm⟩, cW.of hO e0 e2 hq.2.1 (fun a ha => by rw [hq.2.2.1]; exact ci_row_fr hc6 (by omega))⟩) (fun v S' I' J' hq => ?_)
  obtain ⟨-, rfl, hI', rfl⟩ := hq
  have ok := ok_row (I := I) (c := c) (p := p) (r := r) (n := n) hok hc6
  rw [← hI'] at ok
  have e0' := e0
  have e2' := e2
  unfold qW1 at e0' e2'
  have fr : ∀ a, (a < 6 ∨ 32 < a) → I' a = I a := fun a ha => ok.2 a ha
  exact ⟨⟨_, _, _, _, h0.new (hd.on6 ok.1 (fun a _ h3 => fr a h3) e0 e2) (fun a ha => fr a (by omega)) (fun _ _ => rfl)⟩, id, fun a a1 a2 => ⟨fr a (by omega), rfl⟩, hI' ▸ tc_row, congrFun (fr 0 (by omega)) 4, congrFun (fr 60 (by omega)) 1⟩
theorem K_list {p : Int32} (h : cINV S I J w0 w1 w2 bl) : qMet E y_On_list b_On_list 2 (some .int) 2 0 0 [.ref (qb E + 0), .int p] S I J (fun u S' I' J' => ((∃ c l, c ≤ 6 ∧ I 6 1 = nI c ∧ l ≤ 6 ∧ I 6 3 = nI l ∧ u = some (.int (ca_list I c l p)) ∧ I' = ci_list I c l p ∧ J' = J) ∧ cW S S' I I') ∧ KQ0 S I J (cT I) u S' I' J') := by
  have h0 := h
  have hw4 := h.w4
  obtain ⟨hO, hZ, hN, ⟨e0, e1, e2, eb, s0, s2, s3⟩, hd⟩ := h
  obtain ⟨hok, hI0, hI2, hah, him, hig, hrd, hts, hh⟩ := id hd
  obtain ⟨c, hc6, hc⟩ := hok.1
  obtain ⟨l, hl6, hl⟩ := hok.2.1
  obtain ⟨d, hd9, hdd⟩ := hok.2.2.1
  obtain ⟨z1, y1, x1⟩ := hok.2.2.2.1
  obtain ⟨z2, y2, x2⟩ := hok.2.2.2.2.1
  obtain ⟨z3, y3, x3⟩ := hok.2.2.2.2.2.1
  refine (c_On_list hO hc hc6 hl hl6).px (fun u S' I' J' hq => ⟨⟨c, l, hc6, hc, hl6, hl, hq.1, hq.2.2.1, hq.2.2.2.symm⟩, cW.of hO e0 e2 hq.2.1 (fun a ha => by rw [hq.2.2.1]; exact ci_list_fr (by omega) (by omega))⟩) (fun v S' I' J' hq => ?_)
  obtain ⟨-, rfl, hI', rfl⟩ := hq
  have ok := ok_list (I := I) (c := c) (p := p) hok hl
  rw [← hI'] at ok
  have e0' := e0
  have e2' := e2
  unfold qW1 at e0' e2'
  have fr : ∀ a, (a < 6 ∨ 32 < a) → I' a = I a := fun a ha => ok.2.1 a ha
  exact ⟨⟨_, _, _, _, h0.new (hd.on6 ok.1 (fun a _ h3 => fr a h3) e0 e2) (fun a ha => fr a (by omega)) (fun _ _ => rfl)⟩, id, fun a a1 a2 => ⟨fr a (by omega), rfl⟩, ok.2.2 1 (by decide), congrFun (fr 0 (by omega)) 4, congrFun (fr 60 (by omega)) 1⟩
theorem K_swap {p q : Int32} (h : cINV S I J w0 w1 w2 bl) : qMet E y_On_swap b_On_swap 5 (some .int) 2 0 0 [.ref (qb E + 0), .int p, .int q] S I J (fun u S' I' J' => ((∃ c l, c ≤ 6 ∧ I 6 1 = nI c ∧ l ≤ 6 ∧ I 6 3 = nI l ∧ u = some (.int (ca_swap I c l p q)) ∧ I' = ci_swap I c l p q ∧ J' = J) ∧ cW S S' I I') ∧ KQ0 S I J (cT I) u S' I' J') := by
  have h0 := h
  have hw4 := h.w4
  obtain ⟨hO, hZ, hN, ⟨e0, e1, e2, eb, s0, s2, s3⟩, hd⟩ := h
  obtain ⟨hok, hI0, hI2, hah, him, hig, hrd, hts, hh⟩ := id hd
  obtain ⟨c, hc6, hc⟩ := hok.1
  obtain ⟨l, hl6, hl⟩ := hok.2.1
  obtain ⟨d, hd9, hdd⟩ := hok.2.2.1
  obtain ⟨z1, y1, x1⟩ := hok.2.2.2.1
  obtain ⟨z2, y2, x2⟩ := hok.2.2.2.2.1
  obtain ⟨z3, y3, x3⟩ := hok.2.2.2.2.2.1
  refine (c_On_swap hO hc hc6 hl hl6).px (fun u S' I' J' hq => ⟨⟨c, l, hc6, hc, hl6, hl, hq.1, hq.2.2.1, hq.2.2.2.symm⟩, cW.of hO e0 e2 hq.2.1 (fun a ha => by rw [hq.2.2.1]; exact ci_swap_fr (by omega))⟩) (fun v S' I' J' hq => ?_)
  obtain ⟨-, rfl, hI', rfl⟩ := hq
  have ok := ok_swap (I := I) (c := c) (l := l) (p := p) (q := q) hok
  rw [← hI'] at ok
  have e0' := e0
  have e2' := e2
  unfold qW1 at e0' e2'
  have fr : ∀ a, (a < 6 ∨ 32 < a) → I' a = I a := fun a ha => ok.2 a (by omega)
  exact ⟨⟨_, _, _, _, h0.new (hd.on6 ok.1 (fun a _ h3 => fr a h3) e0 e2) (fun a ha => fr a (by omega)) (fun _ _ => rfl)⟩, id, fun a a1 a2 => ⟨fr a (by omega), rfl⟩, congrFun (ok.2 6 (by decide)) 1, congrFun (fr 0 (by omega)) 4, congrFun (fr 60 (by omega)) 1⟩
theorem K_see {p x n : Int32} (h : cINV S I J w0 w1 w2 bl) : qMet E y_On_see b_On_see 4 (some .int) 2 0 0 [.ref (qb E + 0), .int p, .int x, .int n] S I J (fun u S' I' J' => ((∃ c z, c ≤ 6 ∧ I 6 1 = nI c ∧ z ≤ 5 ∧ I 9 3 = nI z ∧ u = some (.int (ca_see c z p x n)) ∧ I' = ci_see I c z p x n ∧ J' = J) ∧ cW S S' I I') ∧ KQ0 S I J (cT I) u S' I' J') := by
  have h0 := h
  have hw4 := h.w4
  obtain ⟨hO, hZ, hN, ⟨e0, e1, e2, eb, s0, s2, s3⟩, hd⟩ := h
  obtain ⟨hok, hI0, hI2, hah, him, hig, hrd, hts, hh⟩ := id hd
  obtain ⟨c, hc6, hc⟩ := hok.1
  obtain ⟨l, hl6, hl⟩ := hok.2.1
  obtain ⟨d, hd9, hdd⟩ := hok.2.2.1
  obtain ⟨z1, y1, x1⟩ := hok.2.2.2.1
  obtain ⟨z2, y2, x2⟩ := hok.2.2.2.2.1
  obtain ⟨z3, y3, x3⟩ := hok.2.2.2.2.2.1
  refine (c_On_see hO hc hc6 x1 y1).px (fun u S' I' J' hq => ⟨⟨c, z1, hc6, hc, y1, x1, hq.1, hq.2.2.1, hq.2.2.2.symm⟩, cW.of hO e0 e2 hq.2.1 (fun a ha => by rw [hq.2.2.1]; exact ci_see_fr (by omega))⟩) (fun v S' I' J' hq => ?_)
  obtain ⟨-, rfl, hI', rfl⟩ := hq
  have ok := ok_see (I := I) (c := c) (p := p) (x := x) (n := n) hok x1
  rw [← hI'] at ok
  have e0' := e0
  have e2' := e2
  unfold qW1 at e0' e2'
  have fr : ∀ a, (a < 6 ∨ 32 < a) → I' a = I a := fun a ha => ok.2 a (by omega)
  exact ⟨⟨_, _, _, _, h0.new (hd.on6 ok.1 (fun a _ h3 => fr a h3) e0 e2) (fun a ha => fr a (by omega)) (fun _ _ => rfl)⟩, id, fun a a1 a2 => ⟨fr a (by omega), rfl⟩, congrFun (ok.2 6 (by decide)) 1, congrFun (fr 0 (by omega)) 4, congrFun (fr 60 (by omega)) 1⟩
theorem K_plan {x p : Int32} (h : cINV S I J w0 w1 w2 bl) : qMet E y_On_plan b_On_plan 3 (some .int) 2 0 0 [.ref (qb E + 0), .int x, .int p] S I J (fun u S' I' J' => ((∃ c z, c ≤ 6 ∧ I 6 1 = nI c ∧ z ≤ 10 ∧ I 13 3 = nI z ∧ u = some (.int (ca_plan c z x p)) ∧ I' = ci_plan I c z x p ∧ J' = J) ∧ cW S S' I I') ∧ KQ0 S I J (cT I) u S' I' J') := by
  have h0 := h
  have hw4 := h.w4
  obtain ⟨hO, hZ, hN, ⟨e0, e1, e2, eb, s0, s2, s3⟩, hd⟩ := h
  obtain ⟨hok, hI0, hI2, hah, him, hig, hrd, hts, hh⟩ := id hd
  obtain ⟨c, hc6, hc⟩ := hok.1
  obtain ⟨l, hl6, hl⟩ := hok.2.1
  obtain ⟨d, hd9, hdd⟩ := hok.2.2.1
  obtain ⟨z1, y1, x1⟩ := hok.2.2.2.1
  obtain ⟨z2, y2, x2⟩ := hok.2.2.2.2.1
  obtain ⟨z3, y3, x3⟩ := hok.2.2.2.2.2.1
  refine (c_On_plan hO hc hc6 x2 y2).px (fun u S' I' J' hq => ⟨⟨c, z2, hc6, hc, y2, x2, hq.1, hq.2.2.1, hq.2.2.2.symm⟩, cW.of hO e0 e2 hq.2.1 (fun a ha => by rw [hq.2.2.1]; exact ci_plan_fr (by omega))⟩) (fun v S' I' J' hq => ?_)
  obtain ⟨-, rfl, hI', rfl⟩ := hq
  have ok := ok_plan (I := I) (c := c) (x := x) (p := p) hok x2
  rw [← hI'] at ok
  have e0' := e0
  have e2' := e2
  unfold qW1 at e0' e2'
  have fr : ∀ a, (a < 6 ∨ 32 < a) → I' a = I a := fun a ha => ok.2 a (by omega)
  exact ⟨⟨_, _, _, _, h0.new (hd.on6 ok.1 (fun a _ h3 => fr a h3) e0 e2) (fun a ha => fr a (by omega)) (fun _ _ => rfl)⟩, id, fun a a1 a2 => ⟨fr a (by omega), rfl⟩, congrFun (ok.2 6 (by decide)) 1, congrFun (fr 0 (by omega)) 4, congrFun (fr 60 (by omega)) 1⟩
theorem K_book {p x : Int32} (h : cINV S I J w0 w1 w2 bl) : qMet E y_On_book b_On_book 3 (some .int) 2 0 0 [.ref (qb E + 0), .int p, .int x] S I J (fun u S' I' J' => ((∃ c z, c ≤ 6 ∧ I 6 1 = nI c ∧ z ≤ 8 ∧ I 17 3 = nI z ∧ u = some (.int (ca_book c z p x)) ∧ I' = ci_book I c z p x ∧ J' = J) ∧ cW S S' I I') ∧ KQ0 S I J (cT I) u S' I' J') := by
  have h0 := h
  have hw4 := h.w4
  obtain ⟨hO, hZ, hN, ⟨e0, e1, e2, eb, s0, s2, s3⟩, hd⟩ := h
  obtain ⟨hok, hI0, hI2, hah, him, hig, hrd, hts, hh⟩ := id hd
  obtain ⟨c, hc6, hc⟩ := hok.1
  obtain ⟨l, hl6, hl⟩ := hok.2.1
  obtain ⟨d, hd9, hdd⟩ := hok.2.2.1
  obtain ⟨z1, y1, x1⟩ := hok.2.2.2.1
  obtain ⟨z2, y2, x2⟩ := hok.2.2.2.2.1
  obtain ⟨z3, y3, x3⟩ := hok.2.2.2.2.2.1
  refine (c_On_book hO hc hc6 x3 y3).px (fun u S' I' J' hq => ⟨⟨c, z3, hc6, hc, y3, x3, hq.1, hq.2.2.1, hq.2.2.2.symm⟩, cW.of hO e0 e2 hq.2.1 (fun a ha => by rw [hq.2.2.1]; exact ci_book_fr (by omega))⟩) (fun v S' I' J' hq => ?_)
  obtain ⟨-, rfl, hI', rfl⟩ := hq
  have ok := ok_book (I := I) (c := c) (p := p) (x := x) hok x3
  rw [← hI'] at ok
  have e0' := e0
  have e2' := e2
  unfold qW1 at e0' e2'
  have fr : ∀ a, (a < 6 ∨ 32 < a) → I' a = I a := fun a ha => ok.2 a (by omega)
  exact ⟨⟨_, _, _, _, h0.new (hd.on6 ok.1 (fun a _ h3 => fr a h3) e0 e2) (fun a ha => fr a (by omega)) (fun _ _ => rfl)⟩, id, fun a a1 a2 => ⟨fr a (by omega), rfl⟩, congrFun (ok.2 6 (by decide)) 1, congrFun (fr 0 (by omega)) 4, congrFun (fr 60 (by omega)) 1⟩
end H11
