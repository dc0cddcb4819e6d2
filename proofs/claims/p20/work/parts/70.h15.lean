/-! the reference's invariant -/
def rSnap (f : Nat → Int32) (n : Nat) : Prop :=
  (∀ p, p < 6 → ∃ k, k < 7 ∧ f p = nI k) ∧ (∃ c, c ≤ 6 ∧ f 117 = nI c ∧ ∃ l, l ≤ 6 ∧ f 118 = nI l ∧ (∀ i, i < l → ∃ p, p < c ∧ f (36 + i) = nI p) ∧ ∀ i j, i < j → j < l → f (36 + i) ≠ f (36 + j)) ∧ (∀ k, k < 6 → ∃ p, p < 6 ∧ f (36 + k) = nI p) ∧ (∃ d, d ≤ 9999 ∧ f 119 = nI d) ∧ (∃ z, z ≤ 5 ∧ f 120 = nI z) ∧ (∃ z, z ≤ 10 ∧ f 121 = nI z) ∧ (∃ z, z ≤ 8 ∧ f 122 = nI z) ∧ (f 123 = -1 ∨ ∃ h, h < n ∧ f 123 = nI h) ∧ (∀ i, i < 5 → ∃ t, t ≤ 20 ∧ f (76 + i) = nI t) ∧ (∀ i, i < 10 → ∃ p, p < 6 ∧ f (91 + i) = nI p) ∧ ∀ i, i < 8 → ∃ p, p < 6 ∧ f (101 + i) = nI p
theorem rSnap.cg {f g : Nat → Int32} {n : Nat} (h : rSnap f n) (e : ∀ j, j < 124 → g j = f j) : rSnap g n := by
  obtain ⟨h1, ⟨c, c6, hc, l, l6, hl, ha, hb⟩, h3, h4, h5, h6, h7, h8, h9, h10, h11⟩ := h
  refine ⟨fun p hp => by rw [e p (by omega)]; exact h1 p hp, ⟨c, c6, by rw [e _ (by decide)]; exact hc, l, l6, by rw [e _ (by decide)]; exact hl, fun i hi => by rw [e _ (by omega)]; exact ha i hi, fun i j hij hj => by rw [e _ (by omega), e _ (by omega)]; exact hb i j hij hj⟩, fun k hk => by rw [e _ (by omega)]; exact h3 k hk, by rw [e _ (by decide)]; exact h4, by rw [e _ (by decide)]; exact h5, by rw [e _ (by decide)]; exact h6, by rw [e _ (by decide)]; exact h7, by rw [e _ (by decide)]; exact h8, fun i hi => by rw [e _ (by omega)]; exact h9 i hi, fun i hi => by rw [e _ (by omega)]; exact h10 i hi, fun i hi => by rw [e _ (by omega)]; exact h11 i hi⟩
theorem rSnap.mono {f : Nat → Int32} {n m : Nat} (h : rSnap f n) (hnm : n ≤ m) : rSnap f m := by
  obtain ⟨h1, h2, h3, h4, h5, h6, h7, h8, h9, h10, h11⟩ := h
  refine ⟨h1, h2, h3, h4, h5, h6, h7, ?_, h9, h10, h11⟩
  rcases h8 with q | ⟨k, k1, k2⟩
  · exact Or.inl q
  · exact Or.inr ⟨k, by omega, k2⟩
/-- what the reference's cells hold -/
def rDat (I : qI) : Prop := ∃ n, mIs I n ∧ rSnap (kp I) n ∧ (I 114 39 = 0 ∨ (I 114 39 = 1 ∧ rSnap (I 139) n)) ∧ (∃ z, z ≤ 100 ∧ I 114 11 = nI z ∧ ∀ j, j < z → ∃ k, k < 128 ∧ I 123 j = nI k) ∧ (∃ op, I 114 16 = nI op) ∧ (∃ t, t < 2 ^ 30 ∧ I 114 37 = nI t) ∧ ∀ t, t < 6 → ∃ z, z ≤ 60 ∧ I 146 t = nI z
theorem mIs.cg {I K : qI} {n : Nat} (h : mIs I n) (e17 : K 114 17 = I 114 17) (e25 : K 114 25 = I 114 25) (hK : ∀ a, 124 ≤ a → a ≤ 129 → K a = I a) : mIs K n := by
  obtain ⟨h1, h2, cz, h3, h4, h5⟩ := h
  refine ⟨h1, e17.trans h2, cz, h3, e25.trans h4, fun h hh => ?_⟩
  obtain ⟨k, k1, k2, k3⟩ := h5 h hh
  refine ⟨k, k1, by rw [hK 124 (by omega) (by omega)]; exact k2, fun i hi => ?_⟩
  unfold mClOK
  rw [hK 125 (by omega) (by omega), hK 127 (by omega) (by omega), hK 128 (by omega) (by omega), hK 129 (by omega) (by omega)]
  exact k3 i hi
theorem kpa_in : ∀ j, j < 124 → 114 ≤ (kpa j).1 ∧ (kpa j).1 ≤ 147 := by decide +kernel
/-- the object's calls leave it -/
theorem rDat.far {I I' : qI} {J J' : qJ} (h : rDat I) (hf : cFar I I' J J') : rDat I' := by
  have e : ∀ a, 114 ≤ a → a ≤ 147 → I' a = I a := fun a h1 h2 => (hf a h1 h2).1
  obtain ⟨n, h1, h2, h3, h4, h5, h6, h7⟩ := h
  refine ⟨n, h1.cg (by rw [e 114 (by omega) (by omega)]) (by rw [e 114 (by omega) (by omega)]) (fun a a1 a2 => e a (by omega) (by omega)), h2.cg (fun j hj => ?_), ?_, ?_, ?_, ?_, ?_⟩
  · obtain ⟨q1, q2⟩ := kpa_in j hj
    unfold kp
    rw [e _ q1 q2]
  · rw [e 114 (by omega) (by omega), e 139 (by omega) (by omega)]; exact h3
  · rw [e 114 (by omega) (by omega), e 123 (by omega) (by omega)]; exact h4
  · rw [e 114 (by omega) (by omega)]; exact h5
  · rw [e 114 (by omega) (by omega)]; exact h6
  · rw [e 146 (by omega) (by omega)]; exact h7
/-- what asks leave -/
theorem rDat.same {I I' : qI} (h : rDat I) (hs : mSame I I') : rDat I' := by
  obtain ⟨s1, s2, s3⟩ := hs
  have nk : ∀ a, (a = 123 ∨ (124 ≤ a ∧ a ≤ 129) ∨ a = 139 ∨ a = 146) → I' a = I a := fun a ha => s2 a (by unfold kpc; omega) (by omega)
  have f : ∀ j, j ≠ 0 → j ≠ 8 → j ≠ 10 → j ≠ 18 → j ≠ 27 → j ≠ 31 → j ≠ 34 → j ≠ 43 → j ≠ 48 → I' 114 j = I 114 j := s3
  obtain ⟨n, h1, h2, h3, h4, h5, h6, h7⟩ := h
  refine ⟨n, h1.cg (f 17 (by decide) (by decide) (by decide) (by decide) (by decide) (by decide) (by decide) (by decide) (by decide)) (f 25 (by decide) (by decide) (by decide) (by decide) (by decide) (by decide) (by decide) (by decide) (by decide)) (fun a a1 a2 => nk a (by omega)), h2.cg s1, ?_, ?_, ?_, ?_, ?_⟩
  · rw [f 39 (by decide) (by decide) (by decide) (by decide) (by decide) (by decide) (by decide) (by decide) (by decide), nk 139 (by omega)]; exact h3
  · rw [f 11 (by decide) (by decide) (by decide) (by decide) (by decide) (by decide) (by decide) (by decide) (by decide), nk 123 (by omega)]; exact h4
  · rw [f 16 (by decide) (by decide) (by decide) (by decide) (by decide) (by decide) (by decide) (by decide) (by decide)]; exact h5
  · rw [f 37 (by decide) (by decide) (by decide) (by decide) (by decide) (by decide) (by decide) (by decide) (by decide)]; exact h6
  · rw [nk 146 (by omega)]; exact h7
/-- what a day asks -/
theorem rDat.day {I : qI} (h : rDat I) : mDay I 9999 := by
  obtain ⟨n, h1, ⟨k1, ⟨c, c6, hc, l, l6, hl, -⟩, k3, ⟨d, d9, hd⟩, -, -, -, k8, -⟩, -⟩ := h
  exact ⟨⟨n, h1, k8⟩, ⟨c, c6, hc⟩, ⟨l, l6, hl⟩, fun k hk => by
    obtain ⟨p, p6, hp⟩ := k3 k hk
    refine ⟨p, p6, ?_⟩
    rw [← hp]
    have : ∀ k, k < 6 → kpa (36 + k) = (122, k) := by decide +kernel
    unfold kp
    rw [this k hk], d, d9, hd⟩
/-- the reference's calls leave the object -/
theorem cINV.rf {S : qSh} {I I' : qI} {J J' : qJ} {w0 w1 w2 bl : Nat} (h : cINV S I J w0 w1 w2 bl) (hf : ∀ a, (a < 114 ∨ 147 < a) → I' a = I a ∧ J' a = J a) : cINV S I' J' w0 w1 w2 bl := by
  obtain ⟨hO, hZ, hN, hi, hd⟩ := h
  have hi0 := hi
  obtain ⟨e0, e1, e2, eb, s0, s2, s3⟩ := hi
  refine ⟨hO, hZ.fr (fun a ha => hf a (by omega)), hN, hi0, hd.fr (fun a ha => (hf a ?_).1) e0 e2⟩
  unfold qW1 at e0 e2
  unfold cR at ha
  omega
/-! the reference's asks keep its invariant -/
def rT (I I' : qI) : Prop := I' 114 0 = I 114 0 ∧ I' 114 39 = I 114 39 ∧ I' 139 117 = I 139 117
def rFar (I I' : qI) (J J' : qJ) : Prop := ∀ a, (a < 114 ∨ 147 < a) → I' a = I a ∧ J' a = J a
abbrev RQ0 (S : qSh) (I : qI) (J : qJ) (T : qI → Prop) : qPost := fun _ S' I' J' => S = S' ∧ rDat I' ∧ rFar I I' J J' ∧ T I'
abbrev RQ (S : qSh) (I : qI) (J : qJ) (T : qI → Prop) : qPost := fun v S' I' J' => VI v ∧ RQ0 S I J T v S' I' J'
abbrev RL (S : qSh) (I : qI) (J : qJ) (T : qI → Prop) : qPost := fun v S' I' J' => VL v ∧ RQ0 S I J T v S' I' J'
def rU (I I' : qI) (J J' : qJ) : Prop := (∀ j, j < 123 → kp I' j = kp I j) ∧ I' 139 = I 139 ∧ I' 114 39 = I 114 39 ∧ (I' 114 37 = I 114 37 ∧ I' 138 = I 138) ∧ (I' 114 17 = I 114 17 ∧ I' 114 11 = I 114 11 ∧ I' 123 = I 123) ∧ ∀ a, 145 ≤ a → a ≤ 147 → I' a = I a ∧ J' a = J a
theorem rU.rf {I : qI} {J : qJ} : rU I I J J := ⟨fun _ _ => rfl, rfl, rfl, ⟨rfl, rfl⟩, ⟨rfl, rfl, rfl⟩, fun _ _ _ => ⟨rfl, rfl⟩⟩
theorem rU.ask {I I' : qI} {J J' : qJ} (hs : mSame I I') (hj : mJo J J') : rU I I' J J' := ⟨fun j hj => hs.1 j (by omega), hs.2.1 139 (by unfold kpc; omega) (by omega), hs.2.2 39 (by decide) (by decide) (by decide) (by decide) (by decide) (by decide) (by decide) (by decide) (by decide), ⟨hs.2.2 37 (by decide) (by decide) (by decide) (by decide) (by decide) (by decide) (by decide) (by decide) (by decide), hs.2.1 138 (by unfold kpc; omega) (by omega)⟩, ⟨hs.2.2 17 (by decide) (by decide) (by decide) (by decide) (by decide) (by decide) (by decide) (by decide) (by decide), hs.2.2 11 (by decide) (by decide) (by decide) (by decide) (by decide) (by decide) (by decide) (by decide) (by decide), hs.2.1 123 (by unfold kpc; omega) (by omega)⟩, fun a a1 a2 => ⟨hs.2.1 a (by unfold kpc; omega) (by omega), hj a (by omega)⟩⟩
/-- what the reference holds, and its tables, as they were -/
def rW (I I' : qI) : Prop := I' 114 18 = I 114 18 ∧ I' 114 25 = I 114 25 ∧ ∀ a, 124 ≤ a → a ≤ 129 → I' a = I a
theorem rW.rf {I : qI} : rW I I := ⟨rfl, rfl, fun _ _ _ => rfl⟩
theorem rW.ask {I I' : qI} (hs : mSame I I') : rW I I' := ⟨hs.1 123 (by decide), hs.2.2 25 (by decide) (by decide) (by decide) (by decide) (by decide) (by decide) (by decide) (by decide) (by decide), fun a a1 a2 => hs.2.1 a (by unfold kpc; omega) (by omega)⟩
theorem RQ.ask {S S' : qSh} {I I' : qI} {J J' : qJ} {v : Option Value} (h : rDat I) (hS : S = S') (hs : mSame I I') (hj : mJo J J') : RQ0 S I J (rT I) v S' I' J' := by
  refine ⟨hS, h.same hs, fun a ha => ⟨hs.2.1 a (by unfold kpc; omega) (by omega), hj a (by omega)⟩, hs.1 117 (by decide), hs.2.2 39 (by decide) (by decide) (by decide) (by decide) (by decide) (by decide) (by decide) (by decide) (by decide), ?_⟩
  rw [hs.2.1 139 (by unfold kpc; omega) (by omega)]
theorem rDat.c {I : qI} (h : rDat I) : ∃ c, c ≤ 6 ∧ I 114 0 = nI c := by
  obtain ⟨n, h1, ⟨k1, ⟨c, c6, hc, -⟩, -⟩, -⟩ := h
  exact ⟨c, c6, hc⟩
theorem rDat.kinds {I : qI} (h : rDat I) : ∀ p, p < 6 → ∃ k, k < 7 ∧ I 115 p = nI k := fun p hp => by
  obtain ⟨n, h1, ⟨k1, -⟩, -⟩ := h
  obtain ⟨k, k7, hk⟩ := k1 p hp
  refine ⟨k, k7, ?_⟩
  have : ∀ p, p < 6 → kpa p = (115, p) := by decide +kernel
  rw [← hk]; unfold kp; rw [this p hp]
theorem rDat.seen {I : qI} (h : rDat I) : (∃ z, z ≤ 5 ∧ I 114 27 = nI z) ∧ ∀ i, i < 5 → ∃ t, t ≤ 20 ∧ I 133 i = nI t := by
  obtain ⟨n, h1, ⟨-, -, -, -, k5, k6, k7, k8, k9, k10, k11⟩, -⟩ := h
  refine ⟨k5, fun i hi => ?_⟩
  obtain ⟨t, t1, ht⟩ := k9 i hi
  refine ⟨t, t1, ?_⟩
  have : ∀ p, p < 5 → kpa (76 + p) = (133, p) := by decide +kernel
  rw [← ht]; unfold kp; rw [this i hi]
theorem rDat.plan {I : qI} (h : rDat I) : (∃ z, z ≤ 10 ∧ I 114 31 = nI z) ∧ ∀ i, i < 10 → ∃ t, t < 6 ∧ I 135 i = nI t := by
  obtain ⟨n, h1, ⟨-, -, -, -, k5, k6, k7, k8, k9, k10, k11⟩, -⟩ := h
  refine ⟨k6, fun i hi => ?_⟩
  obtain ⟨t, t1, ht⟩ := k10 i hi
  refine ⟨t, t1, ?_⟩
  have : ∀ p, p < 10 → kpa (91 + p) = (135, p) := by decide +kernel
  rw [← ht]; unfold kp; rw [this i hi]
theorem rDat.book {I : qI} (h : rDat I) : (∃ z, z ≤ 8 ∧ I 114 34 = nI z) ∧ ∀ i, i < 8 → ∃ t, t < 6 ∧ I 136 i = nI t := by
  obtain ⟨n, h1, ⟨-, -, -, -, k5, k6, k7, k8, k9, k10, k11⟩, -⟩ := h
  refine ⟨k7, fun i hi => ?_⟩
  obtain ⟨t, t1, ht⟩ := k11 i hi
  refine ⟨t, t1, ?_⟩
  have : ∀ p, p < 8 → kpa (101 + p) = (136, p) := by decide +kernel
  rw [← ht]; unfold kp; rw [this i hi]
theorem rDat.tapes {I : qI} (h : rDat I) : ∀ t, t < 6 → ∃ z, z ≤ 60 ∧ I 146 t = nI z := by
  obtain ⟨n, h1, h2, h3, h4, h5, h6, h7⟩ := h
  exact h7
section H16
variable {E : qE} {S : qSh} {I : qI} {J : qJ}
theorem R_on {n x : Int32} (hM : isMd S) (h : rDat I) : qMet E y_Md_on b_Md_on 4 (some .int) 5 0 0 [.ref (qb E + 114), .int n, .int x] S I J (fun u S' I' J' => ((VI u ∧ rU I I' J J') ∧ rW I I') ∧ RQ0 S I J (rT I) u S' I' J') := by
  refine (c_Md_on hM h.day ).px (fun u S' I' J' hq => by obtain ⟨r, h, -, hs, hj⟩ := hq; exact ⟨⟨⟨r, h⟩, rU.ask hs (fun b _ => by rw [← hj])⟩, rW.ask hs⟩) (fun v S' I' J' hq => ?_)
  obtain ⟨r, -, hS, hs, hj⟩ := hq
  exact RQ.ask h hS hs (fun b _ => by rw [← hj])
theorem R_turn {x : Int32} (hM : isMd S) (h : rDat I) : qMet E y_Md_turn b_Md_turn 4 (some .int) 5 0 0 [.ref (qb E + 114), .int x] S I J (fun u S' I' J' => ((VI u ∧ rU I I' J J') ∧ rW I I') ∧ RQ0 S I J (rT I) u S' I' J') := by
  refine (c_Md_turn hM h.day ).px (fun u S' I' J' hq => by obtain ⟨r, h, -, hs, hj⟩ := hq; exact ⟨⟨⟨r, h⟩, rU.ask hs (fun b _ => by rw [← hj])⟩, rW.ask hs⟩) (fun v S' I' J' hq => ?_)
  obtain ⟨r, -, hS, hs, hj⟩ := hq
  exact RQ.ask h hS hs (fun b _ => by rw [← hj])
theorem R_empty  (hM : isMd S) (h : rDat I) : qMet E y_Md_empty b_Md_empty 3 (some .int) 5 0 0 [.ref (qb E + 114)] S I J (fun u S' I' J' => ((VI u ∧ rU I I' J J') ∧ rW I I') ∧ RQ0 S I J (rT I) u S' I' J') := by
  refine (c_Md_empty hM h.day ).px (fun u S' I' J' hq => by obtain ⟨r, h, -, hs, hj⟩ := hq; exact ⟨⟨⟨r, h⟩, rU.ask hs (fun b _ => by rw [← hj])⟩, rW.ask hs⟩) (fun v S' I' J' hq => ?_)
  obtain ⟨r, -, hS, hs, hj⟩ := hq
  exact RQ.ask h hS hs (fun b _ => by rw [← hj])
theorem R_ends {x : Int32} (hM : isMd S) (h : rDat I) : qMet E y_Md_ends b_Md_ends 4 (some .int) 5 0 0 [.ref (qb E + 114), .int x] S I J (fun u S' I' J' => ((VI u ∧ rU I I' J J') ∧ rW I I') ∧ RQ0 S I J (rT I) u S' I' J') := by
  obtain ⟨⟨z, z1, z2⟩, z3⟩ := h.plan
  refine (c_Md_ends hM h.day z2 z1 z3).px (fun u S' I' J' hq => by obtain ⟨r, h, -, hs, hj⟩ := hq; exact ⟨⟨⟨r, h⟩, rU.ask hs (fun b _ => by rw [← hj])⟩, rW.ask hs⟩) (fun v S' I' J' hq => ?_)
  obtain ⟨r, -, hS, hs, hj⟩ := hq
  exact RQ.ask h hS hs (fun b _ => by rw [← hj])
theorem R_best {x k : Int32} (hM : isMd S) (h : rDat I) : qMet E y_Md_best b_Md_best 3 (some .int) 9 0 0 [.ref (qb E + 114), .int x, .int k] S I J (fun u S' I' J' => ((VI u ∧ rU I I' J J') ∧ rW I I') ∧ RQ0 S I J (rT I) u S' I' J') := by
  refine (c_Md_best hM h.day ).px (fun u S' I' J' hq => by obtain ⟨r, h, -, hs, hj⟩ := hq; exact ⟨⟨⟨r, h⟩, rU.ask hs hj⟩, rW.ask hs⟩) (fun v S' I' J' hq => ?_)
  obtain ⟨r, -, hS, hs, hj⟩ := hq
  exact RQ.ask h hS hs hj
theorem R_odds {q p : Int32} (hM : isMd S) (h : rDat I) : qMet E y_Md_odds b_Md_odds 3 (some .long) 9 0 0 [.ref (qb E + 114), .int q, .int p] S I J (fun u S' I' J' => ((VL u ∧ rU I I' J J') ∧ rW I I') ∧ RQ0 S I J (rT I) u S' I' J') := by
  refine (c_Md_odds hM h.day ).px (fun u S' I' J' hq => by obtain ⟨r, h, -, hs, hj⟩ := hq; exact ⟨⟨⟨r, h⟩, rU.ask hs hj⟩, rW.ask hs⟩) (fun v S' I' J' hq => ?_)
  obtain ⟨r, -, hS, hs, hj⟩ := hq
  exact RQ.ask h hS hs hj
theorem R_mean {p : Int32} (hM : isMd S) (h : rDat I) : qMet E y_Md_mean b_Md_mean 2 (some .long) 9 0 0 [.ref (qb E + 114), .int p] S I J (fun u S' I' J' => ((VL u ∧ rU I I' J J') ∧ rW I I') ∧ RQ0 S I J (rT I) u S' I' J') := by
  refine (c_Md_mean hM h.day ).px (fun u S' I' J' hq => by obtain ⟨r, h, -, hs, hj⟩ := hq; exact ⟨⟨⟨r, h⟩, rU.ask hs hj⟩, rW.ask hs⟩) (fun v S' I' J' hq => ?_)
  obtain ⟨r, -, hS, hs, hj⟩ := hq
  exact RQ.ask h hS hs hj
theorem R_can {x w y : Int32} (hM : isMd S) (h : rDat I) : qMet E y_Md_can b_Md_can 8 (some .int) 5 0 0 [.ref (qb E + 114), .int x, .int w, .int y] S I J (fun u S' I' J' => ((VI u ∧ rU I I' J J') ∧ rW I I') ∧ RQ0 S I J (rT I) u S' I' J') := by
  obtain ⟨⟨z, z1, z2⟩, z3⟩ := h.seen
  refine (c_Md_can hM h.day z2 z1 z3).px (fun u S' I' J' hq => by obtain ⟨r, h, -, hs, hj⟩ := hq; exact ⟨⟨⟨r, h⟩, rU.ask hs (fun b _ => by rw [← hj])⟩, rW.ask hs⟩) (fun v S' I' J' hq => ?_)
  obtain ⟨r, -, hS, hs, hj⟩ := hq
  exact RQ.ask h hS hs (fun b _ => by rw [← hj])
theorem R_told {x : Int32} (hM : isMd S) (h : rDat I) : qMet E y_Md_told b_Md_told 2 (some .int) 6 0 0 [.ref (qb E + 114), .int x] S I J (fun u S' I' J' => ((VI u ∧ rU I I' J J') ∧ rW I I') ∧ RQ0 S I J (rT I) u S' I' J') := by
  refine (c_Md_told hM h.day ).px (fun u S' I' J' hq => by obtain ⟨r, h, -, hs, hj⟩ := hq; exact ⟨⟨⟨r, h⟩, rU.ask hs (fun b _ => by rw [← hj])⟩, rW.ask hs⟩) (fun v S' I' J' hq => ?_)
  obtain ⟨r, -, hS, hs, hj⟩ := hq
  exact RQ.ask h hS hs (fun b _ => by rw [← hj])
theorem R_of {x w : Int32} (hM : isMd S) (h : rDat I) : qMet E y_Md_of b_Md_of 3 (some .int) 4 0 0 [.ref (qb E + 114), .int x, .int w] S I J (fun u S' I' J' => ((VI u ∧ rU I I' J J') ∧ rW I I') ∧ RQ0 S I J (rT I) u S' I' J') := by
  refine (c_Md_of hM h.day ).px (fun u S' I' J' hq => by obtain ⟨r, h, -, hs, hj⟩ := hq; exact ⟨⟨⟨r, h⟩, rU.ask hs (fun b _ => by rw [← hj])⟩, rW.ask hs⟩) (fun v S' I' J' hq => ?_)
  obtain ⟨r, -, hS, hs, hj⟩ := hq
  exact RQ.ask h hS hs (fun b _ => by rw [← hj])
theorem R_looked  (hM : isMd S) (h : rDat I) : qMet E y_Md_looked b_Md_looked 2 (some .int) 0 0 0 [.ref (qb E + 114)] S I J (fun u S' I' J' => ((VI u ∧ rU I I' J J') ∧ rW I I') ∧ RQ0 S I J (rT I) u S' I' J') := by
  obtain ⟨⟨z, z1, z2⟩, z3⟩ := h.book
  refine (c_Md_looked hM z2 z1 z3).px (fun u S' I' J' hq => by obtain ⟨r, h, -, hs, hj⟩ := hq; exact ⟨⟨⟨r, h⟩, rU.ask hs (fun b _ => by rw [← hj])⟩, rW.ask hs⟩) (fun v S' I' J' hq => ?_)
  obtain ⟨r, -, hS, hs, hj⟩ := hq
  exact RQ.ask h hS hs (fun b _ => by rw [← hj])
theorem R_judge {tp i : Int32} (hM : isMd S) (h : rDat I) : qMet E y_Md_judge b_Md_judge 4 (some .int) 1 0 0 [.ref (qb E + 114), .int tp, .int i] S I J (fun u S' I' J' => ((VI u ∧ rU I I' J J') ∧ rW I I') ∧ RQ0 S I J (rT I) u S' I' J') := by
  obtain ⟨c, c6, hc⟩ := h.c
  refine (c_Md_judge hM hc c6 h.tapes).px (fun u S' I' J' hq => by obtain ⟨r, h, -, hs, hj⟩ := hq; exact ⟨⟨⟨r, h⟩, rU.ask hs (fun b _ => by rw [← hj])⟩, rW.ask hs⟩) (fun v S' I' J' hq => ?_)
  obtain ⟨r, -, hS, hs, hj⟩ := hq
  exact RQ.ask h hS hs (fun b _ => by rw [← hj])
end H16
/-! the reference's invariant kept: the image, undo, plain answers -/
theorem kpa_39 : ∀ j, j < 124 → ¬ ((kpa j).1 = 114 ∧ (kpa j).2 = 39) := by decide +kernel
theorem kpa_139 : ∀ j, j < 124 → (kpa j).1 ≠ 139 := by decide +kernel
section H17
variable {E : qE} {S : qSh} {I : qI} {J : qJ}
theorem R_taken {m x : Int32} (hM : isMd S) (h : rDat I) : qMet E y_Md_taken b_Md_taken 4 (some .int) 2 0 0 [.ref (qb E + 114), .int m, .int x] S I J (fun u S' I' J' => (((∃ c, c ≤ 6 ∧ I 114 0 = nI c ∧ rU I I' J J' ∧ (qwithin x 0 6 = 0 ∧ u = some (.int (-2)) ∨ ¬ qwithin x 0 6 = 0 ∧ (∀ p, p < c → m ≠ nI p) ∧ u = some (.int (-11)) ∨ ¬ qwithin x 0 6 = 0 ∧ ∃ p k, p < c ∧ m = nI p ∧ k < 7 ∧ I 115 p = nI k ∧ u = some (.int (if nI (mupN 7 k x) = x then nI k else -12))))) ∧ rW I I') ∧ RQ0 S I J (rT I) u S' I' J') := by
  obtain ⟨c, c6, hc⟩ := h.c
  refine (c_Md_taken hM hc c6 h.kinds).px (fun u S' I' J' hq => by obtain ⟨-, rfl, rfl, h⟩ := hq; exact ⟨⟨c, c6, hc, rU.rf, h⟩, rW.rf⟩) (fun v S' I' J' hq => ?_)
  obtain ⟨rfl, rfl, rfl, -⟩ := hq
  exact ⟨rfl, h, fun a ha => ⟨rfl, rfl⟩, rfl, rfl, rfl⟩
theorem R_image (hM : isMd S) (h : rDat I) : qMet E y_Md_image b_Md_image 1 (some .int) 1 0 0 [.ref (qb E + 114)] S I J (fun v S' I' J' => ((v = some (.int (I 114 0)) ∧ (∀ j, j < 124 → I' 139 j = kp I j) ∧ (∀ j, j < 124 → kp I' j = kp I j) ∧ I' 114 39 = 1 ∧ (I' 114 37 = I 114 37 ∧ I' 138 = I 138) ∧ (I' 114 17 = I 114 17 ∧ I' 114 11 = I 114 11 ∧ I' 123 = I 123) ∧ (∀ a, 145 ≤ a → a ≤ 147 → I' a = I a) ∧ J' = J) ∧ rW I I') ∧ RQ0 S I J (fun I' => I' 114 0 = I 114 0 ∧ I' 114 39 = 1 ∧ I' 139 117 = I 114 0) v S' I' J') := by
  refine (c_Md_image hM).post (fun v S' I' J' hq => ?_)
  obtain ⟨rfl, rfl, ho, hk, rfl⟩ := hq
  have e : ∀ a, a ≠ 114 → a ≠ 139 → I' a = I a := fun a a1 a2 => by rw [ho a a2, qup_row a1]
  have f : ∀ j, j ≠ 39 → I' 114 j = I 114 j := fun j hj => by rw [ho 114 (by decide), qup_j hj]
  have kk : ∀ j, j < 124 → kp I' j = kp I j := fun j hj => by
    unfold kp
    rw [ho _ (kpa_139 j hj), qup_ne (kpa_39 j hj)]
  have f39 : I' 114 39 = 1 := by rw [ho 114 (by decide), qup_at]
  obtain ⟨n, h1, h2, h3, h4, h5, h6, h7⟩ := h
  refine ⟨⟨⟨rfl, hk, kk, f39, ⟨f 37 (by decide), e 138 (by decide) (by decide)⟩, ⟨f 17 (by decide), f 11 (by decide), e 123 (by decide) (by decide)⟩, fun a a1 a2 => e a (by omega) (by omega), rfl⟩, f 18 (by decide), f 25 (by decide), fun a a1 a2 => e a (by omega) (by omega)⟩, rfl, ⟨n, h1.cg (f 17 (by decide)) (f 25 (by decide)) (fun a a1 a2 => e a (by omega) (by omega)), h2.cg kk, Or.inr ⟨f39, h2.cg hk⟩, ?_, ?_, ?_, ?_⟩, fun a ha => ⟨e a (by omega) (by omega), rfl⟩, f 0 (by decide), f39, hk 117 (by decide)⟩
  · rw [f 11 (by decide), e 123 (by decide) (by decide)]; exact h4
  · rw [f 16 (by decide)]; exact h5
  · rw [f 37 (by decide)]; exact h6
  · rw [e 146 (by decide) (by decide)]; exact h7
theorem R_undo0 (hM : isMd S) (h : rDat I) (hz : I 114 39 = 0) : qMet E y_Md_undo b_Md_undo 1 (some .int) 1 0 0 [.ref (qb E + 114)] S I J (fun u S' I' J' => ((u = some (.int (-3)) ∧ rU I I' J J') ∧ rW I I') ∧ RQ0 S I J (rT I) u S' I' J') := by
  refine (c_Md_undo hM).px (fun u S' I' J' hq => by obtain ⟨-, rfl, ⟨-, h, rfl⟩ | ⟨q, -⟩⟩ := hq; exact ⟨⟨h, rU.rf⟩, rW.rf⟩; exact absurd hz q) (fun v S' I' J' hq => ?_)
  obtain ⟨rfl, rfl, hR⟩ := hq
  rcases hR with ⟨-, -, rfl⟩ | ⟨q, -⟩
  · exact ⟨rfl, h, fun a ha => ⟨rfl, rfl⟩, rfl, rfl, rfl⟩
  · exact absurd hz q
theorem R_undo1 (hM : isMd S) (h : rDat I) (hz : I 114 39 = 1) : qMet E y_Md_undo b_Md_undo 1 (some .int) 1 0 0 [.ref (qb E + 114)] S I J (fun u S' I' J' => ((u = some (.int (I 139 117)) ∧ (∀ j, j < 124 → kp I' j = I 139 j) ∧ I' 139 = I 139 ∧ (I' 114 37 = I 114 37 ∧ I' 138 = I 138) ∧ (I' 114 17 = I 114 17 ∧ I' 114 11 = I 114 11 ∧ I' 123 = I 123) ∧ (∀ a, 145 ≤ a → a ≤ 147 → I' a = I a) ∧ J' = J) ∧ I' 114 25 = I 114 25 ∧ ∀ a, 124 ≤ a → a ≤ 129 → I' a = I a) ∧ RQ0 S I J (fun I' => I' 114 0 = I 139 117 ∧ I' 114 39 = 1 ∧ I' 139 117 = I 139 117) u S' I' J') := by
  refine (c_Md_undo hM).px (fun u S' I' J' hq => by obtain ⟨-, rfl, ⟨q, -⟩ | ⟨-, h, ho, f, hk⟩⟩ := hq; exact absurd (hz.symm.trans q) (by decide); exact ⟨⟨h, hk, ho 139 (by unfold kpc; omega), ⟨f 37 (by decide) (by decide) (by decide) (by decide) (by decide) (by decide) (by decide), ho 138 (by unfold kpc; omega)⟩, ⟨f 17 (by decide) (by decide) (by decide) (by decide) (by decide) (by decide) (by decide), f 11 (by decide) (by decide) (by decide) (by decide) (by decide) (by decide) (by decide), ho 123 (by unfold kpc; omega)⟩, fun a a1 a2 => ho a (by unfold kpc; omega), rfl⟩, f 25 (by decide) (by decide) (by decide) (by decide) (by decide) (by decide) (by decide), fun a a1 a2 => ho a (by unfold kpc; omega)⟩) (fun v S' I' J' hq => ?_)
  obtain ⟨rfl, rfl, hR⟩ := hq
  rcases hR with ⟨q, -⟩ | ⟨-, -, ho, f, hk⟩
  · rw [hz] at q; exact absurd q (by decide)
  · have e : ∀ a, ¬ kpc a → I' a = I a := ho
    have g : ∀ j, (j = 11 ∨ j = 16 ∨ j = 17 ∨ j = 25 ∨ j = 37 ∨ j = 39) → I' 114 j = I 114 j := fun j hj => f j (by omega) (by omega) (by omega) (by omega) (by omega) (by omega) (by omega)
    obtain ⟨n, h1, h2, h3, h4, h5, h6, h7⟩ := h
    have h3' : rSnap (I 139) n := by
      rcases h3 with q | q
      · rw [hz] at q; exact absurd q (by decide)
      · exact q.2
    refine ⟨rfl, ⟨n, h1.cg (g 17 (by omega)) (g 25 (by omega)) (fun a a1 a2 => e a (by unfold kpc; omega)), h3'.cg hk, ?_, ?_, ?_, ?_, ?_⟩, fun a ha => ⟨e a (by unfold kpc; omega), rfl⟩, hk 117 (by decide), ?_, ?_⟩
    · rw [g 39 (by omega), e 139 (by unfold kpc; omega)]; exact h3
    · rw [g 11 (by omega), e 123 (by unfold kpc; omega)]; exact h4
    · rw [g 16 (by omega)]; exact h5
    · rw [g 37 (by omega)]; exact h6
    · rw [e 146 (by unfold kpc; omega)]; exact h7
    · rw [g 39 (by omega)]; exact hz
    · rw [e 139 (by unfold kpc; omega)]
theorem R_count {x : Int32} (hM : isMd S) (h : rDat I) : qMet E y_Md_count b_Md_count 2 (some .int) 0 0 0 [.ref (qb E + 114), .int x] S I J (fun u S' I' J' => ((u = some (.int (ga_Md_count I J x)) ∧ rU I I' J J') ∧ rW I I') ∧ RQ0 S I J (rT I) u S' I' J') := by
  refine (c_Md_count hM).px (fun u S' I' J' hq => by obtain ⟨h, -, hI, hJ⟩ := hq; rw [show I' = I by rw [hI]; unfold gi_Md_count; (repeat' split) <;> rfl, show J' = J by rw [hJ]; unfold gj_Md_count; (repeat' split) <;> rfl]; exact ⟨⟨h, rU.rf⟩, rW.rf⟩) (fun v S' I' J' hq => ?_)
  obtain ⟨-, rfl, hI, hJ⟩ := hq
  have e1 : I' = I := by rw [hI]; unfold gi_Md_count; (repeat' split) <;> rfl
  have e2 : J' = J := by rw [hJ]; unfold gj_Md_count; (repeat' split) <;> rfl
  rw [e1, e2]
  exact ⟨rfl, h, fun a ha => ⟨rfl, rfl⟩, rfl, rfl, rfl⟩
theorem R_read {tp i : Int32} (hM : isMd S) (h : rDat I) : qMet E y_Md_read b_Md_read 3 (some .long) 2 0 0 [.ref (qb E + 114), .int tp, .int i] S I J (fun u S' I' J' => ((u = some (.long (ga_Md_read I J tp i)) ∧ rU I I' J J') ∧ rW I I') ∧ RQ0 S I J (rT I) u S' I' J') := by
  refine (c_Md_read hM h.tapes).px (fun u S' I' J' hq => by obtain ⟨h, -, hI, hJ⟩ := hq; rw [show I' = I by rw [hI]; unfold gi_Md_read; (repeat' split) <;> rfl, show J' = J by rw [hJ]; unfold gj_Md_read; (repeat' split) <;> rfl]; exact ⟨⟨h, rU.rf⟩, rW.rf⟩) (fun v S' I' J' hq => ?_)
  obtain ⟨-, rfl, hI, hJ⟩ := hq
  have e1 : I' = I := by rw [hI]; unfold gi_Md_read; (repeat' split) <;> rfl
  have e2 : J' = J := by rw [hJ]; unfold gj_Md_read; (repeat' split) <;> rfl
  rw [e1, e2]
  exact ⟨rfl, h, fun a ha => ⟨rfl, rfl⟩, rfl, rfl, rfl⟩
end H17
/-! the reference's invariant kept: plain numbers, texts -/
theorem rSnap.cg2 {f g : Nat → Int32} {n : Nat} (h : rSnap f n) (e : ∀ j, (j < 6 ∨ (36 ≤ j ∧ j < 42) ∨ (66 ≤ j ∧ j < 124)) → g j = f j) : rSnap g n := by
  obtain ⟨h1, ⟨c, c6, hc, l, l6, hl, ha, hb⟩, h3, h4, h5, h6, h7, h8, h9, h10, h11⟩ := h
  refine ⟨fun p hp => by rw [e p (by omega)]; exact h1 p hp, ⟨c, c6, by rw [e _ (by omega)]; exact hc, l, l6, by rw [e _ (by omega)]; exact hl, fun i hi => by rw [e _ (by omega)]; exact ha i hi, fun i j hij hj => by rw [e _ (by omega), e _ (by omega)]; exact hb i j hij hj⟩, fun k hk => by rw [e _ (by omega)]; exact h3 k hk, by rw [e _ (by omega)]; exact h4, by rw [e _ (by omega)]; exact h5, by rw [e _ (by omega)]; exact h6, by rw [e _ (by omega)]; exact h7, by rw [e _ (by omega)]; exact h8, fun i hi => by rw [e _ (by omega)]; exact h9 i hi, fun i hi => by rw [e _ (by omega)]; exact h10 i hi, fun i hi => by rw [e _ (by omega)]; exact h11 i hi⟩
theorem kpa_free : ∀ j, j < 124 → (j < 6 ∨ (36 ≤ j ∧ j < 42) ∨ (66 ≤ j ∧ j < 124)) → 114 ≤ (kpa j).1 ∧ ((kpa j).1 < 116 ∨ 121 < (kpa j).1) := by decide +kernel
theorem rDat.free {I I' : qI} (h : rDat I) (e : ∀ a, (a < 116 ∨ 121 < a) → I' a = I a) : rDat I' := by
  obtain ⟨n, h1, h2, h3, h4, h5, h6, h7⟩ := h
  have e4 := e 114 (by omega)
  refine ⟨n, h1.cg (by rw [e4]) (by rw [e4]) (fun a a1 a2 => e a (by omega)), h2.cg2 (fun j hj => ?_), ?_, ?_, ?_, ?_, ?_⟩
  · unfold kp
    rw [e _ (kpa_free j (by omega) hj).2]
  · rw [e4, e 139 (by omega)]; exact h3
  · rw [e4, e 123 (by omega)]; exact h4
  · rw [e4]; exact h5
  · rw [e4]; exact h6
  · rw [e 146 (by omega)]; exact h7
section H18
variable {E : qE} {S : qSh} {I : qI} {J : qJ}
theorem RQ.free {S S' : qSh} {I I' : qI} {J J' : qJ} {v : Option Value} (h : rDat I) (hS : S = S') (e : ∀ a, (a < 116 ∨ 121 < a) → I' a = I a) (hj : J' = J) : RQ0 S I J (rT I) v S' I' J' := by
  subst hj
  exact ⟨hS, h.free e, fun a ha => ⟨e a (by omega), rfl⟩, congrFun (e 114 (by omega)) 0, congrFun (e 114 (by omega)) 39, congrFun (e 139 (by omega)) 117⟩
theorem R_set {p x n : Int32} (hM : isMd S) (h : rDat I) : qMet E y_Md_set b_Md_set 5 (some .int) 2 0 0 [.ref (qb E + 114), .int p, .int x, .int n] S I J (fun u S' I' J' => (u = some (.int (ga_Md_set I J p x n)) ∧ I' = gi_Md_set I J p x n ∧ J' = gj_Md_set I J p x n) ∧ RQ0 S I J (rT I) u S' I' J') := by
  obtain ⟨c, c6, hc⟩ := h.c
  refine (c_Md_set hM hc c6).px (fun u S' I' J' hq => ⟨hq.1, hq.2.2.1, hq.2.2.2⟩) (fun v S' I' J' hq => ?_)
  obtain ⟨-, hS, hI, hJ⟩ := hq
  refine RQ.free h hS (fun a ha => ?_) ?_
  · rw [hI]; unfold gi_Md_set; (repeat' split) <;> first | rfl | rw [qup_row (by omega)]
  · rw [hJ]; unfold gj_Md_set; (repeat' split) <;> rfl
theorem R_done {p x : Int32} (hM : isMd S) (h : rDat I) : qMet E y_Md_done b_Md_done 4 (some .int) 2 0 0 [.ref (qb E + 114), .int p, .int x] S I J (fun u S' I' J' => (u = some (.int (ga_Md_done I J p x)) ∧ I' = gi_Md_done I J p x ∧ J' = gj_Md_done I J p x) ∧ RQ0 S I J (rT I) u S' I' J') := by
  obtain ⟨c, c6, hc⟩ := h.c
  refine (c_Md_done hM hc c6).px (fun u S' I' J' hq => ⟨hq.1, hq.2.2.1, hq.2.2.2⟩) (fun v S' I' J' hq => ?_)
  obtain ⟨-, hS, hI, hJ⟩ := hq
  refine RQ.free h hS (fun a ha => ?_) ?_
  · rw [hI]; unfold gi_Md_done; (repeat' split) <;> first | rfl | rw [qup_row (by omega)]
  · rw [hJ]; unfold gj_Md_done; (repeat' split) <;> rfl
theorem R_row {p q n : Int32} (hM : isMd S) (h : rDat I) : qMet E y_Md_row b_Md_row 5 (some .int) 2 0 0 [.ref (qb E + 114), .int p, .int q, .int n] S I J (fun u S' I' J' => (u = some (.int (ga_Md_row I J p q n)) ∧ I' = gi_Md_row I J p q n ∧ J' = gj_Md_row I J p q n) ∧ RQ0 S I J (rT I) u S' I' J') := by
  obtain ⟨c, c6, hc⟩ := h.c
  refine (c_Md_row hM hc c6).px (fun u S' I' J' hq => ⟨hq.1, hq.2.2.1, hq.2.2.2⟩) (fun v S' I' J' hq => ?_)
  obtain ⟨-, hS, hI, hJ⟩ := hq
  refine RQ.free h hS (fun a ha => ?_) ?_
  · rw [hI]; unfold gi_Md_row; (repeat' split) <;> first | rfl | rw [qup_row (by omega)]
  · rw [hJ]; unfold gj_Md_row; (repeat' split) <;> rfl
theorem R_trace {x : Int32} (hM : isMd S) (h : rDat I) : qMet E y_Md_trace b_Md_trace 2 (some .int) 1 0 0 [.ref (qb E + 114), .int x] S I J (fun u S' I' J' => ((u = some (.int (ga_Md_trace I J x)) ∧ rU I I' J J') ∧ rW I I') ∧ RQ0 S I J (rT I) u S' I' J') := by
  obtain ⟨t, t1, ht⟩ : ∃ t, t < 2 ^ 30 ∧ I 114 37 = nI t := by
    obtain ⟨n, h1, h2, h3, h4, h5, h6, h7⟩ := h
    exact h6
  refine (c_Md_trace hM ht (by omega)).px (fun u S' I' J' hq => by obtain ⟨h, -, hI, hJ⟩ := hq; rw [show I' = I by rw [hI]; unfold gi_Md_trace; (repeat' split) <;> rfl, show J' = J by rw [hJ]; unfold gj_Md_trace; (repeat' split) <;> rfl]; exact ⟨⟨h, rU.rf⟩, rW.rf⟩) (fun v S' I' J' hq => ?_)
  obtain ⟨-, hS, hI, hJ⟩ := hq
  refine RQ.free h hS (fun a ha => ?_) ?_
  · rw [hI]; unfold gi_Md_trace; (repeat' split) <;> rfl
  · rw [hJ]; unfold gj_Md_trace; (repeat' split) <;> rfl
end H18
/-! the reference's invariant kept: texts, items -/
theorem kpa_11 : ∀ j, j < 124 → ¬ ((kpa j).1 = 114 ∧ (kpa j).2 = 11) ∧ (kpa j).1 ≠ 123 := by decide +kernel
section H19
variable {E : qE} {S : qSh} {I : qI} {J : qJ}
theorem R_feed {x : Int32} (hM : isMd S) (h : rDat I) : qMet E y_Md_feed b_Md_feed 2 (some .int) 1 0 0 [.ref (qb E + 114), .int x] S I J (fun u S' I' J' => (u = some (.int (ga_Md_feed I J x)) ∧ I' = gi_Md_feed I J x ∧ J' = gj_Md_feed I J x) ∧ RQ0 S I J (rT I) u S' I' J') := by
  have h0 := h
  obtain ⟨n, h1, h2, h3, ⟨z, zz, hz, hb⟩, h5, h6, h7⟩ := h
  refine (c_Md_feed hM hz zz).px (fun u S' I' J' hq => ⟨hq.1, hq.2.2.1, hq.2.2.2⟩) (fun v S' I' J' hq => ?_)
  obtain ⟨-, hS, hI, hJ⟩ := hq
  have e2 : J' = J := by rw [hJ]; unfold gj_Md_feed; (repeat' split) <;> rfl
  subst e2
  unfold gi_Md_feed at hI
  split at hI
  · rw [hI]; exact ⟨hS, h0, fun a ha => ⟨rfl, rfl⟩, rfl, rfl, rfl⟩
  · rename_i c1
    split at hI
    · rw [hI]; exact ⟨hS, h0, fun a ha => ⟨rfl, rfl⟩, rfl, rfl, rfl⟩
    · rename_i c2
      have hz9 : z < 100 := by
        rcases Nat.lt_or_ge z 100 with q | q
        · exact q
        · exact absurd (by rw [hz, show z = 100 by omega]; rfl) c2
      have e : ∀ a, a ≠ 114 → a ≠ 123 → I' a = I a := fun a a1 a2 => by rw [hI, qup_row a2, qup_row a1]
      have f : ∀ j, j ≠ 11 → I' 114 j = I 114 j := fun j hj => by rw [hI, qup_o (by decide), qup_j hj]
      have kk : ∀ j, j < 124 → kp I' j = kp I j := fun j hj => by
        obtain ⟨q1, q2⟩ := kpa_11 j hj
        unfold kp
        rw [hI, qup_o q2, qup_ne q1]
      refine ⟨hS, ⟨n, h1.cg (f 17 (by decide)) (f 25 (by decide)) (fun a a1 a2 => e a (by omega) (by omega)), h2.cg kk, ?_, ⟨z + 1, by omega, ?_, fun j hj => ?_⟩, ?_, ?_, ?_⟩, fun a ha => ⟨e a (by omega) (by omega), rfl⟩, f 0 (by decide), f 39 (by decide), congrFun (e 139 (by decide) (by decide)) 117⟩
      · rw [f 39 (by decide), e 139 (by decide) (by decide)]; exact h3
      · rw [hI, qup_o (by decide), qup_at, hz, q1]
      · rw [hI, hz, qcl (n := z) (by omega)]
        by_cases q : j = z
        · subst q; rw [qup_at]; exact qw127 c1
        · rw [qup_j q, qup_o (by decide)]; exact hb j (by omega)
      · rw [f 16 (by decide)]; exact h5
      · rw [f 37 (by decide)]; exact h6
      · rw [e 146 (by decide) (by decide)]; exact h7
theorem R_item {tp i : Int32} {z0 : Int64} (hM : isMd S) (h : rDat I) : qMet E y_Md_item b_Md_item 5 (some .int) 2 0 0 [.ref (qb E + 114), .int tp, .int i, .long z0] S I J (fun u S' I' J' => (u = some (.int (ga_Md_item I J tp i z0)) ∧ I' = I ∧ J' = gj_Md_item I J tp i z0) ∧ RQ0 S I J (rT I) u S' I' J') := by
  refine (c_Md_item hM h.tapes).px (fun u S' I' J' hq => ⟨hq.1, by rw [hq.2.2.1]; unfold gi_Md_item; (repeat' split) <;> rfl, hq.2.2.2⟩) (fun v S' I' J' hq => ?_)
  obtain ⟨-, hS, hI, hJ⟩ := hq
  have e1 : I' = I := by rw [hI]; unfold gi_Md_item; (repeat' split) <;> rfl
  have fj : ∀ a, (a < 114 ∨ 147 < a) → J' a = J a := fun a ha => by rw [hJ]; unfold gj_Md_item; (repeat' split) <;> first | rfl | rw [qup_row (by omega)]
  rw [e1]
  exact ⟨hS, h, fun a ha => ⟨rfl, fj a ha⟩, rfl, rfl, rfl⟩
end H19
