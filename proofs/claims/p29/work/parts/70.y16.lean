/-! the reference's asks keep its invariant -/
def rT (I I' : qI) : Prop := I' 114 0 = I 114 0 ∧ I' 114 39 = I 114 39 ∧ I' 139 117 = I 139 117
def rFar (I I' : qI) (J J' : qJ) : Prop := ∀ a, (a < 114 ∨ 147 < a) → I' a = I a ∧ J' a = J a
abbrev RQ0 (S : qSh) (I : qI) (J : qJ) (T : qI → Prop) : qPost := fun _ S' I' J' => S = S' ∧ rDat I' ∧ rFar I I' J J' ∧ T I'
abbrev RQ (S : qSh) (I : qI) (J : qJ) (T : qI → Prop) : qPost := fun v S' I' J' => VI v ∧ RQ0 S I J T v S' I' J'
abbrev RL (S : qSh) (I : qI) (J : qJ) (T : qI → Prop) : qPost := fun v S' I' J' => VL v ∧ RQ0 S I J T v S' I' J'
def rU (I I' : qI) (J J' : qJ) : Prop := (∀ j, j < 123 → kp I' j = kp I j) ∧ I' 139 = I 139 ∧ I' 114 39 = I 114 39 ∧ (I' 114 37 = I 114 37 ∧ I' 138 = I 138) ∧ ∀ a, 145 ≤ a → a ≤ 147 → I' a = I a ∧ J' a = J a
theorem rU.rf {I : qI} {J : qJ} : rU I I J J := ⟨fun _ _ => rfl, rfl, rfl, ⟨rfl, rfl⟩, fun _ _ _ => ⟨rfl, rfl⟩⟩
theorem rU.ask {I I' : qI} {J J' : qJ} (hs : mSame I I') (hj : mJo J J') : rU I I' J J' := ⟨fun j hj => hs.1 j (by omega), hs.2.1 139 (by unfold kpc; omega) (by omega), hs.2.2 39 (by decide) (by decide) (by decide) (by decide) (by decide) (by decide) (by decide) (by decide) (by decide), ⟨hs.2.2 37 (by decide) (by decide) (by decide) (by decide) (by decide) (by decide) (by decide) (by decide) (by decide), hs.2.1 138 (by unfold kpc; omega) (by omega)⟩, fun a a1 a2 => ⟨hs.2.1 a (by unfold kpc; omega) (by omega), hj a (by omega)⟩⟩
theorem RQ.ask {S S' : qSh} {I I' : qI} {J J' : qJ} {v : Option Value} (h : rDat I) (hS : S = S') (hs : mSame I I') (hj : mJo J J') : RQ0 S I J (rT I) v S' I' J' := by
  refine ⟨hS, h.same hs, fun a ha => ⟨hs.2.1 a (by unfold kpc; omega) (by omega), hj a (by omega)⟩, hs.1 117 (by decide), hs.2.2 39 (by decide) (by decide) (by decide) (by decide) (by decide) (by decide) (by decide) (by decide) (by decide), ?_⟩
  rw [hs.2.1 139 (by unfold kpc; omega) (by omega)]
theorem rDat.c {I : qI} (h : rDat I) : ∃ c, c ≤ 6 ∧ I 114 0 = nI c := by
  obtain ⟨n, h1, ⟨k1, ⟨c, c6, hc, -⟩, -⟩, -⟩ := h
  exact ⟨c, c6, hc⟩
theorem rDat.kinds {I : qI} (h : rDat I) : ∀ p, p < 6 → ∃ k, k < 7 ∧ I 115 p = nI k := fun p hp => by
  obtain ⟨n, h1, ⟨k1, -⟩, -⟩ := h
  obtain ⟨k, k7, hk⟩ := k1 p hp
  refine ⟨k, k7, ?_⟩
  have : ∀ p, p < 6 → kpa p = (115, p) := by decide +kernel
  rw [← hk]; unfold kp; rw [this p hp]
theorem rDat.seen {I : qI} (h : rDat I) : (∃ z, z ≤ 5 ∧ I 114 27 = nI z) ∧ ∀ i, i < 5 → ∃ t, t ≤ 20 ∧ I 133 i = nI t := by
  obtain ⟨n, h1, ⟨-, -, -, -, k5, k6, k7, k8, k9, k10, k11⟩, -⟩ := h
  refine ⟨k5, fun i hi => ?_⟩
  obtain ⟨t, t1, ht⟩ := k9 i hi
  refine ⟨t, t1, ?_⟩
  have : ∀ p, p < 5 → kpa (76 + p) = (133, p) := by decide +kernel
  rw [← ht]; unfold kp; rw [this i hi]
theorem rDat.plan {I : qI} (h : rDat I) : (∃ z, z ≤ 10 ∧ I 114 31 = nI z) ∧ ∀ i, i < 10 → ∃ t, t < 6 ∧ I 135 i = nI t := by
  obtain ⟨n, h1, ⟨-, -, -, -, k5, k6, k7, k8, k9, k10, k11⟩, -⟩ := h
  refine ⟨k6, fun i hi => ?_⟩
  obtain ⟨t, t1, ht⟩ := k10 i hi
  refine ⟨t, t1, ?_⟩
  have : ∀ p, p < 10 → kpa (91 + p) = (135, p) := by decide +kernel
  rw [← ht]; unfold kp; rw [this i hi]
theorem rDat.book {I : qI} (h : rDat I) : (∃ z, z ≤ 8 ∧ I 114 34 = nI z) ∧ ∀ i, i < 8 → ∃ t, t < 6 ∧ I 136 i = nI t := by
  obtain ⟨n, h1, ⟨-, -, -, -, k5, k6, k7, k8, k9, k10, k11⟩, -⟩ := h
  refine ⟨k7, fun i hi => ?_⟩
  obtain ⟨t, t1, ht⟩ := k11 i hi
  refine ⟨t, t1, ?_⟩
  have : ∀ p, p < 8 → kpa (101 + p) = (136, p) := by decide +kernel
  rw [← ht]; unfold kp; rw [this i hi]
theorem rDat.tapes {I : qI} (h : rDat I) : ∀ t, t < 6 → ∃ z, z ≤ 60 ∧ I 146 t = nI z := by
  obtain ⟨n, h1, h2, h3, h4, h5, h6, h7⟩ := h
  exact h7
section H16
variable {E : qE} {S : qSh} {I : qI} {J : qJ}
theorem R_on {n x : Int32} (hM : isMd S) (h : rDat I) : qMet E y_Md_on b_Md_on 4 (some .int) 5 0 0 [.ref (qb E + 114), .int n, .int x] S I J (fun u S' I' J' => (VI u ∧ rU I I' J J') ∧ RQ0 S I J (rT I) u S' I' J') := by
  refine (c_Md_on hM h.day ).px (fun u S' I' J' hq => by obtain ⟨r, h, -, hs, hj⟩ := hq; exact ⟨⟨r, h⟩, rU.ask hs (fun b _ => by rw [← hj])⟩) (fun v S' I' J' hq => ?_)
  obtain ⟨r, -, hS, hs, hj⟩ := hq
  exact RQ.ask h hS hs (fun b _ => by rw [← hj])
theorem R_turn {x : Int32} (hM : isMd S) (h : rDat I) : qMet E y_Md_turn b_Md_turn 4 (some .int) 5 0 0 [.ref (qb E + 114), .int x] S I J (fun u S' I' J' => (VI u ∧ rU I I' J J') ∧ RQ0 S I J (rT I) u S' I' J') := by
  refine (c_Md_turn hM h.day ).px (fun u S' I' J' hq => by obtain ⟨r, h, -, hs, hj⟩ := hq; exact ⟨⟨r, h⟩, rU.ask hs (fun b _ => by rw [← hj])⟩) (fun v S' I' J' hq => ?_)
  obtain ⟨r, -, hS, hs, hj⟩ := hq
  exact RQ.ask h hS hs (fun b _ => by rw [← hj])
theorem R_empty  (hM : isMd S) (h : rDat I) : qMet E y_Md_empty b_Md_empty 3 (some .int) 5 0 0 [.ref (qb E + 114)] S I J (fun u S' I' J' => (VI u ∧ rU I I' J J') ∧ RQ0 S I J (rT I) u S' I' J') := by
  refine (c_Md_empty hM h.day ).px (fun u S' I' J' hq => by obtain ⟨r, h, -, hs, hj⟩ := hq; exact ⟨⟨r, h⟩, rU.ask hs (fun b _ => by rw [← hj])⟩) (fun v S' I' J' hq => ?_)
  obtain ⟨r, -, hS, hs, hj⟩ := hq
  exact RQ.ask h hS hs (fun b _ => by rw [← hj])
theorem R_ends {x : Int32} (hM : isMd S) (h : rDat I) : qMet E y_Md_ends b_Md_ends 4 (some .int) 5 0 0 [.ref (qb E + 114), .int x] S I J (fun u S' I' J' => (VI u ∧ rU I I' J J') ∧ RQ0 S I J (rT I) u S' I' J') := by
  obtain ⟨⟨z, z1, z2⟩, z3⟩ := h.plan
  refine (c_Md_ends hM h.day z2 z1 z3).px (fun u S' I' J' hq => by obtain ⟨r, h, -, hs, hj⟩ := hq; exact ⟨⟨r, h⟩, rU.ask hs (fun b _ => by rw [← hj])⟩) (fun v S' I' J' hq => ?_)
  obtain ⟨r, -, hS, hs, hj⟩ := hq
  exact RQ.ask h hS hs (fun b _ => by rw [← hj])
theorem R_best {x k : Int32} (hM : isMd S) (h : rDat I) : qMet E y_Md_best b_Md_best 3 (some .int) 9 0 0 [.ref (qb E + 114), .int x, .int k] S I J (fun u S' I' J' => (VI u ∧ rU I I' J J') ∧ RQ0 S I J (rT I) u S' I' J') := by
  refine (c_Md_best hM h.day ).px (fun u S' I' J' hq => by obtain ⟨r, h, -, hs, hj⟩ := hq; exact ⟨⟨r, h⟩, rU.ask hs hj⟩) (fun v S' I' J' hq => ?_)
  obtain ⟨r, -, hS, hs, hj⟩ := hq
  exact RQ.ask h hS hs hj
theorem R_odds {q p : Int32} (hM : isMd S) (h : rDat I) : qMet E y_Md_odds b_Md_odds 3 (some .long) 9 0 0 [.ref (qb E + 114), .int q, .int p] S I J (fun u S' I' J' => (VL u ∧ rU I I' J J') ∧ RQ0 S I J (rT I) u S' I' J') := by
  refine (c_Md_odds hM h.day ).px (fun u S' I' J' hq => by obtain ⟨r, h, -, hs, hj⟩ := hq; exact ⟨⟨r, h⟩, rU.ask hs hj⟩) (fun v S' I' J' hq => ?_)
  obtain ⟨r, -, hS, hs, hj⟩ := hq
  exact RQ.ask h hS hs hj
theorem R_mean {p : Int32} (hM : isMd S) (h : rDat I) : qMet E y_Md_mean b_Md_mean 2 (some .long) 9 0 0 [.ref (qb E + 114), .int p] S I J (fun u S' I' J' => (VL u ∧ rU I I' J J') ∧ RQ0 S I J (rT I) u S' I' J') := by
  refine (c_Md_mean hM h.day ).px (fun u S' I' J' hq => by obtain ⟨r, h, -, hs, hj⟩ := hq; exact ⟨⟨r, h⟩, rU.ask hs hj⟩) (fun v S' I' J' hq => ?_)
  obtain ⟨r, -, hS, hs, hj⟩ := hq
  exact RQ.ask h hS hs hj
theorem R_can {x w y : Int32} (hM : isMd S) (h : rDat I) : qMet E y_Md_can b_Md_can 8 (some .int) 5 0 0 [.ref (qb E + 114), .int x, .int w, .int y] S I J (fun u S' I' J' => (VI u ∧ rU I I' J J') ∧ RQ0 S I J (rT I) u S' I' J') := by
  obtain ⟨⟨z, z1, z2⟩, z3⟩ := h.seen
  refine (c_Md_can hM h.day z2 z1 z3).px (fun u S' I' J' hq => by obtain ⟨r, h, -, hs, hj⟩ := hq; exact ⟨⟨r, h⟩, rU.ask hs (fun b _ => by rw [← hj])⟩) (fun v S' I' J' hq => ?_)
  obtain ⟨r, -, hS, hs, hj⟩ := hq
  exact RQ.ask h hS hs (fun b _ => by rw [← hj])
theorem R_told {x : Int32} (hM : isMd S) (h : rDat I) : qMet E y_Md_told b_Md_told 2 (some .int) 6 0 0 [.ref (qb E + 114), .int x] S I J (fun u S' I' J' => (VI u ∧ rU I I' J J') ∧ RQ0 S I J (rT I) u S' I' J') := by
  refine (c_Md_told hM h.day ).px (fun u S' I' J' hq => by obtain ⟨r, h, -, hs, hj⟩ := hq; exact ⟨⟨r, h⟩, rU.ask hs (fun b _ => by rw [← hj])⟩) (fun v S' I' J' hq => ?_)
  obtain ⟨r, -, hS, hs, hj⟩ := hq
  exact RQ.ask h hS hs (fun b _ => by rw [← hj])
theorem R_of {x w : Int32} (hM : isMd S) (h : rDat I) : qMet E y_Md_of b_Md_of 3 (some .int) 4 0 0 [.ref (qb E + 114), .int x, .int w] S I J (fun u S' I' J' => (VI u ∧ rU I I' J J') ∧ RQ0 S I J (rT I) u S' I' J') := by
  refine (c_Md_of hM h.day ).px (fun u S' I' J' hq => by obtain ⟨r, h, -, hs, hj⟩ := hq; exact ⟨⟨r, h⟩, rU.ask hs (fun b _ => by rw [← hj])⟩) (fun v S' I' J' hq => ?_)
  obtain ⟨r, -, hS, hs, hj⟩ := hq
  exact RQ.ask h hS hs (fun b _ => by rw [← hj])
theorem R_looked  (hM : isMd S) (h : rDat I) : qMet E y_Md_looked b_Md_looked 2 (some .int) 0 0 0 [.ref (qb E + 114)] S I J (fun u S' I' J' => (VI u ∧ rU I I' J J') ∧ RQ0 S I J (rT I) u S' I' J') := by
  obtain ⟨⟨z, z1, z2⟩, z3⟩ := h.book
  refine (c_Md_looked hM z2 z1 z3).px (fun u S' I' J' hq => by obtain ⟨r, h, -, hs, hj⟩ := hq; exact ⟨⟨r, h⟩, rU.ask hs (fun b _ => by rw [← hj])⟩) (fun v S' I' J' hq => ?_)
  obtain ⟨r, -, hS, hs, hj⟩ := hq
  exact RQ.ask h hS hs (fun b _ => by rw [← hj])
theorem R_judge {tp i : Int32} (hM : isMd S) (h : rDat I) : qMet E y_Md_judge b_Md_judge 4 (some .int) 1 0 0 [.ref (qb E + 114), .int tp, .int i] S I J (fun u S' I' J' => (VI u ∧ rU I I' J J') ∧ RQ0 S I J (rT I) u S' I' J') := by
  obtain ⟨c, c6, hc⟩ := h.c
  refine (c_Md_judge hM hc c6 h.tapes).px (fun u S' I' J' hq => by obtain ⟨r, h, -, hs, hj⟩ := hq; exact ⟨⟨r, h⟩, rU.ask hs (fun b _ => by rw [← hj])⟩) (fun v S' I' J' hq => ?_)
  obtain ⟨r, -, hS, hs, hj⟩ := hq
  exact RQ.ask h hS hs (fun b _ => by rw [← hj])
end H16
