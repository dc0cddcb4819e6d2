/-! the reference's asks keep its invariant -/
def rT (I I' : qI) : Prop := I' 114 0 = I 114 0 ∧ I' 114 39 = I 114 39 ∧ I' 139 117 = I 139 117
def rFar (I I' : qI) (J J' : qJ) : Prop := ∀ a, (a < 114 ∨ 147 < a) → I' a = I a ∧ J' a = J a
abbrev RQ0 (S : qSh) (I : qI) (J : qJ) (T : qI → Prop) : qPost := fun _ S' I' J' => S = S' ∧ rDat I' ∧ rFar I I' J J' ∧ T I'
abbrev RQ (S : qSh) (I : qI) (J : qJ) (T : qI → Prop) : qPost := fun v S' I' J' => VI v ∧ RQ0 S I J T v S' I' J'
abbrev RL (S : qSh) (I : qI) (J : qJ) (T : qI → Prop) : qPost := fun v S' I' J' => VL v ∧ RQ0 S I J T v S' I' J'
def rU (I I' : qI) (J J' : qJ) : Prop := (∀ j, j < 123 → kp I' j = kp I j) ∧ I' 139 = I 139 ∧ I' 114 39 = I 114 39 ∧ (I' 114 37 = I 114 37 ∧ I' 138 = I 138) ∧ (I' 114 17 = I 114 17 ∧ I' 114 11 = I 114 11 ∧ I' 123 = I 123) ∧ ∀ a, 145 ≤ a → a ≤ 147 → I' a = I a ∧ J' a = J a
theorem rU.rf {I : qI} {J : qJ} : rU I I J J := ⟨fun _ _ => rfl, rfl, rfl, ⟨rfl, rfl⟩, ⟨rfl, rfl, rfl⟩, fun _ _ _ => ⟨rfl, rfl⟩⟩
theorem rU.ask {I I' : qI} {J J' : qJ} (hs : mSame I I') (hj : mJo J J') : rU I I' J J' := ⟨fun j hj => hs.1 j (by omega), hs.2.1 139 (by unfold kpc; omega) (by omega), hs.2.2 39 (by decide) (by decide) (by decide) (by decide) (by decide) (by decide) (by decide) (by decide) (by decide), ⟨hs.2.2 37 (by decide) (by decide) (by decide) (by decide) (by decide) (by decide) (by decide) (by decide) (by decide), hs.2.1 138 (by unfold kpc; omega) (by omega)⟩, ⟨hs.2.2 17 (by decide) (by decide) (by decide) (by decide) (by decide) (by decide) (by decide) (by decide) (by decide), hs.2.2 11 (by decide) (by decide) (by decide) (by decide) (by decide) (by decide) (by decide) (by decide) (by decide), hs.2.1 123 (by unfold kpc; omega) (by omega)⟩, fun a a1 a2 => ⟨hs.2.1 a (by unfold kpc; omega) (by omega), hj a (by omega)⟩⟩
/-- what the reference holds, and its tables, as they were -/
def rW (I I' : qI) : Prop := I' 114 18 = I 114 18 ∧ I' 114 25 = I 114 25 ∧ ∀ a, 124 ≤ a → a ≤ 129 → I' a = I a
theorem rW.rf {I : qI} : rW I I := ⟨rfl, rfl, fun _ _ _ => rfl⟩
theorem rW.ask {I I' : qI} (hs : mSame I I') : rW I I' := ⟨hs.1 123 (by decide), hs.2.2 25 (by decide) (by decide) (by decide) (by decide) (by decide) (by decide) (by decide) (by decide) (by decide), fun a a1 a2 => hs.2.1 a (by unfold kpc; omega) (by omega)⟩
theorem RQ.ask {S S' : qSh} {I I' : qI} {J J' : qJ} {v : Option Value} (h : rDat I) (hS : S = S') (hs : mSame I I') (hj : mJo J J') : RQ0 S I J (rT I) v S' I' J' := by
  refine ⟨hS, h.same hs, fun a ha => ⟨hs.2.1 a (by unfold kpc; omega) (by omega), hj a (by omega)⟩, hs.1 117 (by decide), hs.2.2 39 (by decide) (by decide) (by decide) (by decide) (by decide) (by decide) (by decide) (by decide) (by decide), ?_⟩
  rw [hs.2.1 139 (by unfold kpc; omega) (by omega)]
theorem rDat.c {I : qI} (h : rDat I) : ∃ c, c ≤ 6 ∧ I 114 0 = nI c := by
  obtain ⟨n, h1, ⟨k1, ⟨c, c6, hc, -⟩, -⟩, -⟩ := h
  exact ⟨c, c6, hc⟩
theorem rDat.kinds {I : qI} (h : rDat I) : ∀ p, p < 6 → ∃ k, k < 7 ∧ I 115 p = nI k := fun p hp => by
  obtain ⟨n, h1, ⟨k1, -⟩, -⟩ := h
  obtain ⟨k, k7, hk⟩ := k1 p hp
  refine ⟨k, k7, ?_⟩
  have : ∀ p, p < 6 → kpa p = (115, p) := by decide +kernel
  rw [← hk]; unfold kp; rw [this p hp]
theorem rDat.seen {I : qI} (h : rDat I) : (∃ z, z ≤ 5 ∧ I 114 27 = nI z) ∧ ∀ i, i < 5 → ∃ t, t ≤ 20 ∧ I 133 i = nI t := by
  obtain ⟨n, h1, ⟨-, -, -, -, k5, k6, k7, k8, k9, k10, k11⟩, -⟩ := h
  refine ⟨k5, fun i hi => ?_⟩
  obtain ⟨t, t1, ht⟩ := k9 i hi
  refine ⟨t, t1, ?_⟩
  have : ∀ p, p < 5 → kpa (76 + p) = (133, p) := by decide +kernel
  rw [← ht]; unfold kp; rw [this i hi]
theorem rDat.plan {I : qI} (h : rDat I) : (∃ z, z ≤ 10 ∧ I 114 31 = nI z) ∧ ∀ i, i < 10 → ∃ t, t < 6 ∧ I 135 i = nI t := by
  obtain ⟨n, h1, ⟨-, -, -, -, k5, k6, k7, k8, k9, k10, k11⟩, -⟩ := h
  refine ⟨k6, fun i hi => ?_⟩
  obtain ⟨t, t1, ht⟩ := k10 i hi
  refine ⟨t, t1, ?_⟩
  have : ∀ p, p < 10 → kpa (91 + p) = (135, p) := by decide +kernel
  rw [← ht]; unfold kp; rw [this i hi]
theorem rDat.book {I : qI} (h : rDat I) : (∃ z, z ≤ 8 ∧ I 114 34 = nI z) ∧ ∀ i, i < 8 → ∃ t, t < 6 ∧ I 136 i = nI t := by
  obtain ⟨n, h1, ⟨-, -, -, -, k5, k6, k7, k8, k9, k10, k11⟩, -⟩ := h
  refine ⟨k7, fun i hi => ?_⟩
  obtain ⟨t, t1, ht⟩ := k11 i hi
  refine ⟨t, t1, ?_⟩
  have : ∀ p, p < 8 → kpa (101 + p) = (136, p) := by decide +kernel
  rw [← ht]; unfold kp; rw [this i hi]
theorem rDat.tapes {I : qI} (h : rDat I) : ∀ t, t < 6 → ∃ z, z ≤ 60 ∧ I 146 t = nI z := by
  obtain ⟨n, h1, h2, h3, h4, h5, h6, h7⟩ := h
  exact h7
section H16
variable {E : qE} {S : qSh} {I : qI} {J : qJ}
theorem R_on {n x : Int32} (hM : isMd S) (h : rDat I) : qMet E y_Md_on b_Md_on 4 (some .int) 5 0 0 [.ref (qb E + 114), .int n, .int x] S I J (fun u S' I' J' => ((VI u ∧ rU I I' J J') ∧ rW I I') ∧ RQ0 S I J (rT I) u S' I' J') := by
  refine (c_Md_on hM h.day ).px (fun u S' I' J' hq => by obtain ⟨r, h, -, hs, hj⟩ := hq; exact ⟨⟨⟨r, h⟩, rU.ask hs (fun b _ => by rw [← hj])⟩, rW.ask hs⟩) (fun v S' I' J' hq => ?_)
  obtain ⟨r, -, hS, hs, hj⟩ := hq
  exact RQ.ask h hS hs (fun b _ => by rw [← hj])
theorem R_turn {x : Int32} (hM : isMd S) (h : rDat I) : qMet E y_Md_turn b_Md_turn 4 (some .int) 5 0 0 [.ref (qb E + 114), .int x] S I J (fun u S' I' J' => ((VI u ∧ rU I I' J J') ∧ rW I I') ∧ RQ0 S I J (rT I) u S' I' J') := by
  refine (c_Md_turn hM h.day ).px (fun u S' I' J' hq => by obtain ⟨r, h, -, hs, hj⟩ := hq; exact ⟨⟨⟨r, h⟩, rU.ask hs (fun b _ => by rw [← hj])⟩, rW.ask hs⟩) (fun v S' I' J' hq => ?_)
  obtain ⟨r, -, hS, hs, hj⟩ := hq
  exact RQ.ask h hS hs (fun b _ => by rw [← hj])
theorem R_empty  (hM : isMd S) (h : rDat I) : qMet E y_Md_empty b_Md_empty 3 (some .int) 5 0 0 [.ref (qb E + 114)] S I J (fun u S' I' J' => ((VI u ∧ rU I I' J J') ∧ rW I I') ∧ RQ0 S I J (rT I) u S' I' J') := by
  refine (c_Md_empty hM h.day ).px (fun u S' I' J' hq => by obtain ⟨r, h, -, hs, hj⟩ := hq; exact ⟨⟨⟨r, h⟩, rU.ask hs (fun b _ => by rw [← hj])⟩, rW.ask hs⟩) (fun v S' I' J' hq => ?_)
  obtain ⟨r, -, hS, hs, hj⟩ := hq
  exact RQ.ask h hS hs (fun b _ => by rw [← hj])
theorem R_ends {x : Int32} (hM : isMd S) (h : rDat I) : qMet E y_Md_ends b_Md_ends 4 (some .int) 5 0 0 [.ref (qb E + 114), .int x] S I J (fun u S' I' J' => ((VI u ∧ rU I I' J J') ∧ rW I I') ∧ RQ0 S I J (rT I) u S' I' J') := by
  obtain ⟨⟨z, z1, z2⟩, z3⟩ := h.plan
  refine (c_Md_ends hM h.day z2 z1 z3).px (fun u S' I' J' hq => by obtain ⟨r, h, -, hs, hj⟩ := hq; exact ⟨⟨⟨r, h⟩, rU.ask hs (fun b _ => by rw [← hj])⟩, rW.ask hs⟩) (fun v S' I' J' hq => ?_)
  obtain ⟨r, -, hS, hs, hj⟩ := hq
  exact RQ.ask h hS hs (fun b _ => by rw [← hj])
theorem R_best {x k : Int32} (hM : isMd S) (h : rDat I) : qMet E y_Md_best b_Md_best 3 (some .int) 9 0 0 [.ref (qb E + 114), .int x, .int k] S I J (fun u S' I' J' => ((VI u ∧ rU I I' J J') ∧ rW I I') ∧ RQ0 S I J (rT I) u S' I' J') := by
  refine (c_Md_best hM h.day ).px (fun u S' I' J' hq => by obtain ⟨r, h, -, hs, hj⟩ := hq; exact ⟨⟨⟨r, h⟩, rU.ask hs hj⟩, rW.ask hs⟩) (fun v S' I' J' hq => ?_)
  obtain ⟨r, -, hS, hs, hj⟩ := hq
  exact RQ.ask h hS hs hj
theorem R_odds {q p : Int32} (hM : isMd S) (h : rDat I) : qMet E y_Md_odds b_Md_odds 3 (some .long) 9 0 0 [.ref (qb E + 114), .int q, .int p] S I J (fun u S' I' J' => ((VL u ∧ rU I I' J J') ∧ rW I I') ∧ RQ0 S I J (rT I) u S' I' J') := by
  refine (c_Md_odds hM h.day ).px (fun u S' I' J' hq => by obtain ⟨r, h, -, hs, hj⟩ := hq; exact ⟨⟨⟨r, h⟩, rU.ask hs hj⟩, rW.ask hs⟩) (fun v S' I' J' hq => ?_)
  obtain ⟨r, -, hS, hs, hj⟩ := hq
  exact RQ.ask h hS hs hj
theorem R_mean {p : Int32} (hM : isMd S) (h : rDat I) : qMet E y_Md_mean b_Md_mean 2 (some .long) 9 0 0 [.ref (qb E + 114), .int p] S I J (fun u S' I' J' => ((VL u ∧ rU I I' J J') ∧ rW I I') ∧ RQ0 S I J (rT I) u S' I' J') := by
  refine (c_Md_mean hM h.day ).px (fun u S' I' J' hq => by obtain ⟨r, h, -, hs, hj⟩ := hq; exact ⟨⟨⟨r, h⟩, rU.ask hs hj⟩, rW.ask hs⟩) (fun v S' I' J' hq => ?_)
  obtain ⟨r, -, hS, hs, hj⟩ := hq
  exact RQ.ask h hS hs hj
theorem R_can {x w y : Int32} (hM : isMd S) (h : rDat I) : qMet E y_Md_can b_Md_can 8 (some .int) 5 0 0 [.ref (qb E + 114), .int x, .int w, .int y] S I J (fun u S' I' J' => ((VI u ∧ rU I I' J J') ∧ rW I I') ∧ RQ0 S I J (rT I) u S' I' J') := by
  obtain ⟨⟨z, z1, z2⟩, z3⟩ := h.seen
  refine (c_Md_can hM h.day z2 z1 z3).px (fun u S' I' J' hq => by obtain ⟨r, h, -, hs, hj⟩ := hq; exact ⟨⟨⟨r, h⟩, rU.ask hs (fun b _ => by rw [← hj])⟩, rW.ask hs⟩) (fun v S' I' J' hq => ?_)
  obtain ⟨r, -, hS, hs, hj⟩ := hq
  exact RQ.ask h hS hs (fun b _ => by rw [← hj])
theorem R_told {x : Int32} (hM : isMd S) (h : rDat I) : qMet E y_Md_told b_Md_told 2 (some .int) 6 0 0 [.ref (qb E + 114), .int x] S I J (fun u S' I' J' => ((VI u ∧ rU I I' J J') ∧ rW I I') ∧ RQ0 S I J (rT I) u S' I' J') := by
  refine (c_Md_told hM h.day ).px (fun u S' I' J' hq => by obtain ⟨r, h, -, hs, hj⟩ := hq; exact ⟨⟨⟨r, h⟩, rU.ask hs (fun b _ => by rw [← hj])⟩, rW.ask hs⟩) (fun v S' I' J' hq => ?_)
  obtain ⟨r, -, hS, hs, hj⟩ := hq
  exact RQ.ask h hS hs (fun b _ => by rw [← hj])
theorem R_of {x w : Int32} (hM : isMd S) (h : rDat I) : qMet E y_Md_of b_Md_of 3 (some .int) 4 0 0 [.ref (qb E + 114), .int x, .int w] S I J (fun u S' I' J' => ((VI u ∧ rU I I' J J') ∧ rW I I') ∧ RQ0 S I J (rT I) u S' I' J') := by
  refine (c_Md_of hM h.day ).px (fun u S' I' J' hq => by obtain ⟨r, h, -, hs, hj⟩ := hq; exact ⟨⟨⟨r, h⟩, rU.ask hs (fun b _ => by rw [← hj])⟩, rW.ask hs⟩) (fun v S' I' J' hq => ?_)
  obtain ⟨r, -, hS, hs, hj⟩ := hq
  exact RQ.ask h hS hs (fun b _ => by rw [← hj])
theorem R_looked  (hM : isMd S) (h : rDat I) : qMet E y_Md_looked b_Md_looked 2 (some .int) 0 0 0 [.ref (qb E + 114)] S I J (fun u S' I' J' => ((VI u ∧ rU I I' J J') ∧ rW I I') ∧ RQ0 S I J (rT I) u S' I' J') := by
  obtain ⟨⟨z, z1, z2⟩, z3⟩ := h.book
  refine (c_Md_looked hM z2 z1 z3).px (fun u S' I' J' hq => by obtain ⟨r, h, -, hs, hj⟩ := hq; exact ⟨⟨⟨r, h⟩, rU.ask hs (fun b _ => by rw [← hj])⟩, rW.ask hs⟩) (fun v S' I' J' hq => ?_)
  obtain ⟨r, -, hS, hs, hj⟩ := hq
  exact RQ.ask h hS hs (fun b _ => by rw [← hj])
theorem R_judge {tp i : Int32} (hM : isMd S) (h : rDat I) : qMet E y_Md_judge b_Md_judge 4 (some .int) 1 0 0 [.ref (qb E + 114), .int tp, .int i] S I J (fun u S' I' J' => ((VI u ∧ rU I I' J J') ∧ rW I I') ∧ RQ0 S I J (rT I) u S' I' J') := by
  obtain ⟨c, c6, hc⟩ := h.c
  refine (c_Md_judge hM hc c6 h.tapes).px (fun u S' I' J' hq => by obtain ⟨r, h, -, hs, hj⟩ := hq; exact ⟨⟨⟨r, h⟩, rU.ask hs (fun b _ => by rw [← hj])⟩, rW.ask hs⟩) (fun v S' I' J' hq => ?_)
  obtain ⟨r, -, hS, hs, hj⟩ := hq
  exact RQ.ask h hS hs (fun b _ => by rw [← hj])
end H16
/-! the reference's invariant kept: the image, undo, plain answers -/
theorem kpa_39 : ∀ j, j < 124 → ¬ ((kpa j).1 = 114 ∧ (kpa j).2 = 39) := by decide +kernel
theorem kpa_139 : ∀ j, j < 124 → (kpa j).1 ≠ 139 := by decide +kernel
section H17
variable {E : qE} {S : qSh} {I : qI} {J : qJ}
theorem R_taken {m x : Int32} (hM : isMd S) (h : rDat I) : qMet E y_Md_taken b_Md_taken 4 (some .int) 2 0 0 [.ref (qb E + 114), .int m, .int x] S I J (fun u S' I' J' => (((∃ c, c ≤ 6 ∧ I 114 0 = nI c ∧ rU I I' J J' ∧ (qwithin x 0 6 = 0 ∧ u = some (.int (-2)) ∨ ¬ qwithin x 0 6 = 0 ∧ (∀ p, p < c → m ≠ nI p) ∧ u = some (.int (-11)) ∨ ¬ qwithin x 0 6 = 0 ∧ ∃ p k, p < c ∧ m = nI p ∧ k < 7 ∧ I 115 p = nI k ∧ u = some (.int (if nI (mupN 7 k x) = x then nI k else -12))))) ∧ rW I I') ∧ RQ0 S I J (rT I) u S' I' J') := by
  obtain ⟨c, c6, hc⟩ := h.c
  refine (c_Md_taken hM hc c6 h.kinds).px (fun u S' I' J' hq => by obtain ⟨-, rfl, rfl, h⟩ := hq; exact ⟨⟨c, c6, hc, rU.rf, h⟩, rW.rf⟩) (fun v S' I' J' hq => ?_)
  obtain ⟨rfl, rfl, rfl, -⟩ := hq
  exact ⟨rfl, h, fun a ha => ⟨rfl, rfl⟩, rfl, rfl, rfl⟩
theorem R_image (hM : isMd S) (h : rDat I) : qMet E y_Md_image b_Md_image 1 (some .int) 1 0 0 [.ref (qb E + 114)] S I J (fun v S' I' J' => ((v = some (.int (I 114 0)) ∧ (∀ j, j < 124 → I' 139 j = kp I j) ∧ (∀ j, j < 124 → kp I' j = kp I j) ∧ I' 114 39 = 1 ∧ (I' 114 37 = I 114 37 ∧ I' 138 = I 138) ∧ (I' 114 17 = I 114 17 ∧ I' 114 11 = I 114 11 ∧ I' 123 = I 123) ∧ (∀ a, 145 ≤ a → a ≤ 147 → I' a = I a) ∧ J' = J) ∧ rW I I') ∧ RQ0 S I J (fun I' => I' 114 0 = I 114 0 ∧ I' 114 39 = 1 ∧ I' 139 117 = I 114 0) v S' I' J') := by
  refine (c_Md_image hM).post (fun v S' I' J' hq => ?_)
  obtain ⟨rfl, rfl, ho, hk, rfl⟩ := hq
  have e : ∀ a, a ≠ 114 → a ≠ 139 → I' a = I a := fun a a1 a2 => by rw [ho a a2, qup_row a1]
  have f : ∀ j, j ≠ 39 → I' 114 j = I 114 j := fun j hj => by rw [ho 114 (by decide), qup_j hj]
  have kk : ∀ j, j < 124 → kp I' j = kp I j := fun j hj => by
    unfold kp
    rw [ho _ (kpa_139 j hj), qup_ne (kpa_39 j hj)]
  have f39 : I' 114 39 = 1 := by rw [ho 114 (by decide), qup_at]
  obtain ⟨n, h1, h2, h3, h4, h5, h6, h7⟩ := h
  refine ⟨⟨⟨rfl, hk, kk, f39, ⟨f 37 (by decide), e 138 (by decide) (by decide)⟩, ⟨f 17 (by decide), f 11 (by decide), e 123 (by decide) (by decide)⟩, fun a a1 a2 => e a (by omega) (by omega), rfl⟩, f 18 (by decide), f 25 (by decide), fun a a1 a2 => e a (by omega) (by omega)⟩, rfl, ⟨n, h1.cg (f 17 (by decide)) (f 25 (by decide)) (fun a a1 a2 => e a (by omega) (by omega)), h2.cg kk, Or.inr ⟨f39, h2.cg hk⟩, ?_, ?_, ?_, ?_⟩, fun a ha => ⟨e a (by omega) (by omega), rfl⟩, f 0 (by decide), f39, hk 117 (by decide)⟩
  · rw [f 11 (by decide), e 123 (by decide) (by decide)]; exact h4
  · rw [f 16 (by decide)]; exact h5
  · rw [f 37 (by decide)]; exact h6
  · rw [e 146 (by decide) (by decide)]; exact h7
theorem R_undo0 (hM : isMd S) (h : rDat I) (hz : I 114 39 = 0) : qMet E y_Md_undo b_Md_undo 1 (some .int) 1 0 0 [.ref (qb E + 114)] S I J (fun u S' I' J' => ((u = some (.int (-3)) ∧ rU I I' J J') ∧ rW I I') ∧ RQ0 S I J (rT I) u S' I' J') := by
  refine (c_Md_undo hM).px (fun u S' I' J' hq => by obtain ⟨-, rfl, ⟨-, h, rfl⟩ | ⟨q, -⟩⟩ := hq; exact ⟨⟨h, rU.rf⟩, rW.rf⟩; exact absurd hz q) (fun v S' I' J' hq => ?_)
  obtain ⟨rfl, rfl, hR⟩ := hq
  rcases hR with ⟨-, -, rfl⟩ | ⟨q, -⟩
  · exact ⟨rfl, h, fun a ha => ⟨rfl, rfl⟩, rfl, rfl, rfl⟩
  · exact absurd hz q
theorem R_undo1 (hM : isMd S) (h : rDat I) (hz : I 114 39 = 1) : qMet E y_Md_undo b_Md_undo 1 (some .int) 1 0 0 [.ref (qb E + 114)] S I J (fun u S' I' J' => ((u = some (.int (I 139 117)) ∧ (∀ j, j < 124 → kp I' j = I 139 j) ∧ I' 139 = I 139 ∧ (I' 114 37 = I 114 37 ∧ I' 138 = I 138) ∧ (I' 114 17 = I 114 17 ∧ I' 114 11 = I 114 11 ∧ I' 123 = I 123) ∧ (∀ a, 145 ≤ a → a ≤ 147 → I' a = I a) ∧ J' = J) ∧ I' 114 25 = I 114 25 ∧ ∀ a, 124 ≤ a → a ≤ 129 → I' a = I a) ∧ RQ0 S I J (fun I' => I' 114 0 = I 139 117 ∧ I' 114 39 = 1 ∧ I' 139 117 = I 139 117) u S' I' J') := by
  refine (c_Md_undo hM).px (fun u S' I' J' hq => by obtain ⟨-, rfl, ⟨q, -⟩ | ⟨-, h, ho, f, hk⟩⟩ := hq; exact absurd (hz.symm.trans q) (by decide); exact ⟨⟨h, hk, ho 139 (by unfold kpc; omega), ⟨f 37 (by decide) (by decide) (by decide) (by decide) (by decide) (by decide) (by decide), ho 138 (by unfold kpc; omega)⟩, ⟨f 17 (by decide) (by decide) (by decide) (by decide) (by decide) (by decide) (by decide), f 11 (by decide) (by decide) (by decide) (by decide) (by decide) (by decide) (by decide), ho 123 (by unfold kpc; omega)⟩, fun a a1 a2 => ho a (by unfold kpc; omega), rfl⟩, f 25 (by decide) (by decide) (by decide) (by decide) (by decide) (by decide) (by decide), fun a a1 a2 => ho a (by unfold kpc; omega)⟩) (fun v S' I' J' hq => ?_)
  obtain ⟨rfl, rfl, hR⟩ := hq
  rcases hR with ⟨q, -⟩ | ⟨-, -, ho, f, hk⟩
  · rw [hz] at q; exact absurd q (by decide)
  · have e : ∀ a, ¬ kpc a → I' a = I a := ho
    have g : ∀ j, (j = 11 ∨ j = 16 ∨ j = 17 ∨ j = 25 ∨ j = 37 ∨ j = 39) → I' 114 j = I 114 j := fun j hj => f j (by omega) (by omega) (by omega) (by omega) (by omega) (by omega) (by omega)
    obtain ⟨n, h1, h2, h3, h4, h5, h6, h7⟩ := h
    have h3' : rSnap (I 139) n := by
      rcases h3 with q | q
      · rw [hz] at q; exact absurd q (by decide)
      · exact q.2
    refine ⟨rfl, ⟨n, h1.cg (g 17 (by omega)) (g 25 (by omega)) (fun a a1 a2 => e a (by unfold kpc; omega)), h3'.cg hk, ?_, ?_, ?_, ?_, ?_⟩, fun a ha => ⟨e a (by unfold kpc; omega), rfl⟩, hk 117 (by decide), ?_, ?_⟩
    · rw [g 39 (by omega), e 139 (by unfold kpc; omega)]; exact h3
    · rw [g 11 (by omega), e 123 (by unfold kpc; omega)]; exact h4
    · rw [g 16 (by omega)]; exact h5
    · rw [g 37 (by omega)]; exact h6
    · rw [e 146 (by unfold kpc; omega)]; exact h7
    · rw [g 39 (by omega)]; exact hz
    · rw [e 139 (by unfold kpc; omega)]
theorem R_count {x : Int32} (hM : isMd S) (h : rDat I) : qMet E y_Md_count b_Md_count 2 (some .int) 0 0 0 [.ref (qb E + 114), .int x] S I J (fun u S' I' J' => ((u = some (.int (ga_Md_count I J x)) ∧ rU I I' J J') ∧ rW I I') ∧ RQ0 S I J (rT I) u S' I' J') := by
  refine (c_Md_count hM).px (fun u S' I' J' hq => by obtain ⟨h, -, hI, hJ⟩ := hq; rw [show I' = I by rw [hI]; unfold gi_Md_count; (repeat' split) <;> rfl, show J' = J by rw [hJ]; unfold gj_Md_count; (repeat' split) <;> rfl]; exact ⟨⟨h, rU.rf⟩, rW.rf⟩) (fun v S' I' J' hq => ?_)
  obtain ⟨-, rfl, hI, hJ⟩ := hq
  have e1 : I' = I := by rw [hI]; unfold gi_Md_count; (repeat' split) <;> rfl
  have e2 : J' = J := by rw [hJ]; unfold gj_Md_count; (repeat' split) <;> rfl
  rw [e1, e2]
  exact ⟨rfl, h, fun a ha => ⟨rfl, rfl⟩, rfl, rfl, rfl⟩
theorem R_read {tp i : Int32} (hM : isMd S) (h : rDat I) : qMet E y_Md_read b_Md_read 3 (some .long) 2 0 0 [.ref (qb E + 114), .int tp, .int i] S I J (fun u S' I' J' => ((u = some (.long (ga_Md_read I J tp i)) ∧ rU I I' J J') ∧ rW I I') ∧ RQ0 S I J (rT I) u S' I' J') := by
  refine (c_Md_read hM h.tapes).px (fun u S' I' J' hq => by obtain ⟨h, -, hI, hJ⟩ := hq; rw [show I' = I by rw [hI]; unfold gi_Md_read; (repeat' split) <;> rfl, show J' = J by rw [hJ]; unfold gj_Md_read; (repeat' split) <;> rfl]; exact ⟨⟨h, rU.rf⟩, rW.rf⟩) (fun v S' I' J' hq => ?_)
  obtain ⟨-, rfl, hI, hJ⟩ := hq
  have e1 : I' = I := by rw [hI]; unfold gi_Md_read; (repeat' split) <;> rfl
  have e2 : J' = J := by rw [hJ]; unfold gj_Md_read; (repeat' split) <;> rfl
  rw [e1, e2]
  exact ⟨rfl, h, fun a ha => ⟨rfl, rfl⟩, rfl, rfl, rfl⟩
end H17
