/-! the reference's invariant kept: plain numbers, texts -/
theorem rSnap.cg2 {f g : Nat → Int32} {n : Nat} (h : rSnap f n) (e : ∀ j, (j < 6 ∨ (36 ≤ j ∧ j < 42) ∨ (66 ≤ j ∧ j < 124)) → g j = f j) : rSnap g n := by
  obtain ⟨h1, ⟨c, c6, hc, l, l6, hl, ha, hb⟩, h3, h4, h5, h6, h7, h8, h9, h10, h11⟩ := h
  refine ⟨fun p hp => by rw [e p (by omega)]; exact h1 p hp, ⟨c, c6, by rw [e _ (by omega)]; exact hc, l, l6, by rw [e _ (by omega)]; exact hl, fun i hi => by rw [e _ (by omega)]; exact ha i hi, fun i j hij hj => by rw [e _ (by omega), e _ (by omega)]; exact hb i j hij hj⟩, fun k hk => by rw [e _ (by omega)]; exact h3 k hk, by rw [e _ (by omega)]; exact h4, by rw [e _ (by omega)]; exact h5, by rw [e _ (by omega)]; exact h6, by rw [e _ (by omega)]; exact h7, by rw [e _ (by omega)]; exact h8, fun i hi => by rw [e _ (by omega)]; exact h9 i hi, fun i hi => by rw [e _ (by omega)]; exact h10 i hi, fun i hi => by rw [e _ (by omega)]; exact h11 i hi⟩
theorem kpa_free : ∀ j, j < 124 → (j < 6 ∨ (36 ≤ j ∧ j < 42) ∨ (66 ≤ j ∧ j < 124)) → 114 ≤ (kpa j).1 ∧ ((kpa j).1 < 116 ∨ 121 < (kpa j).1) := by decide +kernel
theorem rDat.free {I I' : qI} (h : rDat I) (e : ∀ a, (a < 116 ∨ 121 < a) → I' a = I a) : rDat I' := by
  obtain ⟨n, h1, h2, h3, h4, h5, h6, h7⟩ := h
  have e4 := e 114 (by omega)
  refine ⟨n, h1.cg (by rw [e4]) (by rw [e4]) (fun a a1 a2 => e a (by omega)), h2.cg2 (fun j hj => ?_), ?_, ?_, ?_, ?_, ?_⟩
  · unfold kp
    rw [e _ (kpa_free j (by omega) hj).2]
  · rw [e4, e 139 (by omega)]; exact h3
  · rw [e4, e 123 (by omega)]; exact h4
  · rw [e4]; exact h5
  · rw [e4]; exact h6
  · rw [e 146 (by omega)]; exact h7
section H18
variable {E : qE} {S : qSh} {I : qI} {J : qJ}
theorem RQ.free {S S' : qSh} {I I' : qI} {J J' : qJ} {v : Option Value} (h : rDat I) (hS : S = S') (e : ∀ a, (a < 116 ∨ 121 < a) → I' a = I a) (hj : J' = J) : RQ0 S I J (rT I) v S' I' J' := by
  subst hj
  exact ⟨hS, h.free e, fun a ha => ⟨e a (by omega), rfl⟩, congrFun (e 114 (by omega)) 0, congrFun (e 114 (by omega)) 39, congrFun (e 139 (by omega)) 117⟩
theorem R_set {p x n : Int32} (hM : isMd S) (h : rDat I) : qMet E y_Md_set b_Md_set 5 (some .int) 2 0 0 [.ref (qb E + 114), .int p, .int x, .int n] S I J (fun u S' I' J' => (u = some (.int (ga_Md_set I J p x n)) ∧ I' = gi_Md_set I J p x n ∧ J' = gj_Md_set I J p x n) ∧ RQ0 S I J (rT I) u S' I' J') := by
  obtain ⟨c, c6, hc⟩ := h.c
  refine (c_Md_set hM hc c6).px (fun u S' I' J' hq => ⟨hq.1, hq.2.2.1, hq.2.2.2⟩) (fun v S' I' J' hq => ?_)
  obtain ⟨-, hS, hI, hJ⟩ := hq
  refine RQ.free h hS (fun a ha => ?_) ?_
  · rw [hI]; unfold gi_Md_set; (repeat' split) <;> first | rfl | rw [qup_row (by omega)]
  · rw [hJ]; unfold gj_Md_set; (repeat' split) <;> rfl
theorem R_done {p x : Int32} (hM : isMd S) (h : rDat I) : qMet E y_Md_done b_Md_done 4 (some .int) 2 0 0 [.ref (qb E + 114), .int p, .int x] S I J (fun u S' I' J' => (u = some (.int (ga_Md_done I J p x)) ∧ I' = gi_Md_done I J p x ∧ J' = gj_Md_done I J p x) ∧ RQ0 S I J (rT I) u S' I' J') := by
  obtain ⟨c, c6, hc⟩ := h.c
  refine (c_Md_done hM hc c6).px (fun u S' I' J' hq => ⟨hq.1, hq.2.2.1, hq.2.2.2⟩) (fun v S' I' J' hq => ?_)
  obtain ⟨-, hS, hI, hJ⟩ := hq
  refine RQ.free h hS (fun a ha => ?_) ?_
  · rw [hI]; unfold gi_Md_done; (repeat' split) <;> first | rfl | rw [qup_row (by omega)]
  · rw [hJ]; unfold gj_Md_done; (repeat' split) <;> rfl
theorem R_row {p q n : Int32} (hM : isMd S) (h : rDat I) : qMet E y_Md_row b_Md_row 5 (some .int) 2 0 0 [.ref (qb E + 114), .int p, .int q, .int n] S I J (fun u S' I' J' => (u = some (.int (ga_Md_row I J p q n)) ∧ I' = gi_Md_row I J p q n ∧ J' = gj_Md_row I J p q n) ∧ RQ0 S I J (rT I) u S' I' J') := by
  obtain ⟨c, c6, hc⟩ := h.c
  refine (c_Md_row hM hc c6).px (fun u S' I' J' hq => ⟨hq.1, hq.2.2.1, hq.2.2.2⟩) (fun v S' I' J' hq => ?_)
  obtain ⟨-, hS, hI, hJ⟩ := hq
  refine RQ.free h hS (fun a ha => ?_) ?_
  · rw [hI]; unfold gi_Md_row; (repeat' split) <;> first | rfl | rw [qup_row (by omega)]
  · rw [hJ]; unfold gj_Md_row; (repeat' split) <;> rfl
theorem R_trace {x : Int32} (hM : isMd S) (h : rDat I) : qMet E y_Md_trace b_Md_trace 2 (some .int) 1 0 0 [.ref (qb E + 114), .int x] S I J (fun u S' I' J' => ((u = some (.int (ga_Md_trace I J x)) ∧ rU I I' J J') ∧ rW I I') ∧ RQ0 S I J (rT I) u S' I' J') := by
  obtain ⟨t, t1, ht⟩ : ∃ t, t < 2 ^ 30 ∧ I 114 37 = nI t := by
    obtain ⟨n, h1, h2, h3, h4, h5, h6, h7⟩ := h
    exact h6
  refine (c_Md_trace hM ht (by omega)).px (fun u S' I' J' hq => by obtain ⟨h, -, hI, hJ⟩ := hq; rw [show I' = I by rw [hI]; unfold gi_Md_trace; (repeat' split) <;> rfl, show J' = J by rw [hJ]; unfold gj_Md_trace; (repeat' split) <;> rfl]; exact ⟨⟨h, rU.rf⟩, rW.rf⟩) (fun v S' I' J' hq => ?_)
  obtain ⟨-, hS, hI, hJ⟩ := hq
  refine RQ.free h hS (fun a ha => ?_) ?_
  · rw [hI]; unfold gi_Md_trace; (repeat' split) <;> rfl
  · rw [hJ]; unfold gj_Md_trace; (repeat' split) <;> rfl
end H18
/-! the reference's invariant kept: texts, items -/
theorem kpa_11 : ∀ j, j < 124 → ¬ ((kpa j).1 = 114 ∧ (kpa j).2 = 11) ∧ (kpa j).1 ≠ 123 := by decide +kernel
section H19
variable {E : qE} {S : qSh} {I : qI} {J : qJ}
theorem R_feed {x : Int32} (hM : isMd S) (h : rDat I) : qMet E y_Md_feed b_Md_feed 2 (some .int) 1 0 0 [.ref (qb E + 114), .int x] S I J (fun u S' I' J' => (u = some (.int (ga_Md_feed I J x)) ∧ I' = gi_Md_feed I J x ∧ J' = gj_Md_feed I J x) ∧ RQ0 S I J (rT I) u S' I' J') := by
  have h0 := h
  obtain ⟨n, h1, h2, h3, ⟨z, zz, hz, hb⟩, h5, h6, h7⟩ := h
  refine (c_Md_feed hM hz zz).px (fun u S' I' J' hq => ⟨hq.1, hq.2.2.1, hq.2.2.2⟩) (fun v S' I' J' hq => ?_)
  obtain ⟨-, hS, hI, hJ⟩ := hq
  have e2 : J' = J := by rw [hJ]; unfold gj_Md_feed; (repeat' split) <;> rfl
  subst e2
  unfold gi_Md_feed at hI
  split at hI
  · rw [hI]; exact ⟨hS, h0, fun a ha => ⟨rfl, rfl⟩, rfl, rfl, rfl⟩
  · rename_i c1
    split at hI
    · rw [hI]; exact ⟨hS, h0, fun a ha => ⟨rfl, rfl⟩, rfl, rfl, rfl⟩
    · rename_i c2
      have hz9 : z < 100 := by
        rcases Nat.lt_or_ge z 100 with q | q
        · exact q
        · exact absurd (by rw [hz, show z = 100 by omega]; rfl) c2
      have e : ∀ a, a ≠ 114 → a ≠ 123 → I' a = I a := fun a a1 a2 => by rw [hI, qup_row a2, qup_row a1]
      have f : ∀ j, j ≠ 11 → I' 114 j = I 114 j := fun j hj => by rw [hI, qup_o (by decide), qup_j hj]
      have kk : ∀ j, j < 124 → kp I' j = kp I j := fun j hj => by
        obtain ⟨q1, q2⟩ := kpa_11 j hj
        unfold kp
        rw [hI, qup_o q2, qup_ne q1]
      refine ⟨hS, ⟨n, h1.cg (f 17 (by decide)) (f 25 (by decide)) (fun a a1 a2 => e a (by omega) (by omega)), h2.cg kk, ?_, ⟨z + 1, by omega, ?_, fun j hj => ?_⟩, ?_, ?_, ?_⟩, fun a ha => ⟨e a (by omega) (by omega), rfl⟩, f 0 (by decide), f 39 (by decide), congrFun (e 139 (by decide) (by decide)) 117⟩
      · rw [f 39 (by decide), e 139 (by decide) (by decide)]; exact h3
      · rw [hI, qup_o (by decide), qup_at, hz, q1]
      · rw [hI, hz, qcl (n := z) (by omega)]
        by_cases q : j = z
        · subst q; rw [qup_at]; exact qw127 c1
        · rw [qup_j q, qup_o (by decide)]; exact hb j (by omega)
      · rw [f 16 (by decide)]; exact h5
      · rw [f 37 (by decide)]; exact h6
      · rw [e 146 (by decide) (by decide)]; exact h7
theorem R_item {tp i : Int32} {z0 : Int64} (hM : isMd S) (h : rDat I) : qMet E y_Md_item b_Md_item 5 (some .int) 2 0 0 [.ref (qb E + 114), .int tp, .int i, .long z0] S I J (fun u S' I' J' => (u = some (.int (ga_Md_item I J tp i z0)) ∧ I' = I ∧ J' = gj_Md_item I J tp i z0) ∧ RQ0 S I J (rT I) u S' I' J') := by
  refine (c_Md_item hM h.tapes).px (fun u S' I' J' hq => ⟨hq.1, by rw [hq.2.2.1]; unfold gi_Md_item; (repeat' split) <;> rfl, hq.2.2.2⟩) (fun v S' I' J' hq => ?_)
  obtain ⟨-, hS, hI, hJ⟩ := hq
  have e1 : I' = I := by rw [hI]; unfold gi_Md_item; (repeat' split) <;> rfl
  have fj : ∀ a, (a < 114 ∨ 147 < a) → J' a = J a := fun a ha => by rw [hJ]; unfold gj_Md_item; (repeat' split) <;> first | rfl | rw [qup_row (by omega)]
  rw [e1]
  exact ⟨hS, h, fun a ha => ⟨rfl, fj a ha⟩, rfl, rfl, rfl⟩
end H19
