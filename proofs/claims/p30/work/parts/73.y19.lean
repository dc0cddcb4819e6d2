/-! the reference's invariant kept: texts, items -/
theorem kpa_11 : ∀ j, j < 124 → ¬ ((kpa j).1 = 114 ∧ (kpa j).2 = 11) ∧ (kpa j).1 ≠ 123 := by decide +kernel
section H19
variable {E : qE} {S : qSh} {I : qI} {J : qJ}
theorem R_feed {x : Int32} (hM : isMd S) (h : rDat I) : qMet E y_Md_feed b_Md_feed 2 (some .int) 1 0 0 [.ref (qb E + 114), .int x] S I J (fun u S' I' J' => VI u ∧ RQ0 S I J (fun I' => rT I I' ∧ rU I I' J J') u S' I' J') := by
  have h0 := h
  obtain ⟨n, h1, h2, h3, ⟨z, zz, hz, hb⟩, h5, h6, h7⟩ := h
  refine (c_Md_feed hM hz zz).pv (fun v S' I' J' hq => ⟨_, hq.1⟩) (fun v S' I' J' hq => ?_)
  obtain ⟨-, hS, hI, hJ⟩ := hq
  have e2 : J' = J := by rw [hJ]; unfold gj_Md_feed; (repeat' split) <;> rfl
  subst e2
  unfold gi_Md_feed at hI
  split at hI
  · rw [hI]; exact ⟨hS, h0, fun a ha => ⟨rfl, rfl⟩, ⟨rfl, rfl, rfl⟩, rU.rf⟩
  · rename_i c1
    split at hI
    · rw [hI]; exact ⟨hS, h0, fun a ha => ⟨rfl, rfl⟩, ⟨rfl, rfl, rfl⟩, rU.rf⟩
    · rename_i c2
      have hz9 : z < 100 := by
        rcases Nat.lt_or_ge z 100 with q | q
        · exact q
        · exact absurd (by rw [hz, show z = 100 by omega]; rfl) c2
      have e : ∀ a, a ≠ 114 → a ≠ 123 → I' a = I a := fun a a1 a2 => by rw [hI, qup_row a2, qup_row a1]
      have f : ∀ j, j ≠ 11 → I' 114 j = I 114 j := fun j hj => by rw [hI, qup_o (by decide), qup_j hj]
      have kk : ∀ j, j < 124 → kp I' j = kp I j := fun j hj => by
        obtain ⟨q1, q2⟩ := kpa_11 j hj
        unfold kp
        rw [hI, qup_o q2, qup_ne q1]
      refine ⟨hS, ⟨n, h1.cg (f 17 (by decide)) (f 25 (by decide)) (fun a a1 a2 => e a (by omega) (by omega)), h2.cg kk, ?_, ⟨z + 1, by omega, ?_, fun j hj => ?_⟩, ?_, ?_, ?_⟩, fun a ha => ⟨e a (by omega) (by omega), rfl⟩, ⟨f 0 (by decide), f 39 (by decide), congrFun (e 139 (by decide) (by decide)) 117⟩, ⟨fun j hj => kk j (by omega), e 139 (by decide) (by decide), f 39 (by decide), ⟨f 37 (by decide), e 138 (by decide) (by decide)⟩, fun a a1 a2 => ⟨e a (by omega) (by omega), rfl⟩⟩⟩
      · rw [f 39 (by decide), e 139 (by decide) (by decide)]; exact h3
      · rw [hI, qup_o (by decide), qup_at, hz, q1]
      · rw [hI, hz, qcl (n := z) (by omega)]
        by_cases q : j = z
        · subst q; rw [qup_at]; exact qw127 c1
        · rw [qup_j q, qup_o (by decide)]; exact hb j (by omega)
      · rw [f 16 (by decide)]; exact h5
      · rw [f 37 (by decide)]; exact h6
      · rw [e 146 (by decide) (by decide)]; exact h7
theorem R_item {tp i : Int32} {z0 : Int64} (hM : isMd S) (h : rDat I) : qMet E y_Md_item b_Md_item 5 (some .int) 2 0 0 [.ref (qb E + 114), .int tp, .int i, .long z0] S I J (fun u S' I' J' => (u = some (.int (ga_Md_item I J tp i z0)) ∧ I' = I ∧ J' = gj_Md_item I J tp i z0) ∧ RQ0 S I J (rT I) u S' I' J') := by
  refine (c_Md_item hM h.tapes).px (fun u S' I' J' hq => ⟨hq.1, by rw [hq.2.2.1]; unfold gi_Md_item; (repeat' split) <;> rfl, hq.2.2.2⟩) (fun v S' I' J' hq => ?_)
  obtain ⟨-, hS, hI, hJ⟩ := hq
  have e1 : I' = I := by rw [hI]; unfold gi_Md_item; (repeat' split) <;> rfl
  have fj : ∀ a, (a < 114 ∨ 147 < a) → J' a = J a := fun a ha => by rw [hJ]; unfold gj_Md_item; (repeat' split) <;> first | rfl | rw [qup_row (by omega)]
  rw [e1]
  exact ⟨hS, h, fun a ha => ⟨rfl, fj a ha⟩, rfl, rfl, rfl⟩
end H19
