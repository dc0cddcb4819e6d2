/-! the reference's invariant kept: seen, swapped -/
section H22
variable {E : qE} {S : qSh} {I : qI} {J : qJ}
theorem kpa_act : ∀ j, j < 124 → (kpa j).1 ≠ 138 ∧ ¬ ((kpa j).1 = 114 ∧ (kpa j).2 = 37) := by decide +kernel
/-- what touches the trace alone -/
theorem rDat.tr {I I' : qI} (h : rDat I) (e : ∀ a, a ≠ 114 → a ≠ 138 → I' a = I a) (f : ∀ j, j ≠ 37 → I' 114 j = I 114 j) (ht : ∃ t, t < 2 ^ 30 ∧ I' 114 37 = nI t) : rDat I' := by
  obtain ⟨n, h1, h2, h3, h4, h5, h6, h7⟩ := h
  refine ⟨n, h1.cg (f 17 (by decide)) (f 25 (by decide)) (fun a a1 a2 => e a (by omega) (by omega)), h2.cg (fun j hj => ?_), ?_, ?_, ?_, ht, ?_⟩
  · obtain ⟨q1, q2⟩ := kpa_act j hj
    unfold kp
    by_cases z : (kpa j).1 = 114
    · rw [z] at q2 ⊢
      exact f _ (fun w => q2 ⟨rfl, w⟩)
    · rw [e _ z q1]
  · rw [f 39 (by decide), e 139 (by decide) (by decide)]; exact h3
  · rw [f 11 (by decide), e 123 (by decide) (by decide)]; exact h4
  · rw [f 16 (by decide)]; exact h5
  · rw [e 146 (by decide) (by decide)]; exact h7
end H22
