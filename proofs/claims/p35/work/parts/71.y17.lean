/-! the reference's invariant kept: the image, undo, plain answers -/
theorem kpa_39 : ∀ j, j < 124 → ¬ ((kpa j).1 = 114 ∧ (kpa j).2 = 39) := by decide +kernel
theorem kpa_139 : ∀ j, j < 124 → (kpa j).1 ≠ 139 := by decide +kernel
section H17
variable {E : qE} {S : qSh} {I : qI} {J : qJ}
theorem R_taken {m x : Int32} (hM : isMd S) (h : rDat I) : qMet E y_Md_taken b_Md_taken 4 (some .int) 2 0 0 [.ref (qb E + 114), .int m, .int x] S I J (fun u S' I' J' => ((∃ c, c ≤ 6 ∧ I 114 0 = nI c ∧ rU I I' J J' ∧ (qwithin x 0 6 = 0 ∧ u = some (.int (-2)) ∨ ¬ qwithin x 0 6 = 0 ∧ (∀ p, p < c → m ≠ nI p) ∧ u = some (.int (-11)) ∨ ¬ qwithin x 0 6 = 0 ∧ ∃ p k, p < c ∧ m = nI p ∧ k < 7 ∧ I 115 p = nI k ∧ u = some (.int (if nI (mupN 7 k x) = x then nI k else -12))))) ∧ RQ0 S I J (rT I) u S' I' J') := by
  obtain ⟨c, c6, hc⟩ := h.c
  refine (c_Md_taken hM hc c6 h.kinds).px (fun u S' I' J' hq => by obtain ⟨-, rfl, rfl, h⟩ := hq; exact ⟨c, c6, hc, rU.rf, h⟩) (fun v S' I' J' hq => ?_)
  obtain ⟨rfl, rfl, rfl, -⟩ := hq
  exact ⟨rfl, h, fun a ha => ⟨rfl, rfl⟩, rfl, rfl, rfl⟩
theorem R_image (hM : isMd S) (h : rDat I) : qMet E y_Md_image b_Md_image 1 (some .int) 1 0 0 [.ref (qb E + 114)] S I J (fun v S' I' J' => (v = some (.int (I 114 0)) ∧ (∀ j, j < 124 → I' 139 j = kp I j) ∧ (∀ j, j < 124 → kp I' j = kp I j) ∧ I' 114 39 = 1 ∧ (I' 114 37 = I 114 37 ∧ I' 138 = I 138) ∧ (∀ a, 145 ≤ a → a ≤ 147 → I' a = I a) ∧ J' = J) ∧ RQ0 S I J (fun I' => I' 114 0 = I 114 0 ∧ I' 114 39 = 1 ∧ I' 139 117 = I 114 0) v S' I' J') := by
  refine (c_Md_image hM).post (fun v S' I' J' hq => ?_)
  obtain ⟨rfl, rfl, ho, hk, rfl⟩ := hq
  have e : ∀ a, a ≠ 114 → a ≠ 139 → I' a = I a := fun a a1 a2 => by rw [ho a a2, qup_row a1]
  have f : ∀ j, j ≠ 39 → I' 114 j = I 114 j := fun j hj => by rw [ho 114 (by decide), qup_j hj]
  have kk : ∀ j, j < 124 → kp I' j = kp I j := fun j hj => by
    unfold kp
    rw [ho _ (kpa_139 j hj), qup_ne (kpa_39 j hj)]
  have f39 : I' 114 39 = 1 := by rw [ho 114 (by decide), qup_at]
  obtain ⟨n, h1, h2, h3, h4, h5, h6, h7⟩ := h
  refine ⟨⟨rfl, hk, kk, f39, ⟨f 37 (by decide), e 138 (by decide) (by decide)⟩, fun a a1 a2 => e a (by omega) (by omega), rfl⟩, rfl, ⟨n, h1.cg (f 17 (by decide)) (f 25 (by decide)) (fun a a1 a2 => e a (by omega) (by omega)), h2.cg kk, Or.inr ⟨f39, h2.cg hk⟩, ?_, ?_, ?_, ?_⟩, fun a ha => ⟨e a (by omega) (by omega), rfl⟩, f 0 (by decide), f39, hk 117 (by decide)⟩
  · rw [f 11 (by decide), e 123 (by decide) (by decide)]; exact h4
  · rw [f 16 (by decide)]; exact h5
  · rw [f 37 (by decide)]; exact h6
  · rw [e 146 (by decide) (by decide)]; exact h7
theorem R_undo0 (hM : isMd S) (h : rDat I) (hz : I 114 39 = 0) : qMet E y_Md_undo b_Md_undo 1 (some .int) 1 0 0 [.ref (qb E + 114)] S I J (fun u S' I' J' => (u = some (.int (-3)) ∧ rU I I' J J') ∧ RQ0 S I J (rT I) u S' I' J') := by
  refine (c_Md_undo hM).px (fun u S' I' J' hq => by obtain ⟨-, rfl, ⟨-, h, rfl⟩ | ⟨q, -⟩⟩ := hq; exact ⟨h, rU.rf⟩; exact absurd hz q) (fun v S' I' J' hq => ?_)
  obtain ⟨rfl, rfl, hR⟩ := hq
  rcases hR with ⟨-, -, rfl⟩ | ⟨q, -⟩
  · exact ⟨rfl, h, fun a ha => ⟨rfl, rfl⟩, rfl, rfl, rfl⟩
  · exact absurd hz q
theorem R_undo1 (hM : isMd S) (h : rDat I) (hz : I 114 39 = 1) : qMet E y_Md_undo b_Md_undo 1 (some .int) 1 0 0 [.ref (qb E + 114)] S I J (fun u S' I' J' => (u = some (.int (I 139 117)) ∧ (∀ j, j < 124 → kp I' j = I 139 j) ∧ I' 139 = I 139 ∧ (I' 114 37 = I 114 37 ∧ I' 138 = I 138) ∧ (∀ a, 145 ≤ a → a ≤ 147 → I' a = I a) ∧ J' = J) ∧ RQ0 S I J (fun I' => I' 114 0 = I 139 117 ∧ I' 114 39 = 1 ∧ I' 139 117 = I 139 117) u S' I' J') := by
  refine (c_Md_undo hM).px (fun u S' I' J' hq => by obtain ⟨-, rfl, ⟨q, -⟩ | ⟨-, h, ho, f, hk⟩⟩ := hq; exact absurd (hz.symm.trans q) (by decide); exact ⟨h, hk, ho 139 (by unfold kpc; omega), ⟨f 37 (by decide) (by decide) (by decide) (by decide) (by decide) (by decide) (by decide), ho 138 (by unfold kpc; omega)⟩, fun a a1 a2 => ho a (by unfold kpc; omega), rfl⟩) (fun v S' I' J' hq => ?_)
  obtain ⟨rfl, rfl, hR⟩ := hq
  rcases hR with ⟨q, -⟩ | ⟨-, -, ho, f, hk⟩
  · rw [hz] at q; exact absurd q (by decide)
  · have e : ∀ a, ¬ kpc a → I' a = I a := ho
    have g : ∀ j, (j = 11 ∨ j = 16 ∨ j = 17 ∨ j = 25 ∨ j = 37 ∨ j = 39) → I' 114 j = I 114 j := fun j hj => f j (by omega) (by omega) (by omega) (by omega) (by omega) (by omega) (by omega)
    obtain ⟨n, h1, h2, h3, h4, h5, h6, h7⟩ := h
    have h3' : rSnap (I 139) n := by
      rcases h3 with q | q
      · rw [hz] at q; exact absurd q (by decide)
      · exact q.2
    refine ⟨rfl, ⟨n, h1.cg (g 17 (by omega)) (g 25 (by omega)) (fun a a1 a2 => e a (by unfold kpc; omega)), h3'.cg hk, ?_, ?_, ?_, ?_, ?_⟩, fun a ha => ⟨e a (by unfold kpc; omega), rfl⟩, hk 117 (by decide), ?_, ?_⟩
    · rw [g 39 (by omega), e 139 (by unfold kpc; omega)]; exact h3
    · rw [g 11 (by omega), e 123 (by unfold kpc; omega)]; exact h4
    · rw [g 16 (by omega)]; exact h5
    · rw [g 37 (by omega)]; exact h6
    · rw [e 146 (by unfold kpc; omega)]; exact h7
    · rw [g 39 (by omega)]; exact hz
    · rw [e 139 (by unfold kpc; omega)]
theorem R_count {x : Int32} (hM : isMd S) (h : rDat I) : qMet E y_Md_count b_Md_count 2 (some .int) 0 0 0 [.ref (qb E + 114), .int x] S I J (fun u S' I' J' => (VI u ∧ rU I I' J J') ∧ RQ0 S I J (rT I) u S' I' J') := by
  refine (c_Md_count hM).px (fun u S' I' J' hq => by obtain ⟨h, -, hI, hJ⟩ := hq; rw [show I' = I by rw [hI]; unfold gi_Md_count; (repeat' split) <;> rfl, show J' = J by rw [hJ]; unfold gj_Md_count; (repeat' split) <;> rfl]; exact ⟨⟨_, h⟩, rU.rf⟩) (fun v S' I' J' hq => ?_)
  obtain ⟨-, rfl, hI, hJ⟩ := hq
  have e1 : I' = I := by rw [hI]; unfold gi_Md_count; (repeat' split) <;> rfl
  have e2 : J' = J := by rw [hJ]; unfold gj_Md_count; (repeat' split) <;> rfl
  rw [e1, e2]
  exact ⟨rfl, h, fun a ha => ⟨rfl, rfl⟩, rfl, rfl, rfl⟩
theorem R_read {tp i : Int32} (hM : isMd S) (h : rDat I) : qMet E y_Md_read b_Md_read 3 (some .long) 2 0 0 [.ref (qb E + 114), .int tp, .int i] S I J (fun u S' I' J' => (u = some (.long (ga_Md_read I J tp i)) ∧ rU I I' J J') ∧ RQ0 S I J (rT I) u S' I' J') := by
  refine (c_Md_read hM h.tapes).px (fun u S' I' J' hq => by obtain ⟨h, -, hI, hJ⟩ := hq; rw [show I' = I by rw [hI]; unfold gi_Md_read; (repeat' split) <;> rfl, show J' = J by rw [hJ]; unfold gj_Md_read; (repeat' split) <;> rfl]; exact ⟨h, rU.rf⟩) (fun v S' I' J' hq => ?_)
  obtain ⟨-, rfl, hI, hJ⟩ := hq
  have e1 : I' = I := by rw [hI]; unfold gi_Md_read; (repeat' split) <;> rfl
  have e2 : J' = J := by rw [hJ]; unfold gj_Md_read; (repeat' split) <;> rfl
  rw [e1, e2]
  exact ⟨rfl, h, fun a ha => ⟨rfl, rfl⟩, rfl, rfl, rfl⟩
end H17
