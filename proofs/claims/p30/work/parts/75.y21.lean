/-! the reference's invariant kept: days -/
theorem kpa_ps1 : ∀ j, j < 124 → (j < 6 ∨ (36 ≤ j ∧ j < 42) ∨ 66 ≤ j) → ((kpa j).1 < 118 ∨ 120 < (kpa j).1) ∧ (kpa j).1 ≠ 130 := by decide +kernel
theorem kpa_ps2 : ∀ j, j < 124 → j ≠ 119 → ¬ ((kpa j).1 = 114 ∧ (kpa j).2 = 10) := by decide +kernel
section H21
variable {E : qE} {S : qSh} {I : qI} {J : qJ}
theorem R_pass {n : Int32} (hM : isMd S) (h : rDat I) : qMet E y_Md_pass b_Md_pass 4 (some .int) 5 0 0 [.ref (qb E + 114), .int n] S I J (fun u S' I' J' => (∃ d, d ≤ 9999 ∧ I 114 10 = nI d ∧ J = J' ∧ (if qwithin n 0 60 = 0 then u = some (.int (-2)) ∧ I = I' else if 9999 < nI d + n then u = some (.int (-3)) ∧ I = I' else u = some (.int (nI d + n)) ∧ q130 (mpassN I n.toNatClampNeg) I')) ∧ RQ0 S I J (rT I) u S' I' J') := by
  have h0 := h
  have hday := h.day
  obtain ⟨m, h1, ⟨k1, k2, k3, ⟨d, d9, hd⟩, k5, k6, k7, k8, k9, k10, k11⟩, h3, h4, h5, h6, h7⟩ := h
  refine (c_Md_pass hM hday hd d9).px (fun u S' I' J' hq => ⟨d, d9, hd, hq.2.1, hq.2.2⟩) (fun v S' I' J' hq => ?_)
  obtain ⟨hS, rfl, hR⟩ := hq
  split at hR
  · obtain ⟨-, rfl⟩ := hR
    exact ⟨hS, h0, fun a ha => ⟨rfl, rfl⟩, rfl, rfl, rfl⟩
  · rename_i c1
    split at hR
    · obtain ⟨-, rfl⟩ := hR
      exact ⟨hS, h0, fun a ha => ⟨rfl, rfl⟩, rfl, rfl, rfl⟩
    · rename_i c2
      obtain ⟨-, hI⟩ := hR
      obtain ⟨g1, g2⟩ := qwithin_y c1
      obtain ⟨k, kk, rfl⟩ := nI_of2 (M := 60) (n := 60) rfl (Int32.not_lt.mpr g1) g2
      rw [nI_add] at c2
      have hdk : d + k ≤ 9999 := (nI_leI (by omega) (by omega)).mp (show nI (d + k) ≤ nI 9999 from Int32.not_lt.mp c2)
      rw [qcl (n := k) (by omega)] at hI
      have e : ∀ a, a ≠ 118 → a ≠ 119 → a ≠ 120 → a ≠ 114 → a ≠ 130 → I' a = I a := fun a a1 a2 a3 a4 a5 => by rw [hI a a5]; exact mpassN_row a1 a2 a3 a4 k
      have f : ∀ j, j ≠ 10 → I' 114 j = I 114 j := fun j hj => by rw [hI 114 (by decide)]; exact mpassN_f hj k
      have d0 : I' 114 10 = nI (d + k) := by rw [hI 114 (by decide)]; exact mpassN_d hd k
      have kq : ∀ j, (j < 6 ∨ (36 ≤ j ∧ j < 42) ∨ (66 ≤ j ∧ j < 124)) → j ≠ 119 → kp I' j = kp I j := fun j hj h2 => by
        obtain ⟨q1, q4⟩ := kpa_ps1 j (by omega) (by omega)
        have q5 := kpa_ps2 j (by omega) h2
        unfold kp
        by_cases z : (kpa j).1 = 114
        · rw [z] at q5 ⊢
          exact f _ (fun w => q5 ⟨rfl, w⟩)
        · rw [e _ (by omega) (by omega) (by omega) z q4]
      obtain ⟨c, c6, hc, l, l6, hl, ha, hb⟩ := k2
      refine ⟨hS, ⟨m, h1.cg (f 17 (by decide)) (f 25 (by decide)) (fun a a1 a2 => e a (by omega) (by omega) (by omega) (by omega) (by omega)), ⟨fun p hp => ?_, ⟨c, c6, (kq 117 (by omega) (by omega)).trans hc, l, l6, (kq 118 (by omega) (by omega)).trans hl, fun i hi => ?_, fun i j hij hj => ?_⟩, fun p hp => ?_, ⟨d + k, hdk, d0⟩, ?_, ?_, ?_, ?_, fun i hi => ?_, fun i hi => ?_, fun i hi => ?_⟩, ?_, ?_, ?_, ?_, ?_⟩, fun a ha => ⟨e a (by omega) (by omega) (by omega) (by omega) (by omega), rfl⟩, f 0 (by decide), f 39 (by decide), congrFun (e 139 (by decide) (by decide) (by decide) (by decide) (by decide)) 117⟩
      · rw [kq _ (by omega) (by omega)]; exact k1 p hp
      · rw [kq _ (by omega) (by omega)]; exact ha i hi
      · rw [kq _ (by omega) (by omega), kq _ (by omega) (by omega)]; exact hb i j hij hj
      · rw [kq _ (by omega) (by omega)]; exact k3 p hp
      · rw [kq _ (by omega) (by omega)]; exact k5
      · rw [kq _ (by omega) (by omega)]; exact k6
      · rw [kq _ (by omega) (by omega)]; exact k7
      · rw [kq _ (by omega) (by omega)]; exact k8
      · rw [kq _ (by omega) (by omega)]; exact k9 i hi
      · rw [kq _ (by omega) (by omega)]; exact k10 i hi
      · rw [kq _ (by omega) (by omega)]; exact k11 i hi
      · rw [f 39 (by decide), e 139 (by decide) (by decide) (by decide) (by decide) (by decide)]; exact h3
      · rw [f 11 (by decide), e 123 (by decide) (by decide) (by decide) (by decide) (by decide)]; exact h4
      · rw [f 16 (by decide)]; exact h5
      · rw [f 37 (by decide)]; exact h6
      · rw [e 146 (by decide) (by decide) (by decide) (by decide) (by decide)]; exact h7
end H21
