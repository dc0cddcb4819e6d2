/-! the reference's invariant kept: a mourner -/
theorem kpa_mo : ∀ j, j < 124 → ((36 ≤ j ∧ j < 42) ∨ 66 ≤ j) → j ≠ 117 → ((kpa j).1 < 115 ∨ 121 < (kpa j).1) ∧ ¬ ((kpa j).1 = 114 ∧ (kpa j).2 = 0) := by decide +kernel
theorem kpa_kd : ∀ p, p < 6 → kpa p = (115, p) := by decide +kernel
section H20
variable {E : qE} {S : qSh} {I : qI} {J : qJ}
theorem R_mourner {kd v g : Int32} {c : Nat} (hM : isMd S) (h : rDat I) (hc : I 114 0 = nI c) (c6 : c ≤ 6) : qMet E y_Md_mourner b_Md_mourner 5 (some .int) 1 0 0 [.ref (qb E + 114), .int kd, .int v, .int g] S I J (fun r S' I' J' => (I' = gi_Md_mourner I J kd v g ∧ J' = J) ∧ r = some (.int (aMourner c kd v g)) ∧ RQ0 S I J (fun I' => I' 114 0 = (if qwithin kd 0 6 = 0 then nI c else if qwithin v 0 9 = 0 then nI c else if qwithin g 0 99 = 0 then nI c else if c < 6 then nI (c + 1) else nI c) ∧ I' 114 39 = I 114 39 ∧ I' 139 117 = I 139 117) r S' I' J') := by
  have h0 := h
  refine (c_Md_mourner hM hc c6).px (fun r S' I' J' hq => ⟨hq.2.2.1, by rw [hq.2.2.2]; unfold gj_Md_mourner; (repeat' split) <;> rfl⟩) (fun r S' I' J' hq => ?_)
  obtain ⟨hr, hS, hI, hJ⟩ := hq
  have e2 : J' = J := by rw [hJ]; unfold gj_Md_mourner; (repeat' split) <;> rfl
  subst e2
  unfold ga_Md_mourner at hr
  unfold gi_Md_mourner at hI
  unfold aMourner
  by_cases c1 : qwithin kd 0 6 = 0
  · rw [if_pos c1] at hr hI ⊢; rw [hI, if_pos c1]
    exact ⟨hr, hS, h0, fun a ha => ⟨rfl, rfl⟩, hc, rfl, rfl⟩
  rw [if_neg c1] at hr hI ⊢
  rw [if_neg c1]
  by_cases c2 : qwithin v 0 9 = 0
  · rw [if_pos c2] at hr hI ⊢; rw [hI, if_pos c2]
    exact ⟨hr, hS, h0, fun a ha => ⟨rfl, rfl⟩, hc, rfl, rfl⟩
  rw [if_neg c2] at hr hI ⊢
  rw [if_neg c2]
  by_cases c3 : qwithin g 0 99 = 0
  · rw [if_pos c3] at hr hI ⊢; rw [hI, if_pos c3]
    exact ⟨hr, hS, h0, fun a ha => ⟨rfl, rfl⟩, hc, rfl, rfl⟩
  rw [if_neg c3] at hr hI ⊢
  rw [if_neg c3]
  by_cases c4 : c < 6
  · have n4 : ¬ I 114 0 = 6 := fun q => by
      rw [hc] at q
      have := (nI_eq (by omega) (by omega)).mp (show nI c = nI 6 from q)
      omega
    rw [if_neg n4] at hr hI
    rw [if_pos c4, if_pos c4]
    rw [hc] at hr hI
    rw [qcl (n := c) (by omega), q1] at hI
    have e : ∀ a, a ≠ 114 → (a < 115 ∨ 121 < a) → I' a = I a := fun a a1 a2 => by
      rw [hI, qup_row a1, qup_row (by omega), qup_row (by omega), qup_row (by omega), qup_row (by omega), qup_row (by omega), qup_row (by omega), qup_row (by omega), qup_row (by omega), qup_row (by omega), qup_row (by omega)]
    have f : ∀ j, j ≠ 0 → I' 114 j = I 114 j := fun j hj => by
      rw [hI, qup_j hj, qup_o (by decide), qup_o (by decide), qup_o (by decide), qup_o (by decide), qup_o (by decide), qup_o (by decide), qup_o (by decide), qup_o (by decide), qup_o (by decide), qup_o (by decide)]
    have k115 : ∀ p, I' 115 p = if p = c then kd else I 115 p := fun p => by
      rw [hI, qup_o (by decide), qup_o (by decide), qup_o (by decide), qup_o (by decide), qup_o (by decide), qup_o (by decide), qup_o (by decide), qup_o (by decide), qup_o (by decide), qup_o (by decide)]
      by_cases q : p = c
      · subst q; rw [qup_at, if_pos rfl]
      · rw [qup_j q, if_neg q]
    have k0 : I' 114 0 = nI (c + 1) := by rw [hI, qup_at]
    have kk : ∀ j, j < 124 → ((36 ≤ j ∧ j < 42) ∨ 66 ≤ j) → j ≠ 117 → kp I' j = kp I j := fun j hj h1 h2 => by
      obtain ⟨q1, q2⟩ := kpa_mo j hj h1 h2
      unfold kp
      by_cases z : (kpa j).1 = 114
      · rw [z] at q2 ⊢
        exact f _ (fun w => q2 ⟨rfl, w⟩)
      · rw [e _ z q1]
    obtain ⟨n, h1, ⟨k1, ⟨c', c6', hc', l, l6, hl, ha, hb⟩, k3, k4, k5, k6, k7, k8, k9, k10, k11⟩, h3, h4, h5, h6, h7⟩ := h
    have ecc : c' = c := (nI_eq (by omega) (by omega)).mp (hc'.symm.trans hc)
    subst ecc
    refine ⟨hr, hS, ⟨n, h1.cg (f 17 (by decide)) (f 25 (by decide)) (fun a a1 a2 => e a (by omega) (by omega)), ⟨fun p hp => ?_, ⟨c' + 1, by omega, k0, l, l6, (kk 118 (by omega) (by omega) (by omega)).trans hl, fun i hi => ?_, fun i j hij hj => ?_⟩, fun k hk => ?_, ?_, ?_, ?_, ?_, ?_, fun i hi => ?_, fun i hi => ?_, fun i hi => ?_⟩, ?_, ?_, ?_, ?_, ?_⟩, fun a ha => ⟨e a (by omega) (by omega), rfl⟩, k0, f 39 (by decide), congrFun (e 139 (by decide) (by decide)) 117⟩
    · show ∃ k, k < 7 ∧ kp I' p = nI k
      unfold kp
      rw [kpa_kd p hp]
      show ∃ k, k < 7 ∧ I' 115 p = nI k
      rw [k115]
      split
      · obtain ⟨g1, g2⟩ := qwithin_y c1
        obtain ⟨m, m1, m2⟩ := nI_of2 (M := 6) (n := 6) rfl (Int32.not_lt.mpr g1) g2
        exact ⟨m, by omega, m2⟩
      · have := k1 p hp
        unfold kp at this
        rw [kpa_kd p hp] at this
        exact this
    · obtain ⟨p, p1, p2⟩ := ha i hi
      exact ⟨p, by omega, (kk _ (by omega) (by omega) (by omega)).trans p2⟩
    · rw [kk _ (by omega) (by omega) (by omega), kk _ (by omega) (by omega) (by omega)]; exact hb i j hij hj
    · rw [kk _ (by omega) (by omega) (by omega)]; exact k3 k hk
    · rw [kk _ (by omega) (by omega) (by omega)]; exact k4
    · rw [kk _ (by omega) (by omega) (by omega)]; exact k5
    · rw [kk _ (by omega) (by omega) (by omega)]; exact k6
    · rw [kk _ (by omega) (by omega) (by omega)]; exact k7
    · rw [kk _ (by omega) (by omega) (by omega)]; exact k8
    · rw [kk _ (by omega) (by omega) (by omega)]; exact k9 i hi
    · rw [kk _ (by omega) (by omega) (by omega)]; exact k10 i hi
    · rw [kk _ (by omega) (by omega) (by omega)]; exact k11 i hi
    · rw [f 39 (by decide), e 139 (by decide) (by decide)]; exact h3
    · rw [f 11 (by decide), e 123 (by decide) (by decide)]; exact h4
    · rw [f 16 (by decide)]; exact h5
    · rw [f 37 (by decide)]; exact h6
    · rw [e 146 (by decide) (by decide)]; exact h7
  · have n4 : I 114 0 = 6 := by rw [hc, show c = 6 by omega]; rfl
    rw [if_pos n4] at hr hI
    rw [hI, if_neg c4, if_neg c4]
    exact ⟨hr, hS, h0, fun a ha => ⟨rfl, rfl⟩, hc, rfl, rfl⟩
end H20
/-! the reference's invariant kept: days -/
theorem kpa_ps1 : ∀ j, j < 124 → (j < 6 ∨ (36 ≤ j ∧ j < 42) ∨ 66 ≤ j) → ((kpa j).1 < 118 ∨ 120 < (kpa j).1) ∧ (kpa j).1 ≠ 130 := by decide +kernel
theorem kpa_ps2 : ∀ j, j < 124 → j ≠ 119 → ¬ ((kpa j).1 = 114 ∧ (kpa j).2 = 10) := by decide +kernel
section H21
variable {E : qE} {S : qSh} {I : qI} {J : qJ}
theorem R_pass {n : Int32} (hM : isMd S) (h : rDat I) : qMet E y_Md_pass b_Md_pass 4 (some .int) 5 0 0 [.ref (qb E + 114), .int n] S I J (fun u S' I' J' => (∃ d, d ≤ 9999 ∧ I 114 10 = nI d ∧ J = J' ∧ (if qwithin n 0 60 = 0 then u = some (.int (-2)) ∧ I = I' else if 9999 < nI d + n then u = some (.int (-3)) ∧ I = I' else u = some (.int (nI d + n)) ∧ q130 (mpassN I n.toNatClampNeg) I')) ∧ RQ0 S I J (rT I) u S' I' J') := by
  have h0 := h
  have hday := h.day
  obtain ⟨m, h1, ⟨k1, k2, k3, ⟨d, d9, hd⟩, k5, k6, k7, k8, k9, k10, k11⟩, h3, h4, h5, h6, h7⟩ := h
  refine (c_Md_pass hM hday hd d9).px (fun u S' I' J' hq => ⟨d, d9, hd, hq.2.1, hq.2.2⟩) (fun v S' I' J' hq => ?_)
  obtain ⟨hS, rfl, hR⟩ := hq
  split at hR
  · obtain ⟨-, rfl⟩ := hR
    exact ⟨hS, h0, fun a ha => ⟨rfl, rfl⟩, rfl, rfl, rfl⟩
  · rename_i c1
    split at hR
    · obtain ⟨-, rfl⟩ := hR
      exact ⟨hS, h0, fun a ha => ⟨rfl, rfl⟩, rfl, rfl, rfl⟩
    · rename_i c2
      obtain ⟨-, hI⟩ := hR
      obtain ⟨g1, g2⟩ := qwithin_y c1
      obtain ⟨k, kk, rfl⟩ := nI_of2 (M := 60) (n := 60) rfl (Int32.not_lt.mpr g1) g2
      rw [nI_add] at c2
      have hdk : d + k ≤ 9999 := (nI_leI (by omega) (by omega)).mp (show nI (d + k) ≤ nI 9999 from Int32.not_lt.mp c2)
      rw [qcl (n := k) (by omega)] at hI
      have e : ∀ a, a ≠ 118 → a ≠ 119 → a ≠ 120 → a ≠ 114 → a ≠ 130 → I' a = I a := fun a a1 a2 a3 a4 a5 => by rw [hI a a5]; exact mpassN_row a1 a2 a3 a4 k
      have f : ∀ j, j ≠ 10 → I' 114 j = I 114 j := fun j hj => by rw [hI 114 (by decide)]; exact mpassN_f hj k
      have d0 : I' 114 10 = nI (d + k) := by rw [hI 114 (by decide)]; exact mpassN_d hd k
      have kq : ∀ j, (j < 6 ∨ (36 ≤ j ∧ j < 42) ∨ (66 ≤ j ∧ j < 124)) → j ≠ 119 → kp I' j = kp I j := fun j hj h2 => by
        obtain ⟨q1, q4⟩ := kpa_ps1 j (by omega) (by omega)
        have q5 := kpa_ps2 j (by omega) h2
        unfold kp
        by_cases z : (kpa j).1 = 114
        · rw [z] at q5 ⊢
          exact f _ (fun w => q5 ⟨rfl, w⟩)
        · rw [e _ (by omega) (by omega) (by omega) z q4]
      obtain ⟨c, c6, hc, l, l6, hl, ha, hb⟩ := k2
      refine ⟨hS, ⟨m, h1.cg (f 17 (by decide)) (f 25 (by decide)) (fun a a1 a2 => e a (by omega) (by omega) (by omega) (by omega) (by omega)), ⟨fun p hp => ?_, ⟨c, c6, (kq 117 (by omega) (by omega)).trans hc, l, l6, (kq 118 (by omega) (by omega)).trans hl, fun i hi => ?_, fun i j hij hj => ?_⟩, fun p hp => ?_, ⟨d + k, hdk, d0⟩, ?_, ?_, ?_, ?_, fun i hi => ?_, fun i hi => ?_, fun i hi => ?_⟩, ?_, ?_, ?_, ?_, ?_⟩, fun a ha => ⟨e a (by omega) (by omega) (by omega) (by omega) (by omega), rfl⟩, f 0 (by decide), f 39 (by decide), congrFun (e 139 (by decide) (by decide) (by decide) (by decide) (by decide)) 117⟩
      · rw [kq _ (by omega) (by omega)]; exact k1 p hp
      · rw [kq _ (by omega) (by omega)]; exact ha i hi
      · rw [kq _ (by omega) (by omega), kq _ (by omega) (by omega)]; exact hb i j hij hj
      · rw [kq _ (by omega) (by omega)]; exact k3 p hp
      · rw [kq _ (by omega) (by omega)]; exact k5
      · rw [kq _ (by omega) (by omega)]; exact k6
      · rw [kq _ (by omega) (by omega)]; exact k7
      · rw [kq _ (by omega) (by omega)]; exact k8
      · rw [kq _ (by omega) (by omega)]; exact k9 i hi
      · rw [kq _ (by omega) (by omega)]; exact k10 i hi
      · rw [kq _ (by omega) (by omega)]; exact k11 i hi
      · rw [f 39 (by decide), e 139 (by decide) (by decide) (by decide) (by decide) (by decide)]; exact h3
      · rw [f 11 (by decide), e 123 (by decide) (by decide) (by decide) (by decide) (by decide)]; exact h4
      · rw [f 16 (by decide)]; exact h5
      · rw [f 37 (by decide)]; exact h6
      · rw [e 146 (by decide) (by decide) (by decide) (by decide) (by decide)]; exact h7
end H21
