/-! the reference's invariant kept: what is seen, planned, booked -/
theorem kp_up0 {I : qI} {a i j : Nat} {x : Int32} (hj : ¬ ((kpa j).1 = a ∧ (kpa j).2 = i)) : kp (qup I a i x) j = kp I j := by
  unfold kp; exact qup_ne hj
theorem kpa_s1 : ∀ k, k < 5 → kpa (66 + k) = (131, k) ∧ kpa (71 + k) = (132, k) ∧ kpa (76 + k) = (133, k) := by decide +kernel
theorem kpa_s2 : ∀ k, k < 10 → kpa (81 + k) = (134, k) ∧ kpa (91 + k) = (135, k) := by decide +kernel
theorem kpa_s3 : ∀ k, k < 8 → kpa (101 + k) = (136, k) ∧ kpa (109 + k) = (137, k) := by decide +kernel
theorem kpa_nf27 : kpa 120 = (114, 27) := by decide +kernel
theorem kpa_nf31 : kpa 121 = (114, 31) := by decide +kernel
theorem kpa_nf34 : kpa 122 = (114, 34) := by decide +kernel
theorem kpa_nf18 : kpa 123 = (114, 18) := by decide +kernel
/-- a snap whose seen, plan, book are others -/
theorem rSnap.spb {f g : Nat → Int32} {n : Nat} (h : rSnap f n) (e : ∀ j, j < 124 → ¬ (66 ≤ j ∧ j < 117) → j ≠ 120 → j ≠ 121 → j ≠ 122 → g j = f j) (h5' : ∃ z, z ≤ 5 ∧ g 120 = nI z) (h6' : ∃ z, z ≤ 10 ∧ g 121 = nI z) (h7' : ∃ z, z ≤ 8 ∧ g 122 = nI z) (h9' : ∀ i, i < 5 → ∃ t, t ≤ 20 ∧ g (76 + i) = nI t) (h10' : ∀ i, i < 10 → ∃ p, p < 6 ∧ g (91 + i) = nI p) (h11' : ∀ i, i < 8 → ∃ p, p < 6 ∧ g (101 + i) = nI p) : rSnap g n := by
  obtain ⟨h1, ⟨c, c6, hc, l, l6, hl, ha, hb⟩, h3, h4, h5, h6, h7, h8, h9, h10, h11⟩ := h
  refine ⟨fun p hp => by rw [e p (by omega) (by omega) (by omega) (by omega) (by omega)]; exact h1 p hp, ⟨c, c6, by rw [e _ (by omega) (by omega) (by omega) (by omega) (by omega)]; exact hc, l, l6, by rw [e _ (by omega) (by omega) (by omega) (by omega) (by omega)]; exact hl, fun i hi => by rw [e _ (by omega) (by omega) (by omega) (by omega) (by omega)]; exact ha i hi, fun i j hij hj => by rw [e _ (by omega) (by omega) (by omega) (by omega) (by omega), e _ (by omega) (by omega) (by omega) (by omega) (by omega)]; exact hb i j hij hj⟩, fun k hk => by rw [e _ (by omega) (by omega) (by omega) (by omega) (by omega)]; exact h3 k hk, by rw [e _ (by omega) (by omega) (by omega) (by omega) (by omega)]; exact h4, h5', h6', h7', by rw [e _ (by omega) (by omega) (by omega) (by omega) (by omega)]; exact h8, h9', h10', h11'⟩
section H24
variable {E : qE} {S : qSh} {I : qI} {J : qJ}
theorem R_see {p x n : Int32} (hM : isMd S) (h : rDat I) : qMet E y_Md_see b_Md_see 4 (some .int) 2 0 0 [.ref (qb E + 114), .int p, .int x, .int n] S I J (fun u S' I' J' => (u = some (.int (ga_Md_see I J p x n)) ∧ I' = gi_Md_see I J p x n ∧ J' = gj_Md_see I J p x n) ∧ RQ0 S I J (rT I) u S' I' J') := by
  have h0 := h
  obtain ⟨⟨z, z5, hz⟩, hs⟩ := h.seen
  refine (c_Md_see hM hz z5).px (fun u S' I' J' hq => ⟨hq.1, hq.2.2.1, hq.2.2.2⟩) (fun v S' I' J' hq => ?_)
  obtain ⟨-, hS, hI, hJ⟩ := hq
  have e2 : J' = J := by rw [hJ]; unfold gj_Md_see; (repeat' split) <;> rfl
  subst e2
  have idn : I' = I → RQ0 S I J' (rT I) v S' I' J' := fun w => by subst w; exact ⟨hS, h0, fun a ha => ⟨rfl, rfl⟩, rfl, rfl, rfl⟩
  unfold gi_Md_see at hI
  split at hI
  · have e : ∀ a, a ≠ 114 → I' a = I a := fun a a1 => by rw [hI, qup_row a1]
    have f : ∀ j, j ≠ 27 → I' 114 j = I 114 j := fun j j1 => by rw [hI, qup_j j1]
    have kk : ∀ j, j < 124 → kp I' j = if j = 120 then 0 else kp I j := fun j hj => by rw [hI]; exact kp_up kpa_nf27 hj (by decide)
    refine ⟨hS, h0.chg (fun a a1 => e a (by omega)) (fun j j1 => f j (by omega)) (fun m hm => ?_), fun a ha => ⟨e a (by omega), rfl⟩, f 0 (by decide), f 39 (by decide), congrFun (e 139 (by decide)) 117⟩
    have hm0 := hm
    obtain ⟨-, -, -, -, k5, k6, k7, -, k9, k10, k11⟩ := hm
    refine hm0.spb (fun j hj _ j1 _ _ => by rw [kk j hj, if_neg j1]) ⟨0, by omega, by rw [kk 120 (by decide), if_pos rfl]; rfl⟩ ?_ ?_ (fun i hi => ?_) (fun i hi => ?_) (fun i hi => ?_)
    · rw [kk _ (by omega), if_neg (by omega)]; exact k6
    · rw [kk _ (by omega), if_neg (by omega)]; exact k7
    · rw [kk _ (by omega), if_neg (by omega)]; exact k9 i hi
    · rw [kk _ (by omega), if_neg (by omega)]; exact k10 i hi
    · rw [kk _ (by omega), if_neg (by omega)]; exact k11 i hi
  split at hI
  · exact idn hI
  split at hI
  · exact idn hI
  split at hI
  · exact idn hI
  rename_i c4
  split at hI
  · exact idn hI
  rename_i c5
  have hz9 : z < 5 := by
    rcases Nat.lt_or_ge z 5 with q | q
    · exact q
    · exact absurd (by rw [hz, show z = 5 by omega]; rfl) c5
  obtain ⟨g1, g2⟩ := qwithin_y c4
  obtain ⟨t, t1, rfl⟩ := nI_of2 (M := 20) (n := 20) rfl (Int32.not_lt.mpr g1) g2
  rw [hz, qcl (n := z) (by omega), q1] at hI
  obtain ⟨s1, s2, s3⟩ := kpa_s1 z hz9
  have e : ∀ a, a ≠ 114 → a ≠ 131 → a ≠ 132 → a ≠ 133 → I' a = I a := fun a a1 a2 a3 a4 => by rw [hI, qup_row a4, qup_row a1, qup_row a3, qup_row a2]
  have f : ∀ j, j ≠ 27 → I' 114 j = I 114 j := fun j j1 => by rw [hI, qup_o (by decide), qup_j j1, qup_o (by decide), qup_o (by decide)]
  have kk : ∀ j, j < 124 → kp I' j = if j = 76 + z then nI t else if j = 120 then nI (z + 1) else if j = 71 + z then x else if j = 66 + z then p else kp I j := fun j hj => by
    rw [hI, kp_up s3 hj (by omega), kp_up kpa_nf27 hj (by omega), kp_up s2 hj (by omega), kp_up s1 hj (by omega)]
  clear hI
  refine ⟨hS, h0.chg (fun a a1 => e a (by omega) (by omega) (by omega) (by omega)) (fun j j1 => f j (by omega)) (fun m hm => ?_), fun a ha => ⟨e a (by omega) (by omega) (by omega) (by omega), rfl⟩, f 0 (by decide), f 39 (by decide), congrFun (e 139 (by decide) (by decide) (by decide) (by decide)) 117⟩
  have hm0 := hm
  obtain ⟨-, -, -, -, k5, k6, k7, -, k9, k10, k11⟩ := hm
  refine hm0.spb (fun j hj j0 j1 _ _ => by rw [kk j hj, if_neg (by omega), if_neg (by omega), if_neg (by omega), if_neg (by omega)]) ⟨z + 1, by omega, by rw [kk 120 (by decide), if_neg (by omega), if_pos rfl]⟩ ?_ ?_ (fun i hi => ?_) (fun i hi => ?_) (fun i hi => ?_)
  · rw [kk _ (by omega), if_neg (by omega), if_neg (by omega), if_neg (by omega), if_neg (by omega)]; exact k6
  · rw [kk _ (by omega), if_neg (by omega), if_neg (by omega), if_neg (by omega), if_neg (by omega)]; exact k7
  · by_cases q : i = z
    · subst q; exact ⟨t, by omega, by rw [kk _ (by omega), if_pos rfl]⟩
    · rw [kk _ (by omega), if_neg (by omega), if_neg (by omega), if_neg (by omega), if_neg (by omega)]; exact k9 i hi
  · rw [kk _ (by omega), if_neg (by omega), if_neg (by omega), if_neg (by omega), if_neg (by omega)]; exact k10 i hi
  · rw [kk _ (by omega), if_neg (by omega), if_neg (by omega), if_neg (by omega), if_neg (by omega)]; exact k11 i hi
theorem R_plan {x p : Int32} (hM : isMd S) (h : rDat I) : qMet E y_Md_plan b_Md_plan 3 (some .int) 2 0 0 [.ref (qb E + 114), .int x, .int p] S I J (fun u S' I' J' => (u = some (.int (ga_Md_plan I J x p)) ∧ I' = gi_Md_plan I J x p ∧ J' = gj_Md_plan I J x p) ∧ RQ0 S I J (rT I) u S' I' J') := by
  have h0 := h
  obtain ⟨c, c6, hc⟩ := h.c
  obtain ⟨⟨z, z5, hz⟩, hs⟩ := h.plan
  refine (c_Md_plan hM hz z5).px (fun u S' I' J' hq => ⟨hq.1, hq.2.2.1, hq.2.2.2⟩) (fun v S' I' J' hq => ?_)
  obtain ⟨-, hS, hI, hJ⟩ := hq
  have e2 : J' = J := by rw [hJ]; unfold gj_Md_plan; (repeat' split) <;> rfl
  subst e2
  have idn : I' = I → RQ0 S I J' (rT I) v S' I' J' := fun w => by subst w; exact ⟨hS, h0, fun a ha => ⟨rfl, rfl⟩, rfl, rfl, rfl⟩
  have go : ∀ y t, t < 6 → ¬ I 114 31 = 10 → I' = qup (qup (qup I 134 (I 114 31).toNatClampNeg y) 114 31 (I 114 31 + 1)) 135 (I 114 31).toNatClampNeg (nI t) → RQ0 S I J' (rT I) v S' I' J' := by
    intro y t t6 c5 hI
    have hz9 : z < 10 := by
      rcases Nat.lt_or_ge z 10 with q | q
      · exact q
      · exact absurd (by rw [hz, show z = 10 by omega]; rfl) c5
    rw [hz, qcl (n := z) (by omega), q1] at hI
    obtain ⟨s1, s2⟩ := kpa_s2 z hz9
    have e : ∀ a, a ≠ 114 → a ≠ 134 → a ≠ 135 → I' a = I a := fun a a1 a2 a3 => by rw [hI, qup_row a3, qup_row a1, qup_row a2]
    have f : ∀ j, j ≠ 31 → I' 114 j = I 114 j := fun j j1 => by rw [hI, qup_o (by decide), qup_j j1, qup_o (by decide)]
    have kk : ∀ j, j < 124 → kp I' j = if j = 91 + z then nI t else if j = 121 then nI (z + 1) else if j = 81 + z then y else kp I j := fun j hj => by
      rw [hI, kp_up s2 hj (by omega), kp_up kpa_nf31 hj (by omega), kp_up s1 hj (by omega)]
    clear hI
    refine ⟨hS, h0.chg (fun a a1 => e a (by omega) (by omega) (by omega)) (fun j j1 => f j (by omega)) (fun m hm => ?_), fun a ha => ⟨e a (by omega) (by omega) (by omega), rfl⟩, f 0 (by decide), f 39 (by decide), congrFun (e 139 (by decide) (by decide) (by decide)) 117⟩
    have hm0 := hm
    obtain ⟨-, -, -, -, k5, k6, k7, -, k9, k10, k11⟩ := hm
    refine hm0.spb (fun j hj j0 _ j1 _ => by rw [kk j hj, if_neg (by omega), if_neg (by omega), if_neg (by omega)]) ?_ ⟨z + 1, by omega, by rw [kk 121 (by decide), if_neg (by omega), if_pos rfl]⟩ ?_ (fun i hi => ?_) (fun i hi => ?_) (fun i hi => ?_)
    · rw [kk _ (by omega), if_neg (by omega), if_neg (by omega), if_neg (by omega)]; exact k5
    · rw [kk _ (by omega), if_neg (by omega), if_neg (by omega), if_neg (by omega)]; exact k7
    · rw [kk _ (by omega), if_neg (by omega), if_neg (by omega), if_neg (by omega)]; exact k9 i hi
    · by_cases q : i = z
      · subst q; exact ⟨t, t6, by rw [kk _ (by omega), if_pos rfl]⟩
      · rw [kk _ (by omega), if_neg (by omega), if_neg (by omega), if_neg (by omega)]; exact k10 i hi
    · rw [kk _ (by omega), if_neg (by omega), if_neg (by omega), if_neg (by omega)]; exact k11 i hi
  unfold gi_Md_plan at hI
  split at hI
  · have e : ∀ a, a ≠ 114 → I' a = I a := fun a a1 => by rw [hI, qup_row a1]
    have f : ∀ j, j ≠ 31 → I' 114 j = I 114 j := fun j j1 => by rw [hI, qup_j j1]
    have kk : ∀ j, j < 124 → kp I' j = if j = 121 then 0 else kp I j := fun j hj => by rw [hI]; exact kp_up kpa_nf31 hj (by decide)
    refine ⟨hS, h0.chg (fun a a1 => e a (by omega)) (fun j j1 => f j (by omega)) (fun m hm => ?_), fun a ha => ⟨e a (by omega), rfl⟩, f 0 (by decide), f 39 (by decide), congrFun (e 139 (by decide)) 117⟩
    have hm0 := hm
    obtain ⟨-, -, -, -, k5, k6, k7, -, k9, k10, k11⟩ := hm
    refine hm0.spb (fun j hj _ _ j1 _ => by rw [kk j hj, if_neg j1]) ?_ ⟨0, by omega, by rw [kk 121 (by decide), if_pos rfl]; rfl⟩ ?_ (fun i hi => ?_) (fun i hi => ?_) (fun i hi => ?_)
    · rw [kk _ (by omega), if_neg (by omega)]; exact k5
    · rw [kk _ (by omega), if_neg (by omega)]; exact k7
    · rw [kk _ (by omega), if_neg (by omega)]; exact k9 i hi
    · rw [kk _ (by omega), if_neg (by omega)]; exact k10 i hi
    · rw [kk _ (by omega), if_neg (by omega)]; exact k11 i hi
  split at hI
  · exact idn hI
  rename_i c2
  obtain ⟨g1, g2⟩ := qwithin_y c2
  split at hI
  · rename_i c3
    split at hI
    · exact idn hI
    rename_i c4
    split at hI
    · exact go _ 0 (by decide) c4 hI
    · rename_i c5
      exact absurd (Int32.le_antisymm c3 g1) c5
  · split at hI
    · exact idn hI
    rename_i c3
    rw [hc] at c3
    obtain ⟨m, m1, rfl⟩ := qisM_y (show c < 2 ^ 31 by omega) c3
    split at hI
    · exact idn hI
    rename_i c4
    split at hI
    · exact go _ 0 (by decide) c4 hI
    · exact go _ m (by omega) c4 hI
theorem R_book {p x : Int32} (hM : isMd S) (h : rDat I) : qMet E y_Md_book b_Md_book 3 (some .int) 2 0 0 [.ref (qb E + 114), .int p, .int x] S I J (fun u S' I' J' => (u = some (.int (ga_Md_book I J p x)) ∧ I' = gi_Md_book I J p x ∧ J' = gj_Md_book I J p x) ∧ RQ0 S I J (rT I) u S' I' J') := by
  have h0 := h
  obtain ⟨c, c6, hc⟩ := h.c
  obtain ⟨⟨z, z5, hz⟩, hs⟩ := h.book
  refine (c_Md_book hM hz z5).px (fun u S' I' J' hq => ⟨hq.1, hq.2.2.1, hq.2.2.2⟩) (fun v S' I' J' hq => ?_)
  obtain ⟨-, hS, hI, hJ⟩ := hq
  have e2 : J' = J := by rw [hJ]; unfold gj_Md_book; (repeat' split) <;> rfl
  subst e2
  have idn : I' = I → RQ0 S I J' (rT I) v S' I' J' := fun w => by subst w; exact ⟨hS, h0, fun a ha => ⟨rfl, rfl⟩, rfl, rfl, rfl⟩
  unfold gi_Md_book at hI
  split at hI
  · have e : ∀ a, a ≠ 114 → I' a = I a := fun a a1 => by rw [hI, qup_row a1]
    have f : ∀ j, j ≠ 34 → I' 114 j = I 114 j := fun j j1 => by rw [hI, qup_j j1]
    have kk : ∀ j, j < 124 → kp I' j = if j = 122 then 0 else kp I j := fun j hj => by rw [hI]; exact kp_up kpa_nf34 hj (by decide)
    refine ⟨hS, h0.chg (fun a a1 => e a (by omega)) (fun j j1 => f j (by omega)) (fun m hm => ?_), fun a ha => ⟨e a (by omega), rfl⟩, f 0 (by decide), f 39 (by decide), congrFun (e 139 (by decide)) 117⟩
    have hm0 := hm
    obtain ⟨-, -, -, -, k5, k6, k7, -, k9, k10, k11⟩ := hm
    refine hm0.spb (fun j hj _ _ _ j1 => by rw [kk j hj, if_neg j1]) ?_ ?_ ⟨0, by omega, by rw [kk 122 (by decide), if_pos rfl]; rfl⟩ (fun i hi => ?_) (fun i hi => ?_) (fun i hi => ?_)
    · rw [kk _ (by omega), if_neg (by omega)]; exact k5
    · rw [kk _ (by omega), if_neg (by omega)]; exact k6
    · rw [kk _ (by omega), if_neg (by omega)]; exact k9 i hi
    · rw [kk _ (by omega), if_neg (by omega)]; exact k10 i hi
    · rw [kk _ (by omega), if_neg (by omega)]; exact k11 i hi
  split at hI
  · exact idn hI
  rename_i c3
  split at hI
  · exact idn hI
  split at hI
  · exact idn hI
  rename_i c5
  rw [hc] at c3
  obtain ⟨t, t1, rfl⟩ := qisM_y (show c < 2 ^ 31 by omega) c3
  have hz9 : z < 8 := by
    rcases Nat.lt_or_ge z 8 with q | q
    · exact q
    · exact absurd (by rw [hz, show z = 8 by omega]; rfl) c5
  rw [hz, qcl (n := z) (by omega), q1] at hI
  obtain ⟨s1, s2⟩ := kpa_s3 z hz9
  have e : ∀ a, a ≠ 114 → a ≠ 136 → a ≠ 137 → I' a = I a := fun a a1 a2 a3 => by rw [hI, qup_row a3, qup_row a1, qup_row a2]
  have f : ∀ j, j ≠ 34 → I' 114 j = I 114 j := fun j j1 => by rw [hI, qup_o (by decide), qup_j j1, qup_o (by decide)]
  have kk : ∀ j, j < 124 → kp I' j = if j = 109 + z then x else if j = 122 then nI (z + 1) else if j = 101 + z then nI t else kp I j := fun j hj => by
    rw [hI, kp_up s2 hj (by omega), kp_up kpa_nf34 hj (by omega), kp_up s1 hj (by omega)]
  clear hI
  refine ⟨hS, h0.chg (fun a a1 => e a (by omega) (by omega) (by omega)) (fun j j1 => f j (by omega)) (fun m hm => ?_), fun a ha => ⟨e a (by omega) (by omega) (by omega), rfl⟩, f 0 (by decide), f 39 (by decide), congrFun (e 139 (by decide) (by decide) (by decide)) 117⟩
  have hm0 := hm
  obtain ⟨-, -, -, -, k5, k6, k7, -, k9, k10, k11⟩ := hm
  refine hm0.spb (fun j hj j0 _ _ j1 => by rw [kk j hj, if_neg (by omega), if_neg (by omega), if_neg (by omega)]) ?_ ?_ ⟨z + 1, by omega, by rw [kk 122 (by decide), if_neg (by omega), if_pos rfl]⟩ (fun i hi => ?_) (fun i hi => ?_) (fun i hi => ?_)
  · rw [kk _ (by omega), if_neg (by omega), if_neg (by omega), if_neg (by omega)]; exact k5
  · rw [kk _ (by omega), if_neg (by omega), if_neg (by omega), if_neg (by omega)]; exact k6
  · rw [kk _ (by omega), if_neg (by omega), if_neg (by omega), if_neg (by omega)]; exact k9 i hi
  · rw [kk _ (by omega), if_neg (by omega), if_neg (by omega), if_neg (by omega)]; exact k10 i hi
  · by_cases q : i = z
    · subst q; exact ⟨t, by omega, by rw [kk _ (by omega), if_neg (by omega), if_neg (by omega), if_pos rfl]⟩
    · rw [kk _ (by omega), if_neg (by omega), if_neg (by omega), if_neg (by omega)]; exact k11 i hi
end H24
