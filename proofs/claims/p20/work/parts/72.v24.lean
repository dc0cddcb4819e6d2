/-! the reference's invariant kept: what is seen, planned, booked -/
theorem kp_up0 {I : qI} {a i j : Nat} {x : Int32} (hj : ¬ ((kpa j).1 = a ∧ (kpa j).2 = i)) : kp (qup I a i x) j = kp I j := by
  unfold kp; exact qup_ne hj
theorem kpa_s1 : ∀ k, k < 5 → kpa (66 + k) = (131, k) ∧ kpa (71 + k) = (132, k) ∧ kpa (76 + k) = (133, k) := by decide +kernel
theorem kpa_s2 : ∀ k, k < 10 → kpa (81 + k) = (134, k) ∧ kpa (91 + k) = (135, k) := by decide +kernel
theorem kpa_s3 : ∀ k, k < 8 → kpa (101 + k) = (136, k) ∧ kpa (109 + k) = (137, k) := by decide +kernel
theorem kpa_nf27 : kpa 120 = (114, 27) := by decide +kernel
theorem kpa_nf31 : kpa 121 = (114, 31) := by decide +kernel
theorem kpa_nf34 : kpa 122 = (114, 34) := by decide +kernel
theorem kpa_nf18 : kpa 123 = (114, 18) := by decide +kernel
/-- a snap whose seen, plan, book are others -/
theorem rSnap.spb {f g : Nat → Int32} {n : Nat} (h : rSnap f n) (e : ∀ j, j < 124 → ¬ (66 ≤ j ∧ j < 117) → j ≠ 120 → j ≠ 121 → j ≠ 122 → g j = f j) (h5' : ∃ z, z ≤ 5 ∧ g 120 = nI z) (h6' : ∃ z, z ≤ 10 ∧ g 121 = nI z) (h7' : ∃ z, z ≤ 8 ∧ g 122 = nI z) (h9' : ∀ i, i < 5 → ∃ t, t ≤ 20 ∧ g (76 + i) = nI t) (h10' : ∀ i, i < 10 → ∃ p, p < 6 ∧ g (91 + i) = nI p) (h11' : ∀ i, i < 8 → ∃ p, p < 6 ∧ g (101 + i) = nI p) : rSnap g n := by
  obtain ⟨h1, ⟨c, c6, hc, l, l6, hl, ha, hb⟩, h3, h4, h5, h6, h7, h8, h9, h10, h11⟩ := h
  refine ⟨fun p hp => by rw [e p (by omega) (by omega) (by omega) (by omega) (by omega)]; exact h1 p hp, ⟨c, c6, by rw [e _ (by omega) (by omega) (by omega) (by omega) (by omega)]; exact hc, l, l6, by rw [e _ (by omega) (by omega) (by omega) (by omega) (by omega)]; exact hl, fun i hi => by rw [e _ (by omega) (by omega) (by omega) (by omega) (by omega)]; exact ha i hi, fun i j hij hj => by rw [e _ (by omega) (by omega) (by omega) (by omega) (by omega), e _ (by omega) (by omega) (by omega) (by omega) (by omega)]; exact hb i j hij hj⟩, fun k hk => by rw [e _ (by omega) (by omega) (by omega) (by omega) (by omega)]; exact h3 k hk, by rw [e _ (by omega) (by omega) (by omega) (by omega) (by omega)]; exact h4, h5', h6', h7', by rw [e _ (by omega) (by omega) (by omega) (by omega) (by omega)]; exact h8, h9', h10', h11'⟩
section H24
variable {E : qE} {S : qSh} {I : qI} {J : qJ}
theorem R_see {p x n : Int32} (hM : isMd S) (h : rDat I) : qMet E y_Md_see b_Md_see 4 (some .int) 2 0 0 [.ref (qb E + 114), .int p, .int x, .int n] S I J (fun u S' I' J' => (u = some (.int (ga_Md_see I J p x n)) ∧ I' = gi_Md_see I J p x n ∧ J' = gj_Md_see I J p x n) ∧ RQ0 S I J (rT I) u S' I' J') := by
  have h0 := h
  obtain ⟨⟨z, z5, hz⟩, hs⟩ := h.seen
  refine (c_Md_see hM hz z5).px (fun u S' I' J' hq => ⟨hq.1, hq.2.2.1, hq.2.2.2⟩) (fun v S' I' J' hq => ?_)
  obtain ⟨-, hS, hI, hJ⟩ := hq
  have e2 : J' = J := by rw [hJ]; unfold gj_Md_see; (repeat' split) <;> rfl
  subst e2
  have idn : I' = I → RQ0 S I J' (rT I) v S' I' J' := fun w => by subst w; exact ⟨hS, h0, fun a ha => ⟨rfl, rfl⟩, rfl, rfl, rfl⟩
  unfold gi_Md_see at hI
  split at hI
  · have e : ∀ a, a ≠ 114 → I' a = I a := fun a a1 => by rw [hI, qup_row a1]
    have f : ∀ j, j ≠ 27 → I' 114 j = I 114 j := fun j j1 => by rw [hI, qup_j j1]
    have kk : ∀ j, j < 124 → kp I' j = if j = 120 then 0 else kp I j := fun j hj => by rw [hI]; exact kp_up kpa_nf27 hj (by decide)
    refine ⟨hS, h0.chg (fun a a1 => e a (by omega)) (fun j j1 => f j (by omega)) (fun m hm => ?_), fun a ha => ⟨e a (by omega), rfl⟩, f 0 (by decide), f 39 (by decide), congrFun (e 139 (by decide)) 117⟩
    have hm0 := hm
    obtain ⟨-, -, -, -, k5, k6, k7, -, k9, k10, k11⟩ := hm
    refine hm0.spb (fun j hj _ j1 _ _ => by rw [kk j hj, if_neg j1]) ⟨0, by omega, by rw [kk 120 (by decide), if_pos rfl]; rfl⟩ ?_ ?_ (fun i hi => ?_) (fun i hi => ?_) (fun i hi => ?_)
    · rw [kk _ (by omega), if_neg (by omega)]; exact k6
    · rw [kk _ (by omega), if_neg (by omega)]; exact k7
    · rw [kk _ (by omega), if_neg (by omega)]; exact k9 i hi
    · rw [kk _ (by omega), if_neg (by omega)]; exact k10 i hi
    · rw [kk _ (by omega), if_neg (by omega)]; exact k11 i hi
  split at hI
  · exact idn hI
  split at hI
  · exact idn hI
  split at hI
  · exact idn hI
  rename_i c4
  split at hI
  · exact idn hI
  rename_i c5
  have hz9 : z < 5 := by
    rcases Nat.lt_or_ge z 5 with q | q
    · exact q
    · exact absurd (by rw [hz, show z = 5 by omega]; rfl) c5
  obtain ⟨g1, g2⟩ := qwithin_y c4
  obtain ⟨t, t1, rfl⟩ := nI_of2 (M := 20) (n := 20) rfl (Int32.not_lt.mpr g1) g2
  rw [hz, qcl (n := z) (by omega), q1] at hI
  obtain ⟨s1, s2, s3⟩ := kpa_s1 z hz9
  have e : ∀ a, a ≠ 114 → a ≠ 131 → a ≠ 132 → a ≠ 133 → I' a = I a := fun a a1 a2 a3 a4 => by rw [hI, qup_row a4, qup_row a1, qup_row a3, qup_row a2]
  have f : ∀ j, j ≠ 27 → I' 114 j = I 114 j := fun j j1 => by rw [hI, qup_o (by decide), qup_j j1, qup_o (by decide), qup_o (by decide)]
  have kk : ∀ j, j < 124 → kp I' j = if j = 76 + z then nI t else if j = 120 then nI (z + 1) else if j = 71 + z then x else if j = 66 + z then p else kp I j := fun j hj => by
    rw [hI, kp_up s3 hj (by omega), kp_up kpa_nf27 hj (by omega), kp_up s2 hj (by omega), kp_up s1 hj (by omega)]
  clear hI
  refine ⟨hS, h0.chg (fun a a1 => e a (by omega) (by omega) (by omega) (by omega)) (fun j j1 => f j (by omega)) (fun m hm => ?_), fun a ha => ⟨e a (by omega) (by omega) (by omega) (by omega), rfl⟩, f 0 (by decide), f 39 (by decide), congrFun (e 139 (by decide) (by decide) (by decide) (by decide)) 117⟩
  have hm0 := hm
  obtain ⟨-, -, -, -, k5, k6, k7, -, k9, k10, k11⟩ := hm
  refine hm0.spb (fun j hj j0 j1 _ _ => by rw [kk j hj, if_neg (by omega), if_neg (by omega), if_neg (by omega), if_neg (by omega)]) ⟨z + 1, by omega, by rw [kk 120 (by decide), if_neg (by omega), if_pos rfl]⟩ ?_ ?_ (fun i hi => ?_) (fun i hi => ?_) (fun i hi => ?_)
  · rw [kk _ (by omega), if_neg (by omega), if_neg (by omega), if_neg (by omega), if_neg (by omega)]; exact k6
  · rw [kk _ (by omega), if_neg (by omega), if_neg (by omega), if_neg (by omega), if_neg (by omega)]; exact k7
  · by_cases q : i = z
    · subst q; exact ⟨t, by omega, by rw [kk _ (by omega), if_pos rfl]⟩
    · rw [kk _ (by omega), if_neg (by omega), if_neg (by omega), if_neg (by omega), if_neg (by omega)]; exact k9 i hi
  · rw [kk _ (by omega), if_neg (by omega), if_neg (by omega), if_neg (by omega), if_neg (by omega)]; exact k10 i hi
  · rw [kk _ (by omega), if_neg (by omega), if_neg (by omega), if_neg (by omega), if_neg (by omega)]; exact k11 i hi
theorem R_plan {x p : Int32} (hM : isMd S) (h : rDat I) : qMet E y_Md_plan b_Md_plan 3 (some .int) 2 0 0 [.ref (qb E + 114), .int x, .int p] S I J (fun u S' I' J' => (u = some (.int (ga_Md_plan I J x p)) ∧ I' = gi_Md_plan I J x p ∧ J' = gj_Md_plan I J x p) ∧ RQ0 S I J (rT I) u S' I' J') := by
  have h0 := h
  obtain ⟨c, c6, hc⟩ := h.c
  obtain ⟨⟨z, z5, hz⟩, hs⟩ := h.plan
  refine (c_Md_plan hM hz z5).px (fun u S' I' J' hq => ⟨hq.1, hq.2.2.1, hq.2.2.2⟩) (fun v S' I' J' hq => ?_)
  obtain ⟨-, hS, hI, hJ⟩ := hq
  have e2 : J' = J := by rw [hJ]; unfold gj_Md_plan; (repeat' split) <;> rfl
  subst e2
  have idn : I' = I → RQ0 S I J' (rT I) v S' I' J' := fun w => by subst w; exact ⟨hS, h0, fun a ha => ⟨rfl, rfl⟩, rfl, rfl, rfl⟩
  have go : ∀ y t, t < 6 → ¬ I 114 31 = 10 → I' = qup (qup (qup I 134 (I 114 31).toNatClampNeg y) 114 31 (I 114 31 + 1)) 135 (I 114 31).toNatClampNeg (nI t) → RQ0 S I J' (rT I) v S' I' J' := by
    intro y t t6 c5 hI
    have hz9 : z < 10 := by
      rcases Nat.lt_or_ge z 10 with q | q
      · exact q
      · exact absurd (by rw [hz, show z = 10 by omega]; rfl) c5
    rw [hz, qcl (n := z) (by omega), q1] at hI
    obtain ⟨s1, s2⟩ := kpa_s2 z hz9
    have e : ∀ a, a ≠ 114 → a ≠ 134 → a ≠ 135 → I' a = I a := fun a a1 a2 a3 => by rw [hI, qup_row a3, qup_row a1, qup_row a2]
    have f : ∀ j, j ≠ 31 → I' 114 j = I 114 j := fun j j1 => by rw [hI, qup_o (by decide), qup_j j1, qup_o (by decide)]
    have kk : ∀ j, j < 124 → kp I' j = if j = 91 + z then nI t else if j = 121 then nI (z + 1) else if j = 81 + z then y else kp I j := fun j hj => by
      rw [hI, kp_up s2 hj (by omega), kp_up kpa_nf31 hj (by omega), kp_up s1 hj (by omega)]
    clear hI
    refine ⟨hS, h0.chg (fun a a1 => e a (by omega) (by omega) (by omega)) (fun j j1 => f j (by omega)) (fun m hm => ?_), fun a ha => ⟨e a (by omega) (by omega) (by omega), rfl⟩, f 0 (by decide), f 39 (by decide), congrFun (e 139 (by decide) (by decide) (by decide)) 117⟩
    have hm0 := hm
    obtain ⟨-, -, -, -, k5, k6, k7, -, k9, k10, k11⟩ := hm
    refine hm0.spb (fun j hj j0 _ j1 _ => by rw [kk j hj, if_neg (by omega), if_neg (by omega), if_neg (by omega)]) ?_ ⟨z + 1, by omega, by rw [kk 121 (by decide), if_neg (by omega), if_pos rfl]⟩ ?_ (fun i hi => ?_) (fun i hi => ?_) (fun i hi => ?_)
    · rw [kk _ (by omega), if_neg (by omega), if_neg (by omega), if_neg (by omega)]; exact k5
    · rw [kk _ (by omega), if_neg (by omega), if_neg (by omega), if_neg (by omega)]; exact k7
    · rw [kk _ (by omega), if_neg (by omega), if_neg (by omega), if_neg (by omega)]; exact k9 i hi
    · by_cases q : i = z
      · subst q; exact ⟨t, t6, by rw [kk _ (by omega), if_pos rfl]⟩
      · rw [kk _ (by omega), if_neg (by omega), if_neg (by omega), if_neg (by omega)]; exact k10 i hi
    · rw [kk _ (by omega), if_neg (by omega), if_neg (by omega), if_neg (by omega)]; exact k11 i hi
  unfold gi_Md_plan at hI
  split at hI
  · have e : ∀ a, a ≠ 114 → I' a = I a := fun a a1 => by rw [hI, qup_row a1]
    have f : ∀ j, j ≠ 31 → I' 114 j = I 114 j := fun j j1 => by rw [hI, qup_j j1]
    have kk : ∀ j, j < 124 → kp I' j = if j = 121 then 0 else kp I j := fun j hj => by rw [hI]; exact kp_up kpa_nf31 hj (by decide)
    refine ⟨hS, h0.chg (fun a a1 => e a (by omega)) (fun j j1 => f j (by omega)) (fun m hm => ?_), fun a ha => ⟨e a (by omega), rfl⟩, f 0 (by decide), f 39 (by decide), congrFun (e 139 (by decide)) 117⟩
    have hm0 := hm
    obtain ⟨-, -, -, -, k5, k6, k7, -, k9, k10, k11⟩ := hm
    refine hm0.spb (fun j hj _ _ j1 _ => by rw [kk j hj, if_neg j1]) ?_ ⟨0, by omega, by rw [kk 121 (by decide), if_pos rfl]; rfl⟩ ?_ (fun i hi => ?_) (fun i hi => ?_) (fun i hi => ?_)
    · rw [kk _ (by omega), if_neg (by omega)]; exact k5
    · rw [kk _ (by omega), if_neg (by omega)]; exact k7
    · rw [kk _ (by omega), if_neg (by omega)]; exact k9 i hi
    · rw [kk _ (by omega), if_neg (by omega)]; exact k10 i hi
    · rw [kk _ (by omega), if_neg (by omega)]; exact k11 i hi
  split at hI
  · exact idn hI
  rename_i c2
  obtain ⟨g1, g2⟩ := qwithin_y c2
  split at hI
  · rename_i c3
    split at hI
    · exact idn hI
    rename_i c4
    split at hI
    · exact go _ 0 (by decide) c4 hI
    · rename_i c5
      exact absurd (Int32.le_antisymm c3 g1) c5
  · split at hI
    · exact idn hI
    rename_i c3
    rw [hc] at c3
    obtain ⟨m, m1, rfl⟩ := qisM_y (show c < 2 ^ 31 by omega) c3
    split at hI
    · exact idn hI
    rename_i c4
    split at hI
    · exact go _ 0 (by decide) c4 hI
    · exact go _ m (by omega) c4 hI
theorem R_book {p x : Int32} (hM : isMd S) (h : rDat I) : qMet E y_Md_book b_Md_book 3 (some .int) 2 0 0 [.ref (qb E + 114), .int p, .int x] S I J (fun u S' I' J' => (u = some (.int (ga_Md_book I J p x)) ∧ I' = gi_Md_book I J p x ∧ J' = gj_Md_book I J p x) ∧ RQ0 S I J (rT I) u S' I' J') := by
  have h0 := h
  obtain ⟨c, c6, hc⟩ := h.c
  obtain ⟨⟨z, z5, hz⟩, hs⟩ := h.book
  refine (c_Md_book hM hz z5).px (fun u S' I' J' hq => ⟨hq.1, hq.2.2.1, hq.2.2.2⟩) (fun v S' I' J' hq => ?_)
  obtain ⟨-, hS, hI, hJ⟩ := hq
  have e2 : J' = J := by rw [hJ]; unfold gj_Md_book; (repeat' split) <;> rfl
  subst e2
  have idn : I' = I → RQ0 S I J' (rT I) v S' I' J' := fun w => by subst w; exact ⟨hS, h0, fun a ha => ⟨rfl, rfl⟩, rfl, rfl, rfl⟩
  unfold gi_Md_book at hI
  split at hI
  · have e : ∀ a, a ≠ 114 → I' a = I a := fun a a1 => by rw [hI, qup_row a1]
    have f : ∀ j, j ≠ 34 → I' 114 j = I 114 j := fun j j1 => by rw [hI, qup_j j1]
    have kk : ∀ j, j < 124 → kp I' j = if j = 122 then 0 else kp I j := fun j hj => by rw [hI]; exact kp_up kpa_nf34 hj (by decide)
    refine ⟨hS, h0.chg (fun a a1 => e a (by omega)) (fun j j1 => f j (by omega)) (fun m hm => ?_), fun a ha => ⟨e a (by omega), rfl⟩, f 0 (by decide), f 39 (by decide), congrFun (e 139 (by decide)) 117⟩
    have hm0 := hm
    obtain ⟨-, -, -, -, k5, k6, k7, -, k9, k10, k11⟩ := hm
    refine hm0.spb (fun j hj _ _ _ j1 => by rw [kk j hj, if_neg j1]) ?_ ?_ ⟨0, by omega, by rw [kk 122 (by decide), if_pos rfl]; rfl⟩ (fun i hi => ?_) (fun i hi => ?_) (fun i hi => ?_)
    · rw [kk _ (by omega), if_neg (by omega)]; exact k5
    · rw [kk _ (by omega), if_neg (by omega)]; exact k6
    · rw [kk _ (by omega), if_neg (by omega)]; exact k9 i hi
    · rw [kk _ (by omega), if_neg (by omega)]; exact k10 i hi
    · rw [kk _ (by omega), if_neg (by omega)]; exact k11 i hi
  split at hI
  · exact idn hI
  rename_i c3
  split at hI
  · exact idn hI
  split at hI
  · exact idn hI
  rename_i c5
  rw [hc] at c3
  obtain ⟨t, t1, rfl⟩ := qisM_y (show c < 2 ^ 31 by omega) c3
  have hz9 : z < 8 := by
    rcases Nat.lt_or_ge z 8 with q | q
    · exact q
    · exact absurd (by rw [hz, show z = 8 by omega]; rfl) c5
  rw [hz, qcl (n := z) (by omega), q1] at hI
  obtain ⟨s1, s2⟩ := kpa_s3 z hz9
  have e : ∀ a, a ≠ 114 → a ≠ 136 → a ≠ 137 → I' a = I a := fun a a1 a2 a3 => by rw [hI, qup_row a3, qup_row a1, qup_row a2]
  have f : ∀ j, j ≠ 34 → I' 114 j = I 114 j := fun j j1 => by rw [hI, qup_o (by decide), qup_j j1, qup_o (by decide)]
  have kk : ∀ j, j < 124 → kp I' j = if j = 109 + z then x else if j = 122 then nI (z + 1) else if j = 101 + z then nI t else kp I j := fun j hj => by
    rw [hI, kp_up s2 hj (by omega), kp_up kpa_nf34 hj (by omega), kp_up s1 hj (by omega)]
  clear hI
  refine ⟨hS, h0.chg (fun a a1 => e a (by omega) (by omega) (by omega)) (fun j j1 => f j (by omega)) (fun m hm => ?_), fun a ha => ⟨e a (by omega) (by omega) (by omega), rfl⟩, f 0 (by decide), f 39 (by decide), congrFun (e 139 (by decide) (by decide) (by decide)) 117⟩
  have hm0 := hm
  obtain ⟨-, -, -, -, k5, k6, k7, -, k9, k10, k11⟩ := hm
  refine hm0.spb (fun j hj j0 _ _ j1 => by rw [kk j hj, if_neg (by omega), if_neg (by omega), if_neg (by omega)]) ?_ ?_ ⟨z + 1, by omega, by rw [kk 122 (by decide), if_neg (by omega), if_pos rfl]⟩ (fun i hi => ?_) (fun i hi => ?_) (fun i hi => ?_)
  · rw [kk _ (by omega), if_neg (by omega), if_neg (by omega), if_neg (by omega)]; exact k5
  · rw [kk _ (by omega), if_neg (by omega), if_neg (by omega), if_neg (by omega)]; exact k6
  · rw [kk _ (by omega), if_neg (by omega), if_neg (by omega), if_neg (by omega)]; exact k9 i hi
  · rw [kk _ (by omega), if_neg (by omega), if_neg (by omega), if_neg (by omega)]; exact k10 i hi
  · by_cases q : i = z
    · subst q; exact ⟨t, by omega, by rw [kk _ (by omega), if_neg (by omega), if_neg (by omega), if_pos rfl]⟩
    · rw [kk _ (by omega), if_neg (by omega), if_neg (by omega), if_neg (by omega)]; exact k11 i hi
end H24
/-! the reference's invariant kept: tapes, an island -/
theorem qw1n : ¬ qwithin (-1) (-1) 4 = 0 := by decide
theorem qm1_nn {k : Int32} (h : ¬ qwithin k (-1) 4 = 0) (h2 : ¬ k = -1) : 0 ≤ k := by
  obtain ⟨h1, -⟩ := qwithin_y h
  rw [Int32.le_iff_toInt_le] at h1 ⊢
  rw [← Int32.toInt_inj] at h2
  have e1 : (0 : Int32).toInt = 0 := rfl
  have e2 : (-1 : Int32).toInt = -1 := rfl
  rw [e1]
  rw [e2] at h1 h2
  omega
theorem q14 {s : Int32} (h : ¬ s = -1) (h2 : qwithin s 0 4 = 0) : qwithin s (-1) 4 = 0 := by
  rcases (by exact qwithin_b : qbool (qwithin s (-1) 4)) with g | g
  · exact g
  · exfalso
    have g0 : ¬ qwithin s (-1) 4 = 0 := by rw [g]; decide
    exact qwithin_n h2 ⟨qm1_nn g0 h, (qwithin_y g0).2⟩
theorem q41 {s : Int32} (h2 : ¬ qwithin s 0 4 = 0) : ¬ qwithin s (-1) 4 = 0 := by
  intro g
  obtain ⟨a, b⟩ := qwithin_y h2
  exact qwithin_n g ⟨Int32.le_trans (by decide) a, b⟩
theorem tp_in : ∀ t, t < 6 → ¬ qwithin (nI t) 0 5 = 0 := by decide +kernel
theorem neg1_lt : (-1 : Int32) < 0 := by decide
theorem tp_a2 {tp s n : Int32} (h : ¬ qwithin tp 0 5 = 0) (h2 : qwithin s (-1) 4 = 0 ∨ ¬ s < 0 ∧ ¬ n ≤ 60) : ca_tape tp s n = -2 := by
  unfold ca_tape
  rw [if_neg h]
  by_cases c : s = -1
  · subst c
    rcases h2 with q | ⟨q, -⟩
    · exact absurd q qw1n
    · exact absurd neg1_lt q
  · rw [if_neg c]
    by_cases c2 : qwithin s 0 4 = 0
    · rw [if_pos c2]
    · rw [if_neg c2]
      rcases h2 with q | ⟨-, q⟩
      · exact absurd q (q41 c2)
      · rw [if_neg q]
theorem tp_a3 {tp s n : Int32} (h : ¬ qwithin tp 0 5 = 0) (h1 : ¬ qwithin s (-1) 4 = 0) (h2 : ¬ s < 0) (h3 : n ≤ 60) (h4 : ¬ 0 ≤ n) : ca_tape tp s n = -14 := by
  unfold ca_tape
  rw [if_neg h, if_neg (fun c => h2 (by rw [c]; exact neg1_lt)), if_neg (fun c => h1 (q14 (fun c => h2 (by rw [c]; exact neg1_lt)) c)), if_pos h3, if_neg h4]
theorem tp_a4 {s n : Int32} {t : Nat} (ht : t < 6) (h1 : ¬ qwithin s (-1) 4 = 0) (h2 : s < 0 ∨ n ≤ 60 ∧ 0 ≤ n) : ca_tape (nI t) s n = 1 := by
  unfold ca_tape
  rw [if_neg (tp_in t ht)]
  by_cases c : s = -1
  · rw [if_pos c]
  · have h0 := qm1_nn h1 c
    rw [if_neg c, if_neg (fun c2 => h1 (q14 c c2))]
    rcases h2 with q | ⟨q1, q2⟩
    · exact absurd h0 (Int32.not_le.mpr q)
    · rw [if_pos q1, if_pos q2]
/-- what the reference's tape does -/
def xTp (I : qI) (J : qJ) (tp s n : Int32) (I' : qI) (J' : qJ) : Prop := ((qwithin tp 0 5 = 0 ∨ ¬ ca_tape tp s n = 1) ∧ I' = I ∧ J' = J) ∨ ∃ t, t < 6 ∧ tp = nI t ∧ ca_tape (nI t) s n = 1 ∧ ¬ qwithin s (-1) 4 = 0 ∧ (s < 0 ∨ n ≤ 60 ∧ 0 ≤ n) ∧ I' = qup (qup I 145 t s) 146 t (if 0 ≤ s then n else 0) ∧ J' = mfil J t 60
section H25
variable {E : qE} {S : qSh} {I : qI} {J : qJ}
theorem R_tape {tp s n : Int32} (hM : isMd S) (h : rDat I) : qMet E y_Md_tape b_Md_tape 5 (some .int) 2 0 0 [.ref (qb E + 114), .int tp, .int s, .int n] S I J (fun v S' I' J' => (v = some (.int (ca_tape tp s n)) ∧ xTp I J tp s n I' J') ∧ RQ0 S I J (rT I) v S' I' J') := by
  refine (c_Md_tape hM).px (fun v S' I' J' hq => by
    obtain ⟨-, ⟨c, h, h1, h2⟩ | ⟨c, c2, h, h1, h2⟩ | ⟨c, c1, c2, c3, c4, h, h1, h2⟩ | ⟨c, c2, h, t, t6, rfl, h1, h2⟩⟩ := hq
    · exact ⟨by rw [h]; unfold ca_tape; rw [if_pos c], Or.inl ⟨Or.inl c, h1.symm, h2.symm⟩⟩
    · exact ⟨by rw [h, tp_a2 c c2], Or.inl ⟨Or.inr (by rw [tp_a2 c c2]; decide), h1.symm, h2.symm⟩⟩
    · exact ⟨by rw [h, tp_a3 c c1 c2 c3 c4], Or.inl ⟨Or.inr (by rw [tp_a3 c c1 c2 c3 c4]; decide), h1.symm, h2.symm⟩⟩
    · exact ⟨by rw [h, tp_a4 t6 c c2], Or.inr ⟨t, t6, rfl, tp_a4 t6 c c2, c, c2, h1, h2⟩⟩) (fun v S' I' J' hq => ?_)
  obtain ⟨hS, hq⟩ := hq
  have idn : I = I' → J = J' → RQ0 S I J (rT I) v S' I' J' := fun w w2 => by subst w; subst w2; exact ⟨hS, h, fun a ha => ⟨rfl, rfl⟩, rfl, rfl, rfl⟩
  rcases hq with ⟨-, -, w, w2⟩ | ⟨-, -, -, w, w2⟩ | ⟨-, -, -, -, -, -, w, w2⟩ | ⟨c1, c2, -, t, t6, -, hI, hJ⟩
  · exact idn w w2
  · exact idn w w2
  · exact idn w w2
  · have e : ∀ a, a ≠ 145 → a ≠ 146 → I' a = I a := fun a a1 a2 => by rw [hI, qup_row a2, qup_row a1]
    have k6 : ∀ u, u < 6 → ∃ z, z ≤ 60 ∧ I' 146 u = nI z := fun u hu => by
      by_cases q : u = t
      · subst q
        rw [hI, qup_at]
        split
        · rename_i c3
          rcases c2 with c2 | ⟨c4, c5⟩
          · exact absurd c3 (Int32.not_le.mpr c2)
          · obtain ⟨m, m1, m2⟩ := nI_of2 (M := 60) (n := 60) rfl (Int32.not_lt.mpr c5) c4
            exact ⟨m, by omega, m2⟩
        · exact ⟨0, by omega, rfl⟩
      · rw [hI, qup_j q, qup_o (by decide)]; exact h.tapes u hu
    have e4 := e 114 (by decide) (by decide)
    refine ⟨hS, ?_, fun a ha => ⟨e a (by omega) (by omega), ?_⟩, by rw [e4], by rw [e4], by rw [e 139 (by decide) (by decide)]⟩
    · obtain ⟨m, h1, h2, h3, h4, h5, h6, h7⟩ := h
      refine ⟨m, h1.cg (by rw [e4]) (by rw [e4]) (fun a a1 a2 => e a (by omega) (by omega)), h2.cg (fun j hj => ?_), by rw [e4, e 139 (by decide) (by decide)]; exact h3, by rw [e4, e 123 (by decide) (by decide)]; exact h4, by rw [e4]; exact h5, by rw [e4]; exact h6, k6⟩
      have := kpa_c hj
      unfold kpc at this
      unfold kp
      rw [e _ (by omega) (by omega)]
    · rw [hJ]; funext j; unfold mfil; rw [if_neg (by omega)]
theorem R_shift {tp i tq j n : Int32} (hM : isMd S) (h : rDat I) : qMet E y_Md_shift b_Md_shift 7 (some .int) 2 0 0 [.ref (qb E + 114), .int tp, .int i, .int tq, .int j, .int n] S I J (fun u S' I' J' => (qSh1 S I J tp i tq j n u S' I' J') ∧ RQ0 S I J (rT I) u S' I' J') := by
  refine (c_Md_shift hM h.tapes).px (fun u S' I' J' hq => hq) (fun v S' I' J' hq => ?_)
  obtain ⟨hS, rfl, hq⟩ := hq
  have fin : (∀ a, (a < 114 ∨ 147 < a) → J' a = J a) → RQ0 S I J (rT I) v S' I J' := fun w => ⟨hS, h, fun a ha => ⟨rfl, w a ha⟩, rfl, rfl, rfl⟩
  rcases hq with ⟨-, -, rfl⟩ | ⟨t, u, -, -, -, -, hq⟩
  · exact fin (fun a ha => rfl)
  rcases hq with ⟨-, -, rfl⟩ | ⟨-, -, -, -, rfl⟩ | ⟨-, -, -, -, rfl⟩ | ⟨-, -, x, y, m, -, -, -, -, -, -, rfl⟩
  · exact fin (fun a ha => rfl)
  · exact fin (fun a ha => rfl)
  · exact fin (fun a ha => rfl)
  · exact fin (fun a ha => by funext k; unfold mcp; rw [if_neg (by omega)])
theorem kpa_isl : ∀ j, j < 123 → ((kpa j).1 < 124 ∨ 129 < (kpa j).1) ∧ ((kpa j).1 = 114 → (kpa j).2 = 0 ∨ (kpa j).2 = 8 ∨ (kpa j).2 = 10 ∨ (kpa j).2 = 27 ∨ (kpa j).2 = 31 ∨ (kpa j).2 = 34) := by decide +kernel
theorem rSnap.on {f g : Nat → Int32} {n m : Nat} (h : rSnap f n) (e : ∀ j, j < 123 → g j = f j) (h8' : g 123 = -1 ∨ ∃ h, h < m ∧ g 123 = nI h) : rSnap g m := by
  obtain ⟨h1, ⟨c, c6, hc, l, l6, hl, ha, hb⟩, h3, h4, h5, h6, h7, h8, h9, h10, h11⟩ := h
  exact ⟨fun p hp => by rw [e p (by omega)]; exact h1 p hp, ⟨c, c6, by rw [e _ (by decide)]; exact hc, l, l6, by rw [e _ (by decide)]; exact hl, fun i hi => by rw [e _ (by omega)]; exact ha i hi, fun i j hij hj => by rw [e _ (by omega), e _ (by omega)]; exact hb i j hij hj⟩, fun k hk => by rw [e _ (by omega)]; exact h3 k hk, by rw [e _ (by decide)]; exact h4, by rw [e _ (by decide)]; exact h5, by rw [e _ (by decide)]; exact h6, by rw [e _ (by decide)]; exact h7, h8', fun i hi => by rw [e _ (by omega)]; exact h9 i hi, fun i hi => by rw [e _ (by omega)]; exact h10 i hi, fun i hi => by rw [e _ (by omega)]; exact h11 i hi⟩
/-- what an island of the reference leaves as it was -/
def rIs (I I' : qI) (J J' : qJ) : Prop := (∀ j, j < 123 → kp I' j = kp I j) ∧ I' 139 = I 139 ∧ I' 114 39 = I 114 39 ∧ (I' 114 37 = I 114 37 ∧ I' 138 = I 138) ∧ ∀ a, 145 ≤ a → a ≤ 147 → I' a = I a ∧ J' a = J a
def xRi (I : qI) (u : Option Value) (I' : qI) : Prop := (I 114 17 = 6 ∧ u = some (.int (-4)) ∧ I' 114 17 = I 114 17 ∧ I' 114 11 = I 114 11 ∧ I' 123 = I 123) ∨ ∃ g z cz, g < 6 ∧ I 114 17 = nI g ∧ z ≤ 100 ∧ I 114 11 = nI z ∧ (∀ j, j < z → ∃ k, k < 128 ∧ I 123 j = nI k) ∧ I' 114 11 = 0 ∧ ((pisl (I 123) z g cz 10 0 I (0, [])).1 = true ∧ u = some (.int (nI g)) ∧ I' 114 17 = nI (g + 1) ∨ ¬ (pisl (I 123) z g cz 10 0 I (0, [])).1 = true ∧ u = some (.int (-10 - nI (pisl (I 123) z g cz 10 0 I (0, [])).2.2.1.1)) ∧ I' 114 17 = nI g)
/-- .. and what it does to the tables -/
def xRn (I I' : qI) : Prop := (I 114 17 = 6 ∧ rW I I') ∨ ∃ g z cz, g < 6 ∧ I 114 17 = nI g ∧ z ≤ 100 ∧ I 114 11 = nI z ∧ cz ≤ 100 * g ∧ I 114 25 = nI cz ∧ (∀ a, 125 ≤ a → a ≤ 128 → I' a = (pisl (I 123) z g cz 10 0 I (0, [])).2.2.2 a) ∧ (∀ j, j < cz → I' 129 j = I 129 j) ∧ ((pisl (I 123) z g cz 10 0 I (0, [])).1 = true ∧ I' 114 18 = nI g ∧ (∀ j, I' 124 j = if j = g then nI (pisl (I 123) z g cz 10 0 I (0, [])).2.1 else I 124 j) ∧ I' 114 25 = nI (cz + (pisl (I 123) z g cz 10 0 I (0, [])).2.2.1.2.length) ∧ (∀ j, j < (pisl (I 123) z g cz 10 0 I (0, [])).2.2.1.2.length → I' 129 (cz + j) = (pisl (I 123) z g cz 10 0 I (0, [])).2.2.1.2.getD j 0) ∨ ¬ (pisl (I 123) z g cz 10 0 I (0, [])).1 = true ∧ I' 114 18 = I 114 18 ∧ I' 124 = I 124 ∧ I' 114 25 = nI cz)
theorem pIQ.tab {S S' : qSh} {I I' : qI} {J J' : qJ} {v : Option Value} {n h cz : Nat} {f : Nat → Int32} (hQ : pIQ S J n h cz (pisl f n h cz 10 0 I (0, [])) v S' I' J') : (∀ a, 125 ≤ a → a ≤ 128 → I' a = (pisl f n h cz 10 0 I (0, [])).2.2.2 a) ∧ (∀ j, j < cz → I' 129 j = I 129 j) ∧ ((pisl f n h cz 10 0 I (0, [])).1 = true ∧ I' 114 18 = nI h ∧ (∀ j, I' 124 j = if j = h then nI (pisl f n h cz 10 0 I (0, [])).2.1 else I 124 j) ∧ I' 114 25 = nI (cz + (pisl f n h cz 10 0 I (0, [])).2.2.1.2.length) ∧ (∀ j, j < (pisl f n h cz 10 0 I (0, [])).2.2.1.2.length → I' 129 (cz + j) = (pisl f n h cz 10 0 I (0, [])).2.2.1.2.getD j 0) ∨ ¬ (pisl f n h cz 10 0 I (0, [])).1 = true ∧ I' 114 18 = I 114 18 ∧ I' 124 = I 124 ∧ I' 114 25 = nI cz) := by
  obtain ⟨-, -, K, op, hK, hR⟩ := hQ
  obtain ⟨o1, o2, -, -, -⟩ := pisl_off (f := f) (n := n) (h := h) (cz := cz) 10 0 I (0, [])
  generalize pisl f n h cz 10 0 I (0, []) = R at *
  obtain ⟨k1, k2, k3, k4, k5, k6, k7, k8⟩ := hK
  have b129 : R.2.2.2 129 = I 129 := o2 129 (by decide) (by decide) (by decide) (by decide)
  have b124 : R.2.2.2 124 = I 124 := o2 124 (by decide) (by decide) (by decide) (by decide)
  have b114 : R.2.2.2 114 = I 114 := o2 114 (by decide) (by decide) (by decide) (by decide)
  rcases hR with ⟨rt, -, rfl⟩ | ⟨rt, -, rfl⟩
  · refine ⟨fun a a1 a2 => by rw [qup_row (by omega), qup_row (by omega), qup_row (by omega), qup_row (by omega), k1 a (by omega) (by omega)], fun j hj => by rw [qup_o (by decide), qup_o (by decide), qup_o (by decide), qup_o (by decide), k7 j hj, b129], Or.inl ⟨rt, by rw [qup_j (by decide), qup_at], fun j => ?_, by rw [qup_j (by decide), qup_j (by decide), qup_o (by decide), qup_j (by decide)]; exact k6, fun j hj => by rw [qup_o (by decide), qup_o (by decide), qup_o (by decide), qup_o (by decide)]; exact k8 j hj⟩⟩
    rw [qup_o (by decide), qup_o (by decide)]
    by_cases q : j = h
    · subst q; rw [qup_at, if_pos rfl]
    · rw [qup_j q, if_neg q, qup_o (by decide), k1 124 (by decide) (by decide), b124]
  · refine ⟨fun a a1 a2 => by rw [qup_row (by omega), qup_row (by omega), k1 a (by omega) (by omega)], fun j hj => by rw [qup_o (by decide), qup_o (by decide), k7 j hj, b129], Or.inr ⟨rt, by rw [qup_j (by decide), qup_j (by decide), k2 18 (by decide) (by decide) (by decide) (by decide) (by decide), b114], by rw [qup_row (by decide), qup_row (by decide), k1 124 (by decide) (by decide), b124], qup_at⟩⟩
theorem R_island (hM : isMd S) (h : rDat I) : qMet E y_Md_island b_Md_island 5 (some .int) 21 0 0 [.ref (qb E + 114)] S I J (fun u S' I' J' => (xRi I u I' ∧ xRn I I') ∧ RQ0 S I J (fun I' => rT I I' ∧ rIs I I' J J') u S' I' J') := by
  have h0 := h
  obtain ⟨n, h1, h2, h3, ⟨z, zz, hz, hb⟩, ⟨op, hop⟩, h6, h7⟩ := h
  obtain ⟨n6, hn, cz, hcz, h25, hcl⟩ := h1
  rcases Nat.lt_or_ge n 6 with w | w
  · have hx : pTx I (I 123) z := ⟨hz, zz, fun j hj => ⟨rfl, hb j hj⟩⟩
    refine (c_Md_island hM hx (by omega) w hn h25 hop).px (P := fun u S' I' J' => xRi I u I' ∧ xRn I I') (fun u S' I' J' hq => by
      refine ⟨?_, Or.inr ⟨n, z, cz, w, hn, zz, hz, hcz, h25, hq.tab⟩⟩
      obtain ⟨-, -, ⟨-, -, a3, -⟩, hR⟩ := mIs.isl w hcz h25 hn hcl hx hq
      refine Or.inr ⟨n, z, cz, w, hn, zz, hz, hb, a3, ?_⟩
      rcases hR with ⟨h1, h2, h3, -⟩ | ⟨h1, h2, h3, -⟩
      · exact Or.inl ⟨h1, h2, h3.2.1⟩
      · exact Or.inr ⟨h1, h2, h3.2.1⟩) (fun v S' I' J' hq => ?_)
    obtain ⟨hS, rfl, ⟨a1, a2, a3, op', a4⟩, hR⟩ := mIs.isl w hcz h25 hn hcl hx hq
    have kk : ∀ j, j < 123 → kp I' j = kp I j := fun j hj => by
      obtain ⟨q1, q2⟩ := kpa_isl j hj
      unfold kp
      by_cases y : (kpa j).1 = 114
      · have q3 := q2 y
        rw [y]
        exact a2 _ (by omega) (by omega) (by omega) (by omega) (by omega) (by omega) (by omega) (by omega)
      · rw [a1 _ y q1]
    have fin : ∀ m, n ≤ m → mIs I' m → (kp I' 123 = -1 ∨ ∃ h, h < m ∧ kp I' 123 = nI h) → RQ0 S I J (fun I' => rT I I' ∧ rIs I I' J J) v S' I' J := fun m hm m1 m2 => by
      refine ⟨hS, ⟨m, m1, h2.on kk m2, ?_, ⟨0, by omega, a3, fun j hj => absurd hj (Nat.not_lt_zero _)⟩, ⟨op', a4⟩, ?_, ?_⟩, fun a ha => ⟨a1 a (by omega) (by omega), rfl⟩, ⟨a2 0 (by decide) (by decide) (by decide) (by decide) (by decide) (by decide) (by decide) (by decide), a2 39 (by decide) (by decide) (by decide) (by decide) (by decide) (by decide) (by decide) (by decide), ?_⟩, ⟨kk, a1 139 (by decide) (by decide), a2 39 (by decide) (by decide) (by decide) (by decide) (by decide) (by decide) (by decide) (by decide), ⟨a2 37 (by decide) (by decide) (by decide) (by decide) (by decide) (by decide) (by decide) (by decide), a1 138 (by decide) (by decide)⟩, fun a b1 b2 => ⟨a1 a (by omega) (by omega), rfl⟩⟩⟩
      · rw [a2 39 (by decide) (by decide) (by decide) (by decide) (by decide) (by decide) (by decide) (by decide), a1 139 (by decide) (by decide)]
        rcases h3 with q | ⟨q, q2⟩
        · exact Or.inl q
        · exact Or.inr ⟨q, q2.mono hm⟩
      · rw [a2 37 (by decide) (by decide) (by decide) (by decide) (by decide) (by decide) (by decide) (by decide)]; exact h6
      · rw [a1 146 (by decide) (by decide)]; exact h7
      · rw [a1 139 (by decide) (by decide)]
    rcases hR with ⟨-, -, m1, m2⟩ | ⟨-, -, m1, m2⟩
    · refine fin (n + 1) (by omega) m1 (Or.inr ⟨n, by omega, ?_⟩)
      unfold kp; rw [kpa_nf18]; exact m2
    · refine fin n (by omega) m1 ?_
      obtain ⟨-, -, -, -, -, -, -, k8, -⟩ := h2
      unfold kp at k8 ⊢; rw [kpa_nf18] at k8 ⊢
      show I' 114 18 = -1 ∨ ∃ h, h < n ∧ I' 114 18 = nI h
      rw [m2]; exact k8
  · refine (c_Md_island6 hM (by rw [hn, show n = 6 by omega]; rfl)).px (P := fun u S' I' J' => xRi I u I' ∧ xRn I I') (fun u S' I' J' hq => by obtain ⟨h, -, rfl, -⟩ := hq; have h17 : I 114 17 = 6 := (by rw [hn, show n = 6 by omega]; rfl); exact ⟨Or.inl ⟨h17, h, rfl, rfl, rfl⟩, Or.inl ⟨h17, rW.rf⟩⟩) (fun v S' I' J' hq => ?_)
    obtain ⟨-, hS, rfl, rfl⟩ := hq
    exact ⟨hS, h0, fun a ha => ⟨rfl, rfl⟩, ⟨rfl, rfl, rfl⟩, ⟨fun _ _ => rfl, rfl, rfl, ⟨rfl, rfl⟩, fun _ _ _ => ⟨rfl, rfl⟩⟩⟩
end H25
