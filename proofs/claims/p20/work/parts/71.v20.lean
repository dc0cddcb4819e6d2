/-! the reference's invariant kept: a mourner -/
theorem kpa_mo : ∀ j, j < 124 → ((36 ≤ j ∧ j < 42) ∨ 66 ≤ j) → j ≠ 117 → ((kpa j).1 < 115 ∨ 121 < (kpa j).1) ∧ ¬ ((kpa j).1 = 114 ∧ (kpa j).2 = 0) := by decide +kernel
theorem kpa_kd : ∀ p, p < 6 → kpa p = (115, p) := by decide +kernel
section H20
variable {E : qE} {S : qSh} {I : qI} {J : qJ}
theorem R_mourner {kd v g : Int32} {c : Nat} (hM : isMd S) (h : rDat I) (hc : I 114 0 = nI c) (c6 : c ≤ 6) : qMet E y_Md_mourner b_Md_mourner 5 (some .int) 1 0 0 [.ref (qb E + 114), .int kd, .int v, .int g] S I J (fun r S' I' J' => (I' = gi_Md_mourner I J kd v g ∧ J' = J) ∧ r = some (.int (aMourner c kd v g)) ∧ RQ0 S I J (fun I' => I' 114 0 = (if qwithin kd 0 6 = 0 then nI c else if qwithin v 0 9 = 0 then nI c else if qwithin g 0 99 = 0 then nI c else if c < 6 then nI (c + 1) else nI c) ∧ I' 114 39 = I 114 39 ∧ I' 139 117 = I 139 117) r S' I' J') := by
  have h0 := h
  refine (c_Md_mourner hM hc c6).px (fun r S' I' J' hq => ⟨hq.2.2.1, by rw [hq.2.2.2]; unfold gj_Md_mourner; (repeat' split) <;> rfl⟩) (fun r S' I' J' hq => ?_)
  obtain ⟨hr, hS, hI, hJ⟩ := hq
  have e2 : J' = J := by rw [hJ]; unfold gj_Md_mourner; (repeat' split) <;> rfl
  subst e2
  unfold ga_Md_mourner at hr
  unfold gi_Md_mourner at hI
  unfold aMourner
  by_cases c1 : qwithin kd 0 6 = 0
  · rw [if_pos c1] at hr hI ⊢; rw [hI, if_pos c1]
    exact ⟨hr, hS, h0, fun a ha => ⟨rfl, rfl⟩, hc, rfl, rfl⟩
  rw [if_neg c1] at hr hI ⊢
  rw [if_neg c1]
  by_cases c2 : qwithin v 0 9 = 0
  · rw [if_pos c2] at hr hI ⊢; rw [hI, if_pos c2]
    exact ⟨hr, hS, h0, fun a ha => ⟨rfl, rfl⟩, hc, rfl, rfl⟩
  rw [if_neg c2] at hr hI ⊢
  rw [if_neg c2]
  by_cases c3 : qwithin g 0 99 = 0
  · rw [if_pos c3] at hr hI ⊢; rw [hI, if_pos c3]
    exact ⟨hr, hS, h0, fun a ha => ⟨rfl, rfl⟩, hc, rfl, rfl⟩
  rw [if_neg c3] at hr hI ⊢
  rw [if_neg c3]
  by_cases c4 : c < 6
  · have n4 : ¬ I 114 0 = 6 := fun q => by
      rw [hc] at q
      have := (nI_eq (by omega) (by omega)).mp (show nI c = nI 6 from q)
      omega
    rw [if_neg n4] at hr hI
    rw [if_pos c4, if_pos c4]
    rw [hc] at hr hI
    rw [qcl (n := c) (by omega), q1] at hI
    have e : ∀ a, a ≠ 114 → (a < 115 ∨ 121 < a) → I' a = I a := fun a a1 a2 => by
      rw [hI, qup_row a1, qup_row (by omega), qup_row (by omega), qup_row (by omega), qup_row (by omega), qup_row (by omega), qup_row (by omega), qup_row (by omega), qup_row (by omega), qup_row (by omega), qup_row (by omega)]
    have f : ∀ j, j ≠ 0 → I' 114 j = I 114 j := fun j hj => by
      rw [hI, qup_j hj, qup_o (by decide), qup_o (by decide), qup_o (by decide), qup_o (by decide), qup_o (by decide), qup_o (by decide), qup_o (by decide), qup_o (by decide), qup_o (by decide), qup_o (by decide)]
    have k115 : ∀ p, I' 115 p = if p = c then kd else I 115 p := fun p => by
      rw [hI, qup_o (by decide), qup_o (by decide), qup_o (by decide), qup_o (by decide), qup_o (by decide), qup_o (by decide), qup_o (by decide), qup_o (by decide), qup_o (by decide), qup_o (by decide)]
      by_cases q : p = c
      · subst q; rw [qup_at, if_pos rfl]
      · rw [qup_j q, if_neg q]
    have k0 : I' 114 0 = nI (c + 1) := by rw [hI, qup_at]
    have kk : ∀ j, j < 124 → ((36 ≤ j ∧ j < 42) ∨ 66 ≤ j) → j ≠ 117 → kp I' j = kp I j := fun j hj h1 h2 => by
      obtain ⟨q1, q2⟩ := kpa_mo j hj h1 h2
      unfold kp
      by_cases z : (kpa j).1 = 114
      · rw [z] at q2 ⊢
        exact f _ (fun w => q2 ⟨rfl, w⟩)
      · rw [e _ z q1]
    obtain ⟨n, h1, ⟨k1, ⟨c', c6', hc', l, l6, hl, ha, hb⟩, k3, k4, k5, k6, k7, k8, k9, k10, k11⟩, h3, h4, h5, h6, h7⟩ := h
    have ecc : c' = c := (nI_eq (by omega) (by omega)).mp (hc'.symm.trans hc)
    subst ecc
    refine ⟨hr, hS, ⟨n, h1.cg (f 17 (by decide)) (f 25 (by decide)) (fun a a1 a2 => e a (by omega) (by omega)), ⟨fun p hp => ?_, ⟨c' + 1, by omega, k0, l, l6, (kk 118 (by omega) (by omega) (by omega)).trans hl, fun i hi => ?_, fun i j hij hj => ?_⟩, fun k hk => ?_, ?_, ?_, ?_, ?_, ?_, fun i hi => ?_, fun i hi => ?_, fun i hi => ?_⟩, ?_, ?_, ?_, ?_, ?_⟩, fun a ha => ⟨e a (by omega) (by omega), rfl⟩, k0, f 39 (by decide), congrFun (e 139 (by decide) (by decide)) 117⟩
    · show ∃ k, k < 7 ∧ kp I' p = nI k
      unfold kp
      rw [kpa_kd p hp]
      show ∃ k, k < 7 ∧ I' 115 p = nI k
      rw [k115]
      split
      · obtain ⟨g1, g2⟩ := qwithin_y c1
        obtain ⟨m, m1, m2⟩ := nI_of2 (M := 6) (n := 6) rfl (Int32.not_lt.mpr g1) g2
        exact ⟨m, by omega, m2⟩
      · have := k1 p hp
        unfold kp at this
        rw [kpa_kd p hp] at this
        exact this
    · obtain ⟨p, p1, p2⟩ := ha i hi
      exact ⟨p, by omega, (kk _ (by omega) (by omega) (by omega)).trans p2⟩
    · rw [kk _ (by omega) (by omega) (by omega), kk _ (by omega) (by omega) (by omega)]; exact hb i j hij hj
    · rw [kk _ (by omega) (by omega) (by omega)]; exact k3 k hk
    · rw [kk _ (by omega) (by omega) (by omega)]; exact k4
    · rw [kk _ (by omega) (by omega) (by omega)]; exact k5
    · rw [kk _ (by omega) (by omega) (by omega)]; exact k6
    · rw [kk _ (by omega) (by omega) (by omega)]; exact k7
    · rw [kk _ (by omega) (by omega) (by omega)]; exact k8
    · rw [kk _ (by omega) (by omega) (by omega)]; exact k9 i hi
    · rw [kk _ (by omega) (by omega) (by omega)]; exact k10 i hi
    · rw [kk _ (by omega) (by omega) (by omega)]; exact k11 i hi
    · rw [f 39 (by decide), e 139 (by decide) (by decide)]; exact h3
    · rw [f 11 (by decide), e 123 (by decide) (by decide)]; exact h4
    · rw [f 16 (by decide)]; exact h5
    · rw [f 37 (by decide)]; exact h6
    · rw [e 146 (by decide) (by decide)]; exact h7
  · have n4 : I 114 0 = 6 := by rw [hc, show c = 6 by omega]; rfl
    rw [if_pos n4] at hr hI
    rw [hI, if_neg c4, if_neg c4]
    exact ⟨hr, hS, h0, fun a ha => ⟨rfl, rfl⟩, hc, rfl, rfl⟩
end H20
/-! the reference's invariant kept: days -/
theorem kpa_ps1 : ∀ j, j < 124 → (j < 6 ∨ (36 ≤ j ∧ j < 42) ∨ 66 ≤ j) → ((kpa j).1 < 118 ∨ 120 < (kpa j).1) ∧ (kpa j).1 ≠ 130 := by decide +kernel
theorem kpa_ps2 : ∀ j, j < 124 → j ≠ 119 → ¬ ((kpa j).1 = 114 ∧ (kpa j).2 = 10) := by decide +kernel
section H21
variable {E : qE} {S : qSh} {I : qI} {J : qJ}
theorem R_pass {n : Int32} (hM : isMd S) (h : rDat I) : qMet E y_Md_pass b_Md_pass 4 (some .int) 5 0 0 [.ref (qb E + 114), .int n] S I J (fun u S' I' J' => (∃ d, d ≤ 9999 ∧ I 114 10 = nI d ∧ J = J' ∧ (if qwithin n 0 60 = 0 then u = some (.int (-2)) ∧ I = I' else if 9999 < nI d + n then u = some (.int (-3)) ∧ I = I' else u = some (.int (nI d + n)) ∧ q130 (mpassN I n.toNatClampNeg) I')) ∧ RQ0 S I J (rT I) u S' I' J') := by
  have h0 := h
  have hday := h.day
  obtain ⟨m, h1, ⟨k1, k2, k3, ⟨d, d9, hd⟩, k5, k6, k7, k8, k9, k10, k11⟩, h3, h4, h5, h6, h7⟩ := h
  refine (c_Md_pass hM hday hd d9).px (fun u S' I' J' hq => ⟨d, d9, hd, hq.2.1, hq.2.2⟩) (fun v S' I' J' hq => ?_)
  obtain ⟨hS, rfl, hR⟩ := hq
  split at hR
  · obtain ⟨-, rfl⟩ := hR
    exact ⟨hS, h0, fun a ha => ⟨rfl, rfl⟩, rfl, rfl, rfl⟩
  · rename_i c1
    split at hR
    · obtain ⟨-, rfl⟩ := hR
      exact ⟨hS, h0, fun a ha => ⟨rfl, rfl⟩, rfl, rfl, rfl⟩
    · rename_i c2
      obtain ⟨-, hI⟩ := hR
      obtain ⟨g1, g2⟩ := qwithin_y c1
      obtain ⟨k, kk, rfl⟩ := nI_of2 (M := 60) (n := 60) rfl (Int32.not_lt.mpr g1) g2
      rw [nI_add] at c2
      have hdk : d + k ≤ 9999 := (nI_leI (by omega) (by omega)).mp (show nI (d + k) ≤ nI 9999 from Int32.not_lt.mp c2)
      rw [qcl (n := k) (by omega)] at hI
      have e : ∀ a, a ≠ 118 → a ≠ 119 → a ≠ 120 → a ≠ 114 → a ≠ 130 → I' a = I a := fun a a1 a2 a3 a4 a5 => by rw [hI a a5]; exact mpassN_row a1 a2 a3 a4 k
      have f : ∀ j, j ≠ 10 → I' 114 j = I 114 j := fun j hj => by rw [hI 114 (by decide)]; exact mpassN_f hj k
      have d0 : I' 114 10 = nI (d + k) := by rw [hI 114 (by decide)]; exact mpassN_d hd k
      have kq : ∀ j, (j < 6 ∨ (36 ≤ j ∧ j < 42) ∨ (66 ≤ j ∧ j < 124)) → j ≠ 119 → kp I' j = kp I j := fun j hj h2 => by
        obtain ⟨q1, q4⟩ := kpa_ps1 j (by omega) (by omega)
        have q5 := kpa_ps2 j (by omega) h2
        unfold kp
        by_cases z : (kpa j).1 = 114
        · rw [z] at q5 ⊢
          exact f _ (fun w => q5 ⟨rfl, w⟩)
        · rw [e _ (by omega) (by omega) (by omega) z q4]
      obtain ⟨c, c6, hc, l, l6, hl, ha, hb⟩ := k2
      refine ⟨hS, ⟨m, h1.cg (f 17 (by decide)) (f 25 (by decide)) (fun a a1 a2 => e a (by omega) (by omega) (by omega) (by omega) (by omega)), ⟨fun p hp => ?_, ⟨c, c6, (kq 117 (by omega) (by omega)).trans hc, l, l6, (kq 118 (by omega) (by omega)).trans hl, fun i hi => ?_, fun i j hij hj => ?_⟩, fun p hp => ?_, ⟨d + k, hdk, d0⟩, ?_, ?_, ?_, ?_, fun i hi => ?_, fun i hi => ?_, fun i hi => ?_⟩, ?_, ?_, ?_, ?_, ?_⟩, fun a ha => ⟨e a (by omega) (by omega) (by omega) (by omega) (by omega), rfl⟩, f 0 (by decide), f 39 (by decide), congrFun (e 139 (by decide) (by decide) (by decide) (by decide) (by decide)) 117⟩
      · rw [kq _ (by omega) (by omega)]; exact k1 p hp
      · rw [kq _ (by omega) (by omega)]; exact ha i hi
      · rw [kq _ (by omega) (by omega), kq _ (by omega) (by omega)]; exact hb i j hij hj
      · rw [kq _ (by omega) (by omega)]; exact k3 p hp
      · rw [kq _ (by omega) (by omega)]; exact k5
      · rw [kq _ (by omega) (by omega)]; exact k6
      · rw [kq _ (by omega) (by omega)]; exact k7
      · rw [kq _ (by omega) (by omega)]; exact k8
      · rw [kq _ (by omega) (by omega)]; exact k9 i hi
      · rw [kq _ (by omega) (by omega)]; exact k10 i hi
      · rw [kq _ (by omega) (by omega)]; exact k11 i hi
      · rw [f 39 (by decide), e 139 (by decide) (by decide) (by decide) (by decide) (by decide)]; exact h3
      · rw [f 11 (by decide), e 123 (by decide) (by decide) (by decide) (by decide) (by decide)]; exact h4
      · rw [f 16 (by decide)]; exact h5
      · rw [f 37 (by decide)]; exact h6
      · rw [e 146 (by decide) (by decide) (by decide) (by decide) (by decide)]; exact h7
end H21
/-! the reference's invariant kept: seen, swapped -/
section H22
variable {E : qE} {S : qSh} {I : qI} {J : qJ}
theorem kpa_act : ∀ j, j < 124 → (kpa j).1 ≠ 138 ∧ ¬ ((kpa j).1 = 114 ∧ (kpa j).2 = 37) := by decide +kernel
/-- what touches the trace alone -/
theorem rDat.tr {I I' : qI} (h : rDat I) (e : ∀ a, a ≠ 114 → a ≠ 138 → I' a = I a) (f : ∀ j, j ≠ 37 → I' 114 j = I 114 j) (ht : ∃ t, t < 2 ^ 30 ∧ I' 114 37 = nI t) : rDat I' := by
  obtain ⟨n, h1, h2, h3, h4, h5, h6, h7⟩ := h
  refine ⟨n, h1.cg (f 17 (by decide)) (f 25 (by decide)) (fun a a1 a2 => e a (by omega) (by omega)), h2.cg (fun j hj => ?_), ?_, ?_, ?_, ht, ?_⟩
  · obtain ⟨q1, q2⟩ := kpa_act j hj
    unfold kp
    by_cases z : (kpa j).1 = 114
    · rw [z] at q2 ⊢
      exact f _ (fun w => q2 ⟨rfl, w⟩)
    · rw [e _ z q1]
  · rw [f 39 (by decide), e 139 (by decide) (by decide)]; exact h3
  · rw [f 11 (by decide), e 123 (by decide) (by decide)]; exact h4
  · rw [f 16 (by decide)]; exact h5
  · rw [e 146 (by decide) (by decide)]; exact h7
end H22
theorem mT_len {i v x : Int32} {kd k : Nat} : (mT i v kd k x).2.length ≤ 20 := by
  have h1 := mT0_len (i := i) (v := v) (x := x) (kd := kd)
  have h2 := mK_len (i := i) (v := v) (x := 1) (kd := kd) (k := kd)
  have h3 := mT0_len (i := i) (v := v) (x := x - i) (kd := kd)
  unfold mT
  (repeat' split) <;> (try simp only [List.length_cons, List.length_append]) <;> omega
theorem mAct_len {i v a x : Int32} {kd : Nat} : (mAct i v kd a x).2.length ≤ 20 := by
  unfold mAct
  split
  · exact Nat.le_trans mW_len (by decide)
  · split
    · exact Nat.le_trans mK_len (by decide)
    · exact mT_len
section H22b
variable {E : qE} {S : qSh} {I : qI} {J : qJ}
theorem R_act {m a x : Int32} (hM : isMd S) (h : rDat I) : qMet E y_Md_act b_Md_act 5 (some .int) 10 0 0 [.ref (qb E + 114), .int m, .int a, .int x] S I J (fun u S' I' J' => (∃ c, c ≤ 6 ∧ I 114 0 = nI c ∧ J' = J ∧ (((∀ p, p < c → m ≠ nI p) ∨ qwithin a 0 2 = 0) ∧ u = some (.int 0) ∧ I' = qup I 114 37 0 ∨ ∃ p k, p < c ∧ m = nI p ∧ k < 7 ∧ I 115 p = nI k ∧ ¬ qwithin a 0 2 = 0 ∧ u = some (.int (mAct (nI p) (I 116 p) k a x).1) ∧ I' = mtrace (qup I 114 37 0) (mAct (nI p) (I 116 p) k a x).2)) ∧ RQ0 S I J (rT I) u S' I' J') := by
  obtain ⟨c, c6, hc⟩ := h.c
  refine (c_Md_act hM hc c6 h.kinds).px (fun u S' I' J' hq => ⟨c, c6, hc, hq.2.1.symm, hq.2.2⟩) (fun v S' I' J' hq => ?_)
  obtain ⟨hS, rfl, hR⟩ := hq
  have key : (∀ a, a ≠ 114 → a ≠ 138 → I' a = I a) ∧ (∀ j, j ≠ 37 → I' 114 j = I 114 j) ∧ ∃ t, t < 2 ^ 30 ∧ I' 114 37 = nI t := by
    rcases hR with ⟨-, -, rfl⟩ | ⟨p, k, -, -, -, -, -, -, rfl⟩
    · exact ⟨fun b b1 _ => qup_row b1, fun j hj => qup_j hj, 0, by decide, qup_at⟩
    · refine ⟨fun b b1 b2 => by rw [mtrace_row b2 b1, qup_row b1], fun j hj => by rw [mtrace_f hj, qup_j hj], _, ?_, mtrace_n _ _ 0 qup_at⟩
      have := mAct_len (i := nI p) (v := I 116 p) (kd := k) (a := a) (x := x)
      omega
  obtain ⟨e, f, ht⟩ := key
  exact ⟨hS, h.tr e f ht, fun b hb => ⟨e b (by omega) (by omega), rfl⟩, f 0 (by decide), f 39 (by decide), congrFun (e 139 (by decide) (by decide)) 117⟩
end H22b
/-! the reference's invariant kept: lists, notes, tapes -/
/-- what keeps texts, islands and tapes -/
theorem rDat.chg {I I' : qI} (h : rDat I) (e : ∀ a, (a = 123 ∨ (124 ≤ a ∧ a ≤ 129) ∨ a = 139 ∨ a = 146) → I' a = I a) (f : ∀ j, (j = 11 ∨ j = 16 ∨ j = 17 ∨ j = 25 ∨ j = 37 ∨ j = 39) → I' 114 j = I 114 j) (hs : ∀ n, rSnap (kp I) n → rSnap (kp I') n) : rDat I' := by
  obtain ⟨n, h1, h2, h3, h4, h5, h6, h7⟩ := h
  refine ⟨n, h1.cg (f 17 (by omega)) (f 25 (by omega)) (fun a a1 a2 => e a (by omega)), hs n h2, ?_, ?_, ?_, ?_, ?_⟩
  · rw [f 39 (by omega), e 139 (by omega)]; exact h3
  · rw [f 11 (by omega), e 123 (by omega)]; exact h4
  · rw [f 16 (by omega)]; exact h5
  · rw [f 37 (by omega)]; exact h6
  · rw [e 146 (by omega)]; exact h7
theorem qpig : ∀ (n : Nat) (f : Nat → Nat), (∀ i, i ≤ n → f i < n) → (∀ i j, i < j → j ≤ n → f i ≠ f j) → False := by
  intro n
  induction n with
  | zero => intro f hf _; exact absurd (hf 0 (Nat.le_refl _)) (Nat.not_lt_zero _)
  | succ n ih =>
    intro f hf hi
    refine ih (fun i => if f i = n then f (n + 1) else f i) (fun i hi' => ?_) (fun i j hij hj => ?_)
    · have a1 := hf i (by omega)
      have a2 := hf (n + 1) (Nat.le_refl _)
      have a3 := hi i (n + 1) (by omega) (Nat.le_refl _)
      split <;> omega
    · have a1 := hi i j hij (by omega)
      have a2 := hi i (n + 1) (by omega) (Nat.le_refl _)
      have a3 := hi j (n + 1) (by omega) (Nat.le_refl _)
      split <;> split <;> omega
theorem qplace_no {f : Nat → Int32} {x : Int32} {n : Nat} (hn : n ≤ 6) : ∀ j, j ≤ n → qplace f x n j = -5 → ∀ k, n - j ≤ k → k < n → f k ≠ x := by
  have h5 : ∀ k, k < 6 → ¬ nI k = -5 := by decide
  intro j
  induction j with
  | zero => intro _ _ k k1 k2; omega
  | succ j ih =>
    intro hj hq k k1 k2
    rw [qplace] at hq
    split at hq
    · exact absurd hq (h5 _ (by omega))
    · rename_i c
      by_cases e : k = n - (j + 1)
      · rw [e]; exact c
      · exact ih (by omega) hq k (by omega) k2
theorem kpa_ls : ∀ k, k < 6 → kpa (36 + k) = (122, k) := by decide +kernel
theorem kpa_ls2 : ∀ j, j < 124 → ¬ (36 ≤ j ∧ j < 42) → (kpa j).1 ≠ 122 := by decide +kernel
theorem kpa_lf8 : ∀ j, j < 124 → j ≠ 118 → ¬ ((kpa j).1 = 114 ∧ (kpa j).2 = 8) := by decide +kernel
/-- the list's part alone -/
theorem rSnap.ls {f g : Nat → Int32} {n : Nat} (h : rSnap f n) (e : ∀ j, j < 124 → ¬ (36 ≤ j ∧ j < 42) → j ≠ 118 → g j = f j) (h2 : ∃ c, c ≤ 6 ∧ f 117 = nI c ∧ ∃ l, l ≤ 6 ∧ g 118 = nI l ∧ (∀ i, i < l → ∃ p, p < c ∧ g (36 + i) = nI p) ∧ ∀ i j, i < j → j < l → g (36 + i) ≠ g (36 + j)) (h3' : ∀ k, k < 6 → ∃ p, p < 6 ∧ g (36 + k) = nI p) : rSnap g n := by
  obtain ⟨h1, -, h3, h4, h5, h6, h7, h8, h9, h10, h11⟩ := h
  refine ⟨fun p hp => by rw [e p (by omega) (by omega) (by omega)]; exact h1 p hp, ?_, h3', by rw [e _ (by decide) (by decide) (by decide)]; exact h4, by rw [e _ (by decide) (by decide) (by decide)]; exact h5, by rw [e _ (by decide) (by decide) (by decide)]; exact h6, by rw [e _ (by decide) (by decide) (by decide)]; exact h7, by rw [e _ (by decide) (by decide) (by decide)]; exact h8, fun i hi => by rw [e _ (by omega) (by omega) (by omega)]; exact h9 i hi, fun i hi => by rw [e _ (by omega) (by omega) (by omega)]; exact h10 i hi, fun i hi => by rw [e _ (by omega) (by omega) (by omega)]; exact h11 i hi⟩
  rw [e 117 (by decide) (by decide) (by decide)]; exact h2
/-- the list as the cells hold it -/
theorem rDat.lst {I : qI} (h : rDat I) : ∃ c, c ≤ 6 ∧ I 114 0 = nI c ∧ ∃ l, l ≤ 6 ∧ I 114 8 = nI l ∧ (∀ i, i < l → ∃ p, p < c ∧ I 122 i = nI p) ∧ (∀ i j, i < j → j < l → I 122 i ≠ I 122 j) ∧ ∀ k, k < 6 → ∃ p, p < 6 ∧ I 122 k = nI p := by
  obtain ⟨n, -, ⟨-, ⟨c, c6, hc, l, l6, hl, ha, hb⟩, h3, -⟩, -⟩ := h
  have z : ∀ k, k < 6 → kp I (36 + k) = I 122 k := fun k hk => by unfold kp; rw [kpa_ls k hk]
  refine ⟨c, c6, hc, l, l6, hl, fun i hi => ?_, fun i j hij hj => ?_, fun k hk => ?_⟩
  · rw [← z i (by omega)]; exact ha i hi
  · rw [← z i (by omega), ← z j (by omega)]; exact hb i j hij hj
  · rw [← z k hk]; exact h3 k hk
/-- .. and back -/
theorem rDat.lst' {I I' : qI} {c l : Nat} (h : rDat I) (e : ∀ a, a ≠ 114 → a ≠ 122 → I' a = I a) (f : ∀ j, j ≠ 8 → I' 114 j = I 114 j) (c6 : c ≤ 6) (hc : I 114 0 = nI c) (l6 : l ≤ 6) (hl : I' 114 8 = nI l) (ha : ∀ i, i < l → ∃ p, p < c ∧ I' 122 i = nI p) (hb : ∀ i j, i < j → j < l → I' 122 i ≠ I' 122 j) (h3 : ∀ k, k < 6 → ∃ p, p < 6 ∧ I' 122 k = nI p) : rDat I' := by
  have z : ∀ k, k < 6 → kp I' (36 + k) = I' 122 k := fun k hk => by unfold kp; rw [kpa_ls k hk]
  refine h.chg (fun a ha => e a (by omega) (by omega)) (fun j hj => f j (by omega)) (fun n hn => hn.ls (fun j hj j1 j2 => ?_) ⟨c, c6, hc, l, l6, hl, fun i hi => ?_, fun i j hij hj => ?_⟩ (fun k hk => ?_))
  · have q1 := kpa_ls2 j hj j1
    have q2 := kpa_lf8 j hj j2
    unfold kp
    by_cases w : (kpa j).1 = 114
    · rw [w] at q2 ⊢
      exact f _ (fun x => q2 ⟨rfl, x⟩)
    · rw [e _ w q1]
  · rw [z i (by omega)]; exact ha i hi
  · rw [z i (by omega), z j (by omega)]; exact hb i j hij hj
  · rw [z k hk]; exact h3 k hk
section H23
variable {E : qE} {S : qSh} {I : qI} {J : qJ}
theorem R_list {p : Int32} (hM : isMd S) (h : rDat I) : qMet E y_Md_list b_Md_list 2 (some .int) 2 0 0 [.ref (qb E + 114), .int p] S I J (fun u S' I' J' => (∃ l, l ≤ 6 ∧ I 114 8 = nI l ∧ u = some (.int (ga_Md_list I J l p)) ∧ I' = gi_Md_list I J l p ∧ J' = gj_Md_list I J l p) ∧ RQ0 S I J (rT I) u S' I' J') := by
  have h0 := h
  obtain ⟨c, c6, hc, l, l6, hl, ha, hb, h3⟩ := h.lst
  have hfr : ∀ q, q < c → qplace (I 122) (nI q) l l = -5 → l < 6 := by
    intro q hq hp
    have no := qplace_no (f := I 122) (x := nI q) (n := l) l6 l (Nat.le_refl _) hp
    rcases Nat.lt_or_ge l 6 with w | w
    · exact w
    · exfalso
      refine qpig 6 (fun i => if i < l then (I 122 i).toNatClampNeg else q) (fun i hi => ?_) (fun i j hij hj => ?_)
      · split
        · rename_i w2
          obtain ⟨p, p1, p2⟩ := ha i w2
          rw [p2, qcl (by omega)]; omega
        · omega
      · rw [if_pos (show i < l by omega)]
        obtain ⟨p1, p2, p3⟩ := ha i (by omega)
        split
        · rename_i w2
          obtain ⟨r1, r2, r3⟩ := ha j w2
          rw [p3, r3, qcl (by omega), qcl (by omega)]
          intro z
          refine hb i j hij w2 ?_
          rw [p3, r3, z]
        · rw [p3, qcl (by omega)]
          intro z
          refine no i (by omega) (by omega) ?_
          rw [p3, z]
  refine (c_Md_list hM hc c6 hl l6 hfr).px (fun u S' I' J' hq => ⟨l, l6, hl, hq.1, hq.2.2.1, hq.2.2.2⟩) (fun v S' I' J' hq => ?_)
  obtain ⟨-, hS, hI, hJ⟩ := hq
  have e2 : J' = J := by rw [hJ]; unfold gj_Md_list; (repeat' split) <;> rfl
  subst e2
  unfold gi_Md_list at hI
  split at hI
  · have e : ∀ a, a ≠ 114 → I' a = I a := fun a a1 => by rw [hI, qup_row a1]
    have f : ∀ j, j ≠ 8 → I' 114 j = I 114 j := fun j j1 => by rw [hI, qup_j j1]
    refine ⟨hS, h0.lst' (l := 0) (fun a a1 a2 => e a a1) f c6 hc (by omega) (by rw [hI, qup_at]; rfl) (fun i hi => absurd hi (Nat.not_lt_zero _)) (fun i j _ hj => absurd hj (Nat.not_lt_zero _)) (fun k hk => ?_), fun a ha => ⟨e a (by omega), rfl⟩, f 0 (by decide), f 39 (by decide), congrFun (e 139 (by decide)) 117⟩
    rw [e 122 (by decide)]; exact h3 k hk
  · split at hI
    · rw [hI]; exact ⟨hS, h0, fun a ha => ⟨rfl, rfl⟩, rfl, rfl, rfl⟩
    · rename_i c1 c2
      split at hI
      · rename_i c3
        rw [hc] at c2
        obtain ⟨m, m1, rfl⟩ := qisM_y (show c < 2 ^ 31 by omega) c2
        have l5 := hfr m m1 c3
        have no := qplace_no (f := I 122) (x := nI m) (n := l) l6 l (Nat.le_refl _) c3
        rw [hl, q1, qcl (by omega)] at hI
        have e : ∀ a, a ≠ 114 → a ≠ 122 → I' a = I a := fun a a1 a2 => by rw [hI, qup_row a2, qup_row a1]
        have f : ∀ j, j ≠ 8 → I' 114 j = I 114 j := fun j j1 => by rw [hI, qup_o (by decide), qup_j j1]
        have g : ∀ j, j ≠ l → I' 122 j = I 122 j := fun j j1 => by rw [hI, qup_j j1, qup_o (by decide)]
        have gl : I' 122 l = nI m := by rw [hI, qup_at]
        refine ⟨hS, h0.lst' (l := l + 1) e f c6 hc (by omega) (by rw [hI, qup_o (by decide), qup_at]) (fun i hi => ?_) (fun i j hij hj => ?_) (fun k hk => ?_), fun a ha => ⟨e a (by omega) (by omega), rfl⟩, f 0 (by decide), f 39 (by decide), congrFun (e 139 (by decide) (by decide)) 117⟩
        · by_cases q : i = l
          · subst q; exact ⟨m, m1, gl⟩
          · rw [g i q]; exact ha i (by omega)
        · by_cases q : j = l
          · subst q
            rw [gl, g i (by omega)]
            exact no i (by omega) hij
          · rw [g i (by omega), g j q]; exact hb i j hij (by omega)
        · by_cases q : k = l
          · subst q; exact ⟨m, by omega, gl⟩
          · rw [g k q]; exact h3 k hk
      · rw [hI]; exact ⟨hS, h0, fun a ha => ⟨rfl, rfl⟩, rfl, rfl, rfl⟩
theorem R_swap {p q : Int32} (hM : isMd S) (h : rDat I) : qMet E y_Md_swap b_Md_swap 5 (some .int) 2 0 0 [.ref (qb E + 114), .int p, .int q] S I J (fun u S' I' J' => (∃ l, l ≤ 6 ∧ I 114 8 = nI l ∧ u = some (.int (ga_Md_swap I J l p q)) ∧ I' = gi_Md_swap I J l p q ∧ J' = gj_Md_swap I J l p q) ∧ RQ0 S I J (rT I) u S' I' J') := by
  have h0 := h
  obtain ⟨c, c6, hc, l, l6, hl, ha, hb, h3⟩ := h.lst
  refine (c_Md_swap hM hc c6 hl l6).px (fun u S' I' J' hq => ⟨l, l6, hl, hq.1, hq.2.2.1, hq.2.2.2⟩) (fun v S' I' J' hq => ?_)
  obtain ⟨-, hS, hI, hJ⟩ := hq
  have e2 : J' = J := by rw [hJ]; unfold gj_Md_swap; (repeat' split) <;> rfl
  subst e2
  have idn : I' = I → RQ0 S I J' (rT I) v S' I' J' := fun w => by subst w; exact ⟨hS, h0, fun a ha => ⟨rfl, rfl⟩, rfl, rfl, rfl⟩
  unfold gi_Md_swap at hI
  split at hI
  · exact idn hI
  split at hI
  · exact idn hI
  split at hI
  · exact idn hI
  rename_i c3
  split at hI
  · exact idn hI
  rename_i c4
  split at hI
  · exact idn hI
  rename_i c5
  obtain ⟨k, k1, k2, k3⟩ := (qplace_in (f := I 122) (x := p) (n := l) l (Nat.le_refl _)).resolve_left c4
  obtain ⟨m, m1, m2, m3⟩ := (qplace_in (f := I 122) (x := q) (n := l) l (Nat.le_refl _)).resolve_left c5
  rw [k2, m2, qcl (by omega), qcl (by omega)] at hI
  have km : k ≠ m := fun w => c3 (by rw [← k3, ← m3, w])
  have e : ∀ a, a ≠ 122 → I' a = I a := fun a a2 => by rw [hI, qup_row a2, qup_row a2]
  have g : ∀ j, j ≠ k → j ≠ m → I' 122 j = I 122 j := fun j j1 j2 => by rw [hI, qup_j j2, qup_j j1]
  have gm : I' 122 m = I 122 k := by rw [hI, qup_at, k3]
  have gk : I' 122 k = I 122 m := by rw [hI, qup_j km, qup_at, m3]
  have hne : ∀ i j, i < l → j < l → i ≠ j → I 122 i ≠ I 122 j := fun i j hi hj hij => by
    rcases Nat.lt_or_ge i j with w | w
    · exact hb i j w hj
    · exact fun z => hb j i (by omega) hi z.symm
  have hs : ∀ j, j < 6 → ∃ j', I' 122 j = I 122 j' ∧ (j = k ∧ j' = m ∨ j = m ∧ j' = k ∨ j ≠ k ∧ j ≠ m ∧ j' = j) := fun j hj => by
    by_cases w : j = k
    · subst w; exact ⟨m, gk, Or.inl ⟨rfl, rfl⟩⟩
    · by_cases w2 : j = m
      · subst w2; exact ⟨k, gm, Or.inr (Or.inl ⟨rfl, rfl⟩)⟩
      · exact ⟨j, g j w w2, Or.inr (Or.inr ⟨w, w2, rfl⟩)⟩
  refine ⟨hS, h0.lst' (l := l) (fun a _ a2 => e a a2) (fun j _ => congrFun (e 114 (by decide)) j) c6 hc l6 (by rw [e 114 (by decide)]; exact hl) (fun i hi => ?_) (fun i j hij hj => ?_) (fun k hk => ?_), fun a ha => ⟨e a (by omega), rfl⟩, congrFun (e 114 (by decide)) 0, congrFun (e 114 (by decide)) 39, congrFun (e 139 (by decide)) 117⟩
  · obtain ⟨i', w1, w2⟩ := hs i (by omega)
    rw [w1]; exact ha i' (by omega)
  · obtain ⟨i', w1, w2⟩ := hs i (by omega)
    obtain ⟨j', v1, v2⟩ := hs j (by omega)
    rw [w1, v1]; exact hne i' j' (by omega) (by omega) (by omega)
  · obtain ⟨i', w1, w2⟩ := hs k (by omega)
    rw [w1]; exact h3 i' (by omega)
end H23
