/-! islands of both side by side; what one hurts a day -/
/-- the class's island at w in K, and what the reference holds in M -/
def xIl (K M : qI) (w : Nat) (hv : Int32) : Prop := (hv = -1 ∧ K w 4 = 0 ∧ K w 5 = 0) ∨ ∃ (h cz : Nat) (P : List Int32) (m : Nat) (L : List (Int32 × Nat)) (z : Int32), h < 6 ∧ hv = nI h ∧ m ≤ 10 ∧ M 124 h = nI m ∧ xCs M cz h P m L z ∧ L.length ≤ m ∧ K w 4 = nI L.length ∧ (∀ j, j < L.length → K (w + 2) j = (L.getD j (0, 0)).1 ∧ K (w + 3) j = nI (L.getD j (0, 0)).2) ∧ K w 5 = z ∧ (∀ j, j < P.length → K (w + 1) j = trc (P.getD j 0)) ∧ (∀ j, j < P.length → M 129 (cz + j) = P.getD j 0) ∧ P.length ≤ 100 ∧ ∃ C, C ≤ 600 ∧ M 114 25 = nI C ∧ cz + P.length ≤ C
theorem xCs.lost {I : qI} {cz h : Nat} {P : List Int32} : ∀ (m : Nat) (L : List (Int32 × Nat)) (z : Int32), xCs I cz h P m L z → mlostN I h m = z := by
  intro m
  induction m with
  | zero => intro L z hx; exact hx.2.symm
  | succ m ih =>
    intro L z hx
    rw [mlostN]
    rcases hx with ⟨x1, x2, -⟩ | ⟨x1, L0, u, w, y, -, -, -, -, -, -, x8⟩
    · rw [if_pos x1]; exact x2
    · rw [if_neg (fun q => by rcases x1 with r | r <;> (rw [r] at q; exact absurd q (by decide)))]
      exact ih L0 z x8
theorem tst_lt : ∀ x, x < 1800 → (nI (3 + x) - 3 = nI x) ∧ ∃ l, l < 6 ∧ nI x / 300 = nI l := by
  intro x hx
  refine ⟨by rw [show 3 + x = x + 3 by omega]; exact (nI_subk (a := x + 3) (b := 3) (by omega)).trans (by congr 1), ?_⟩
  have h : ∀ x, x < 1800 → nI x / 300 = nI (x / 300) := by decide +kernel
  exact ⟨x / 300, by omega, h x hx⟩
/-- a test, for both -/
theorem x_test {K M : qI} {o p : Nat} {d w : Int32} (h0 : K o 0 = nI p) (h1 : K o 1 = M 115 p) (h2 : K o 2 = M 116 p) (h3 : K o 3 = M 117 p) : ∀ c, pT c → mtv M p w d c = qtestV (qvals K o d w) (trc c) := by
  intro c hc
  obtain ⟨-, -, -, -, x, x1, x2, x3⟩ := hc.ge
  obtain ⟨s1, l, l6, s2⟩ := tst_lt x x1
  rw [x3, x2]
  unfold mtv qtestV
  rw [s1, s2]
  have n0 : ¬ (nI l < 0 ∨ 6 ≤ nI l) := fun q => q.elim (nI_pos (by omega)) (fun q => by
    have := (nI_leI (a := 6) (by omega) (by omega)).mp q
    omega)
  rw [if_neg n0, qcl (by omega)]
  have e : mlet M p w d (nI l) = qvals K o d w l := by
    have : l = 0 ∨ l = 1 ∨ l = 2 ∨ l = 3 ∨ l = 4 ∨ l = 5 := by omega
    unfold mlet qvals
    rcases this with rfl | rfl | rfl | rfl | rfl | rfl
    · rw [if_pos (by decide)]; exact h0.symm
    · rw [if_neg (by decide), if_pos (by decide)]; exact h1.symm
    · rw [if_neg (by decide), if_neg (by decide), if_pos (by decide)]; exact h2.symm
    · rw [if_neg (by decide), if_neg (by decide), if_neg (by decide), if_pos (by decide)]; show _ = K o 3 / 10; rw [h3]
    · rw [if_neg (by decide), if_neg (by decide), if_neg (by decide), if_neg (by decide), if_pos (by decide)]; rfl
    · rw [if_neg (by decide), if_neg (by decide), if_neg (by decide), if_neg (by decide), if_neg (by decide)]; rfl
  rw [e]
  unfold mtst
  rfl
theorem xEnd_from {L0 : List (Int32 × Nat)} {e : Nat → Nat} (h : ∀ j, j < L0.length → e j = (L0.getD j (0, 0)).2) : qfrom e L0.length = xEnd L0 := by
  unfold xEnd
  rcases Nat.eq_zero_or_pos L0.length with h0 | h0
  · have : L0 = [] := List.length_eq_zero_iff.mp h0
    subst this; rfl
  · obtain ⟨k, hk⟩ : ∃ k, L0.length = k + 1 := ⟨L0.length - 1, by omega⟩
    rw [hk, qfrom, h k (by omega), List.getLast?_eq_getElem?, hk]
    simp [List.getD_eq_getElem?_getD, List.getElem?_eq_getElem (show k < L0.length by omega)]
theorem xCs_le {I : qI} {cz h : Nat} {P : List Int32} : ∀ (m : Nat) (L : List (Int32 × Nat)) (z : Int32), xCs I cz h P m L z → ∀ j, j < L.length → (L.getD j (0, 0)).2 ≤ P.length := by
  intro m
  induction m with
  | zero => intro L z hx j hj; rw [hx.1] at hj; exact absurd hj (Nat.not_lt_zero _)
  | succ m ih =>
    intro L z hx j hj
    rcases hx with ⟨-, -, z0, x3⟩ | ⟨-, L0, u, v, y, x2, -, -, -, -, x7, x8⟩
    · exact ih L z0 x3 j hj
    · rw [x7] at hj ⊢
      rw [List.length_append] at hj
      by_cases c : j < L0.length
      · rw [List.getD_eq_getElem?_getD, List.getElem?_append_left c, ← List.getD_eq_getElem?_getD]
        exact ih L0 z x8 j c
      · have : j = L0.length := by simp at hj; omega
        subst this
        rw [List.getD_eq_getElem?_getD, List.getElem?_append_right (Nat.le_refl _)]
        simp
        rw [x2, List.length_append, List.length_append]; omega
theorem xCs.sum {K I : qI} {cz h p w : Nat} {P : List Int32} {d ww : Int32} {vs : Nat → Int32} (htv : ∀ c, pT c → mtv I p ww d c = qtestV vs (trc c)) (hP : P.length ≤ 100) (hcz : cz ≤ 600) (g1 : ∀ j, j < P.length → K (w + 1) j = trc (P.getD j 0)) (g2 : ∀ j, j < P.length → I 129 (cz + j) = P.getD j 0) : ∀ (m : Nat) (L : List (Int32 × Nat)) (z : Int32), xCs I cz h P m L z → (∀ j, j < L.length → K (w + 2) j = (L.getD j (0, 0)).1 ∧ K (w + 3) j = nI (L.getD j (0, 0)).2) → qsumN K w vs (I 117 p) L.length = msumN I p ww d h m := by
  intro m
  induction m with
  | zero =>
    intro L z hx _
    rw [hx.1]; rfl
  | succ m ih =>
    intro L z hx hm
    rw [msumN]
    rcases hx with ⟨x1, x2, z0, x3⟩ | ⟨x1, L0, u, v, y, x2, x3, x4, x5, x6, x7, x8⟩
    · rw [if_pos (by rw [x1]; decide)]
      exact ih L z0 x3 hm
    · have hlen : L.length = L0.length + 1 := by rw [x7, List.length_append]; rfl
      have hl0 : ∀ j, j < L0.length → L.getD j (0, 0) = L0.getD j (0, 0) := fun j hj => by
        rw [x7, List.getD_eq_getElem?_getD, List.getD_eq_getElem?_getD, List.getElem?_append_left hj]
      have hll : L.getD L0.length (0, 0) = ((if I 125 (10 * h + m) = 0 then I 126 (10 * h + m) else -(I 126 (10 * h + m))), u.length + v.length) := by
        rw [x7, List.getD_eq_getElem?_getD, List.getElem?_append_right (Nat.le_refl _)]
        simp
      have ih0 := ih L0 z x8 (fun j hj => by rw [← hl0 j hj]; exact hm j (by omega))
      obtain ⟨r1, r2⟩ := hm L0.length (by omega)
      rw [hll] at r1 r2
      have lP : P.length = u.length + (v.length + y.length) := by rw [x2, List.length_append, List.length_append]
      have ee : ∀ j, j < L0.length → qe K w j = (L0.getD j (0, 0)).2 ∧ True := fun j hj => by
        obtain ⟨-, q⟩ := hm j (by omega)
        refine ⟨?_, trivial⟩
        unfold qe
        rw [q, hl0 j hj]
        refine qcl ?_
        have : (L0.getD j (0, 0)).2 ≤ P.length := xCs_le m L0 z x8 j hj
        omega
      have e1 : qe K w L0.length = u.length + v.length := by
        unfold qe
        rw [r2]; exact qcl (by simp only; omega)
      have e2 : qfrom (qe K w) L0.length = u.length := by rw [xEnd_from (fun j hj => (ee j hj).1), x4]
      have cv := clause_val (tv := mtv I p ww d) (vs := vs) (g1 := K (w + 1)) (g2 := I 129) htv x3 (a := u.length) (b := cz + u.length) (fun j hj => by
          rw [g1 (u.length + j) (by omega), x2]
          congr 1
          simp [List.getD_eq_getElem?_getD, List.getElem?_append_right, List.getElem?_append_left hj]) (fun j hj => by
          rw [Nat.add_assoc, g2 (u.length + j) (by omega), x2]
          simp [List.getD_eq_getElem?_getD, List.getElem?_append_right, List.getElem?_append_left hj])
      have mt : mtrue I p ww d (10 * h + m) = qisSo (K (w + 1)) vs u.length (u.length + v.length) := by
        unfold mtrue
        rw [x6, x5, qcl (by omega), qcl (by omega)]
        exact cv.symm
      rw [hlen, qsumN, e1, e2, ih0, mt]
      rw [if_neg (show ¬ 2 ≤ I 125 (10 * h + m) from fun q => by rcases x1 with r | r <;> (rw [r] at q; exact absurd q (by decide)))]
      by_cases c : qisSo (K (w + 1)) vs u.length (u.length + v.length) = 0
      · rw [if_pos c, if_pos c]
      · rw [if_neg c, if_neg c, r1]
        by_cases c2 : I 125 (10 * h + m) = 0
        · rw [if_pos c2, if_pos c2]
        · rw [if_neg c2, if_neg c2]
/-- what one hurts on a day, for both -/
theorem x_pain {K M : qI} {o i p dd : Nat} {w : Int32} (h0 : K (qm o p) 0 = nI p) (h1 : K (qm o p) 1 = M 115 p) (h2 : K (qm o p) 2 = M 116 p) (h3 : K (qm o p) 3 = M 117 p) (hr : ∀ r, r < 4 → K (qm o p + 1) r = M 121 (4 * p + r)) (hil : xIl K M i (M 114 18)) (hdd : dd < 2 ^ 31) : qpain K i (qm o p) (nI dd) w = mpain M p (nI dd) w := by
  have hs : qsum K i (qvals K (qm o p) (nI dd) w) (K (qm o p) 3) = msum M p w (nI dd) := by
    unfold qsum msum
    rw [h3]
    rcases hil with ⟨e, e4, -⟩ | ⟨h, cz, P, m, L, z, h6, e, m10, e124, hx, hl, e4, hrow, -, g1, g2, hP, C, hC, -, hCz⟩
    · rw [e4, if_pos e]; rfl
    · have nh : ¬ M 114 18 = -1 := fun q => by
        rw [e] at q
        have : ∀ h, h < 6 → ¬ nI h = -1 := by decide
        exact this h h6 q
      rw [if_neg nh, e, qcl (by omega), e124, qcl (by omega), e4, qcl (by omega)]
      exact xCs.sum (x_test h0 h1 h2 h3) hP (by omega) g1 g2 m L z hx hrow
  unfold qpain mpain
  rw [hs]
  congr 1
  generalize msum M p w (nI dd) = s
  unfold qpainBy mpn qsaved
  rw [h1, h2]
  have r2 : nI dd - nI dd / 2 * 2 = nI (dd % 2) := pk_rem (d := 2) hdd (by decide) (by decide)
  have r4 : nI dd - nI dd / 4 * 4 = nI (dd % 4) := pk_rem (d := 4) hdd (by decide) (by decide)
  by_cases k1 : M 115 p = 1
  · rw [if_pos k1, if_pos k1]
  rw [if_neg k1, if_neg k1]
  by_cases k2 : M 115 p = 2
  · rw [if_pos k2, if_pos k2]
  rw [if_neg k2, if_neg k2]
  by_cases k3 : M 115 p = 3
  · rw [if_pos k3, if_pos k3, Int32.mul_comm s 2]
  rw [if_neg k3, if_neg k3]
  by_cases k4 : M 115 p = 4
  · rw [if_pos k4, if_pos k4, Int32.add_assoc]
  rw [if_neg k4, if_neg k4]
  by_cases k5 : M 115 p = 5
  · rw [if_pos k5, if_pos k5, r2]
    have : dd % 2 = 0 ∨ dd % 2 = 1 := by omega
    rcases this with q | q
    · rw [q, if_pos (by decide), if_neg (by decide)]
    · rw [q, if_neg (by decide), if_pos (by decide)]
  rw [if_neg k5, if_neg k5]
  by_cases k6 : M 115 p = 6
  · have := Nat.mod_lt dd (show 4 > 0 by decide)
    rw [if_pos k6, if_pos k6, r4, qmod4 hdd, qcl (by omega), hr _ (by omega), Int32.mul_comm s 2]
  rw [if_neg k6, if_neg k6]
theorem x_lost {K M : qI} {i : Nat} (hil : xIl K M i (M 114 18)) : K i 5 = mlost M := by
  unfold mlost
  rcases hil with ⟨e, -, e5⟩ | ⟨h, cz, P, m, L, z, h6, e, m10, e124, hx, hl, e4, hrow, e5, -⟩
  · rw [if_pos e]; exact e5
  · have nh : ¬ M 114 18 = -1 := fun q => by
      rw [e] at q
      have : ∀ h, h < 6 → ¬ nI h = -1 := by decide
      exact this h h6 q
    rw [if_neg nh, e, qcl (by omega), e124, qcl (by omega), e5]
    exact (hx.lost).symm
