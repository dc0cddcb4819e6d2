/-! islands of both side by side; what one hurts a day -/
/-- the class's island at w in K, and what the reference holds in M -/
def xIl (K M : qI) (w : Nat) (hv : Int32) : Prop := (hv = -1 ∧ K w 4 = 0 ∧ K w 5 = 0) ∨ ∃ (h cz : Nat) (P : List Int32) (m : Nat) (L : List (Int32 × Nat)) (z : Int32), h < 6 ∧ hv = nI h ∧ m ≤ 10 ∧ M 124 h = nI m ∧ xCs M cz h P m L z ∧ L.length ≤ m ∧ K w 4 = nI L.length ∧ (∀ j, j < L.length → K (w + 2) j = (L.getD j (0, 0)).1 ∧ K (w + 3) j = nI (L.getD j (0, 0)).2) ∧ K w 5 = z ∧ (∀ j, j < P.length → K (w + 1) j = trc (P.getD j 0)) ∧ (∀ j, j < P.length → M 129 (cz + j) = P.getD j 0) ∧ P.length ≤ 100 ∧ ∃ C, C ≤ 600 ∧ M 114 25 = nI C ∧ cz + P.length ≤ C
theorem xCs.lost {I : qI} {cz h : Nat} {P : List Int32} : ∀ (m : Nat) (L : List (Int32 × Nat)) (z : Int32), xCs I cz h P m L z → mlostN I h m = z := by
  intro m
  induction m with
  | zero => intro L z hx; exact hx.2.symm
  | succ m ih =>
    intro L z hx
    rw [mlostN]
    rcases hx with ⟨x1, x2, -⟩ | ⟨x1, L0, u, w, y, -, -, -, -, -, -, x8⟩
    · rw [if_pos x1]; exact x2
    · rw [if_neg (fun q => by rcases x1 with r | r <;> (rw [r] at q; exact absurd q (by decide)))]
      exact ih L0 z x8
theorem tst_lt : ∀ x, x < 1800 → (nI (3 + x) - 3 = nI x) ∧ ∃ l, l < 6 ∧ nI x / 300 = nI l := by
  intro x hx
  refine ⟨by rw [show 3 + x = x + 3 by omega]; exact (nI_subk (a := x + 3) (b := 3) (by omega)).trans (by congr 1), ?_⟩
  have h : ∀ x, x < 1800 → nI x / 300 = nI (x / 300) := by decide +kernel
  exact ⟨x / 300, by omega, h x hx⟩
/-- a test, for both -/
theorem x_test {K M : qI} {o p : Nat} {d w : Int32} (h0 : K o 0 = nI p) (h1 : K o 1 = M 115 p) (h2 : K o 2 = M 116 p) (h3 : K o 3 = M 117 p) : ∀ c, pT c → mtv M p w d c = qtestV (qvals K o d w) (trc c) := by
  intro c hc
  obtain ⟨-, -, -, -, x, x1, x2, x3⟩ := hc.ge
  obtain ⟨s1, l, l6, s2⟩ := tst_lt x x1
  rw [x3, x2]
  unfold mtv qtestV
  rw [s1, s2]
  have n0 : ¬ (nI l < 0 ∨ 6 ≤ nI l) := fun q => q.elim (nI_pos (by omega)) (fun q => by
    have := (nI_leI (a := 6) (by omega) (by omega)).mp q
    omega)
  rw [if_neg n0, qcl (by omega)]
  have e : mlet M p w d (nI l) = qvals K o d w l := by
    have : l = 0 ∨ l = 1 ∨ l = 2 ∨ l = 3 ∨ l = 4 ∨ l = 5 := by omega
    unfold mlet qvals
    rcases this with rfl | rfl | rfl | rfl | rfl | rfl
    · rw [if_pos (by decide)]; exact h0.symm
    · rw [if_neg (by decide), if_pos (by decide)]; exact h1.symm
    · rw [if_neg (by decide), if_neg (by decide), if_pos (by decide)]; exact h2.symm
    · rw [if_neg (by decide), if_neg (by decide), if_neg (by decide), if_pos (by decide)]; show _ = K o 3 / 10; rw [h3]
    · rw [if_neg (by decide), if_neg (by decide), if_neg (by decide), if_neg (by decide), if_pos (by decide)]; rfl
    · rw [if_neg (by decide), if_neg (by decide), if_neg (by decide), if_neg (by decide), if_neg (by decide)]; rfl
  rw [e]
  unfold mtst
  rfl
theorem xEnd_from {L0 : List (Int32 × Nat)} {e : Nat → Nat} (h : ∀ j, j < L0.length → e j = (L0.getD j (0, 0)).2) : qfrom e L0.length = xEnd L0 := by
  unfold xEnd
  rcases Nat.eq_zero_or_pos L0.length with h0 | h0
  · have : L0 = [] := List.length_eq_zero_iff.mp h0
    subst this; rfl
  · obtain ⟨k, hk⟩ : ∃ k, L0.length = k + 1 := ⟨L0.length - 1, by omega⟩
    rw [hk, qfrom, h k (by omega), List.getLast?_eq_getElem?, hk]
    simp [List.getD_eq_getElem?_getD, List.getElem?_eq_getElem (show k < L0.length by omega)]
theorem xCs_le {I : qI} {cz h : Nat} {P : List Int32} : ∀ (m : Nat) (L : List (Int32 × Nat)) (z : Int32), xCs I cz h P m L z → ∀ j, j < L.length → (L.getD j (0, 0)).2 ≤ P.length := by
  intro m
  induction m with
  | zero => intro L z hx j hj; rw [hx.1] at hj; exact absurd hj (Nat.not_lt_zero _)
  | succ m ih =>
    intro L z hx j hj
    rcases hx with ⟨-, -, z0, x3⟩ | ⟨-, L0, u, v, y, x2, -, -, -, -, x7, x8⟩
    · exact ih L z0 x3 j hj
    · rw [x7] at hj ⊢
      rw [List.length_append] at hj
      by_cases c : j < L0.length
      · rw [List.getD_eq_getElem?_getD, List.getElem?_append_left c, ← List.getD_eq_getElem?_getD]
        exact ih L0 z x8 j c
      · have : j = L0.length := by simp at hj; omega
        subst this
        rw [List.getD_eq_getElem?_getD, List.getElem?_append_right (Nat.le_refl _)]
        simp
        rw [x2, List.length_append, List.length_append]; omega
theorem xCs.sum {K I : qI} {cz h p w : Nat} {P : List Int32} {d ww : Int32} {vs : Nat → Int32} (htv : ∀ c, pT c → mtv I p ww d c = qtestV vs (trc c)) (hP : P.length ≤ 100) (hcz : cz ≤ 600) (g1 : ∀ j, j < P.length → K (w + 1) j = trc (P.getD j 0)) (g2 : ∀ j, j < P.length → I 129 (cz + j) = P.getD j 0) : ∀ (m : Nat) (L : List (Int32 × Nat)) (z : Int32), xCs I cz h P m L z → (∀ j, j < L.length → K (w + 2) j = (L.getD j (0, 0)).1 ∧ K (w + 3) j = nI (L.getD j (0, 0)).2) → qsumN K w vs (I 117 p) L.length = msumN I p ww d h m := by
  intro m
  induction m with
  | zero =>
    intro L z hx _
    rw [hx.1]; rfl
  | succ m ih =>
    intro L z hx hm
    rw [msumN]
    rcases hx with ⟨x1, x2, z0, x3⟩ | ⟨x1, L0, u, v, y, x2, x3, x4, x5, x6, x7, x8⟩
    · rw [if_pos (by rw [x1]; decide)]
      exact ih L z0 x3 hm
    · have hlen : L.length = L0.length + 1 := by rw [x7, List.length_append]; rfl
      have hl0 : ∀ j, j < L0.length → L.getD j (0, 0) = L0.getD j (0, 0) := fun j hj => by
        rw [x7, List.getD_eq_getElem?_getD, List.getD_eq_getElem?_getD, List.getElem?_append_left hj]
      have hll : L.getD L0.length (0, 0) = ((if I 125 (10 * h + m) = 0 then I 126 (10 * h + m) else -(I 126 (10 * h + m))), u.length + v.length) := by
        rw [x7, List.getD_eq_getElem?_getD, List.getElem?_append_right (Nat.le_refl _)]
        simp
      have ih0 := ih L0 z x8 (fun j hj => by rw [← hl0 j hj]; exact hm j (by omega))
      obtain ⟨r1, r2⟩ := hm L0.length (by omega)
      rw [hll] at r1 r2
      have lP : P.length = u.length + (v.length + y.length) := by rw [x2, List.length_append, List.length_append]
      have ee : ∀ j, j < L0.length → qe K w j = (L0.getD j (0, 0)).2 ∧ True := fun j hj => by
        obtain ⟨-, q⟩ := hm j (by omega)
        refine ⟨?_, trivial⟩
        unfold qe
        rw [q, hl0 j hj]
        refine qcl ?_
        have : (L0.getD j (0, 0)).2 ≤ P.length := xCs_le m L0 z x8 j hj
        omega
      have e1 : qe K w L0.length = u.length + v.length := by
        unfold qe
        rw [r2]; exact qcl (by simp only; omega)
      have e2 : qfrom (qe K w) L0.length = u.length := by rw [xEnd_from (fun j hj => (ee j hj).1), x4]
      have cv := clause_val (tv := mtv I p ww d) (vs := vs) (g1 := K (w + 1)) (g2 := I 129) htv x3 (a := u.length) (b := cz + u.length) (fun j hj => by
          rw [g1 (u.length + j) (by omega), x2]
          congr 1
          simp [List.getD_eq_getElem?_getD, List.getElem?_append_right, List.getElem?_append_left hj]) (fun j hj => by
          rw [Nat.add_assoc, g2 (u.length + j) (by omega), x2]
          simp [List.getD_eq_getElem?_getD, List.getElem?_append_right, List.getElem?_append_left hj])
      have mt : mtrue I p ww d (10 * h + m) = qisSo (K (w + 1)) vs u.length (u.length + v.length) := by
        unfold mtrue
        rw [x6, x5, qcl (by omega), qcl (by omega)]
        exact cv.symm
      rw [hlen, qsumN, e1, e2, ih0, mt]
      rw [if_neg (show ¬ 2 ≤ I 125 (10 * h + m) from fun q => by rcases x1 with r | r <;> (rw [r] at q; exact absurd q (by decide)))]
      by_cases c : qisSo (K (w + 1)) vs u.length (u.length + v.length) = 0
      · rw [if_pos c, if_pos c]
      · rw [if_neg c, if_neg c, r1]
        by_cases c2 : I 125 (10 * h + m) = 0
        · rw [if_pos c2, if_pos c2]
        · rw [if_neg c2, if_neg c2]
/-- what one hurts on a day, for both -/
theorem x_pain {K M : qI} {o i p dd : Nat} {w : Int32} (h0 : K (qm o p) 0 = nI p) (h1 : K (qm o p) 1 = M 115 p) (h2 : K (qm o p) 2 = M 116 p) (h3 : K (qm o p) 3 = M 117 p) (hr : ∀ r, r < 4 → K (qm o p + 1) r = M 121 (4 * p + r)) (hil : xIl K M i (M 114 18)) (hdd : dd < 2 ^ 31) : qpain K i (qm o p) (nI dd) w = mpain M p (nI dd) w := by
  have hs : qsum K i (qvals K (qm o p) (nI dd) w) (K (qm o p) 3) = msum M p w (nI dd) := by
    unfold qsum msum
    rw [h3]
    rcases hil with ⟨e, e4, -⟩ | ⟨h, cz, P, m, L, z, h6, e, m10, e124, hx, hl, e4, hrow, -, g1, g2, hP, C, hC, -, hCz⟩
    · rw [e4, if_pos e]; rfl
    · have nh : ¬ M 114 18 = -1 := fun q => by
        rw [e] at q
        have : ∀ h, h < 6 → ¬ nI h = -1 := by decide
        exact this h h6 q
      rw [if_neg nh, e, qcl (by omega), e124, qcl (by omega), e4, qcl (by omega)]
      exact xCs.sum (x_test h0 h1 h2 h3) hP (by omega) g1 g2 m L z hx hrow
  unfold qpain mpain
  rw [hs]
  congr 1
  generalize msum M p w (nI dd) = s
  unfold qpainBy mpn qsaved
  rw [h1, h2]
  have r2 : nI dd - nI dd / 2 * 2 = nI (dd % 2) := pk_rem (d := 2) hdd (by decide) (by decide)
  have r4 : nI dd - nI dd / 4 * 4 = nI (dd % 4) := pk_rem (d := 4) hdd (by decide) (by decide)
  by_cases k1 : M 115 p = 1
  · rw [if_pos k1, if_pos k1]
  rw [if_neg k1, if_neg k1]
  by_cases k2 : M 115 p = 2
  · rw [if_pos k2, if_pos k2]
  rw [if_neg k2, if_neg k2]
  by_cases k3 : M 115 p = 3
  · rw [if_pos k3, if_pos k3, Int32.mul_comm s 2]
  rw [if_neg k3, if_neg k3]
  by_cases k4 : M 115 p = 4
  · rw [if_pos k4, if_pos k4, Int32.add_assoc]
  rw [if_neg k4, if_neg k4]
  by_cases k5 : M 115 p = 5
  · rw [if_pos k5, if_pos k5, r2]
    have : dd % 2 = 0 ∨ dd % 2 = 1 := by omega
    rcases this with q | q
    · rw [q, if_pos (by decide), if_neg (by decide)]
    · rw [q, if_neg (by decide), if_pos (by decide)]
  rw [if_neg k5, if_neg k5]
  by_cases k6 : M 115 p = 6
  · have := Nat.mod_lt dd (show 4 > 0 by decide)
    rw [if_pos k6, if_pos k6, r4, qmod4 hdd, qcl (by omega), hr _ (by omega), Int32.mul_comm s 2]
  rw [if_neg k6, if_neg k6]
theorem x_lost {K M : qI} {i : Nat} (hil : xIl K M i (M 114 18)) : K i 5 = mlost M := by
  unfold mlost
  rcases hil with ⟨e, -, e5⟩ | ⟨h, cz, P, m, L, z, h6, e, m10, e124, hx, hl, e4, hrow, e5, -⟩
  · rw [if_pos e]; exact e5
  · have nh : ¬ M 114 18 = -1 := fun q => by
      rw [e] at q
      have : ∀ h, h < 6 → ¬ nI h = -1 := by decide
      exact this h h6 q
    rw [if_neg nh, e, qcl (by omega), e124, qcl (by omega), e5]
    exact (hx.lost).symm
/-! a day that goes, for both -/
/-- all that a day asks: the class's in K, the reference's in M -/
def xDy (K M : qI) (w : Nat) : Prop := ∃ c l dd : Nat, c ≤ 6 ∧ l ≤ 6 ∧ K 6 1 = nI c ∧ M 114 0 = nI c ∧ K 6 3 = nI l ∧ M 114 8 = nI l ∧ K 6 4 = nI dd ∧ M 114 10 = nI dd ∧ dd < 2 ^ 30 ∧ xIl K M w (M 114 18) ∧ (∀ i, i < l → ∃ p, p < c ∧ K 8 i = nI p ∧ M 122 i = nI p) ∧ ∀ p, p < c → K (qm 6 p) 0 = nI p ∧ K (qm 6 p) 1 = M 115 p ∧ K (qm 6 p) 2 = M 116 p ∧ K (qm 6 p) 3 = M 117 p ∧ K (qm 6 p) 4 = M 118 p ∧ K (qm 6 p) 5 = M 119 p ∧ K (qm 6 p) 6 = M 120 p ∧ qbool (K (qm 6 p) 6) ∧ K (qm 6 p) 5 ≤ 99999 ∧ K (qm 6 p) 4 ≤ 99 ∧ ∀ r, r < 4 → K (qm 6 p + 1) r = M 121 (4 * p + r)
theorem x_has {K M : qI} {w : Nat} (h : xDy K M w) : qhas K 6 w = mtod M ∧ (mtod M = -5 ∨ ∃ p, (∃ c, K 6 1 = nI c ∧ c ≤ 6 ∧ p < c) ∧ mtod M = nI p) := by
  obtain ⟨c, l, dd, c6, l6, hc, hc', hl, hl', hd, hd', hdd, hil, hls, hp⟩ := h
  unfold qhas mtod
  rw [x_lost hil, hd, hd', hl, hl', qcl (by omega)]
  by_cases q : qlost (mlost M) (nI dd) = 0
  · rw [if_pos q, if_pos q]
    have key : ∀ j, j ≤ l → qhasN (K (6 + 2)) (fun k => qleft K 6 (K (6 + 2) k)) l j = mtodN M l j ∧ (mtodN M l j = -5 ∨ ∃ p, p < c ∧ mtodN M l j = nI p) := by
      intro j
      induction j with
      | zero => intro _; exact ⟨rfl, Or.inl rfl⟩
      | succ j ih =>
        intro hj
        obtain ⟨ih1, ih2⟩ := ih (by omega)
        obtain ⟨p, p1, p2, p3⟩ := hls (l - (j + 1)) (by omega)
        obtain ⟨g0, -, -, -, -, -, g6, gb, -⟩ := hp p p1
        rw [qhasN, mtodN]
        have e8 : K (6 + 2) (l - (j + 1)) = nI p := p2
        rw [e8, p3, qcl (by omega), ← g6]
        have lf : qleft K 6 (nI p) = if K (qm 6 p) 6 = 0 then 1 else 0 := by
          unfold qleft
          rw [if_neg (nI_pos (by omega) : ¬ nI p < 0), hc, if_neg (fun q2 => by
            have := (nI_leI (by omega) (by omega)).mp q2
            omega), qcl (by omega)]
        simp only [e8, lf]
        by_cases z : K (qm 6 p) 6 = 0
        · rw [if_pos z, if_pos z, if_neg (by decide)]
          exact ⟨rfl, Or.inr ⟨p, p1, rfl⟩⟩
        · rw [if_neg z, if_neg z, if_pos rfl]
          exact ⟨ih1, ih2⟩
    obtain ⟨k1, k2⟩ := key l (Nat.le_refl _)
    refine ⟨k1, ?_⟩
    rcases k2 with k2 | ⟨p, p1, p2⟩
    · exact Or.inl k2
    · exact Or.inr ⟨p, ⟨c, hc, c6, p1⟩, p2⟩
  · rw [if_neg q, if_neg q]; exact ⟨rfl, Or.inl rfl⟩
theorem qmin_le {b x : Int32} : qmin b x ≤ b := by
  unfold qmin
  by_cases y : x < b
  · rw [if_pos y]; exact Int32.le_of_lt y
  · rw [if_neg y]; exact Int32.le_refl b
/-- one after the other: where both stand after m of them -/
theorem x_goPs {K M : qI} {w c dd : Nat} {one : Int32} (c6 : c ≤ 6) (hd : K 6 4 = nI dd) (hd' : M 114 10 = nI dd) (hdd : dd < 2 ^ 30) (hw : w ≠ 6 ∧ (w + 3 < 6 ∨ 32 < w)) (hil : xIl K M w (M 114 18)) (hp : ∀ p, p < c → K (qm 6 p) 0 = nI p ∧ K (qm 6 p) 1 = M 115 p ∧ K (qm 6 p) 2 = M 116 p ∧ K (qm 6 p) 3 = M 117 p ∧ K (qm 6 p) 4 = M 118 p ∧ K (qm 6 p) 5 = M 119 p ∧ K (qm 6 p) 6 = M 120 p ∧ qbool (K (qm 6 p) 6) ∧ K (qm 6 p) 5 ≤ 99999 ∧ K (qm 6 p) 4 ≤ 99 ∧ ∀ r, r < 4 → K (qm 6 p + 1) r = M 121 (4 * p + r)) : ∀ m, m ≤ c → (∀ a, (∀ p, p < m → a ≠ qm 6 p) → qgoPs K 6 w one 99999 m a = K a) ∧ (∀ a, a ≠ 118 → a ≠ 119 → mgoPs M one m a = M a) ∧ (∀ p, m ≤ p → mgoPs M one m 118 p = M 118 p ∧ mgoPs M one m 119 p = M 119 p) ∧ ∀ p, p < m → (∀ j, j < 4 → qgoPs K 6 w one 99999 m (qm 6 p) j = K (qm 6 p) j) ∧ qgoPs K 6 w one 99999 m (qm 6 p) 4 = mgoPs M one m 118 p ∧ qgoPs K 6 w one 99999 m (qm 6 p) 5 = qmin 99999 (mgoPs M one m 119 p) ∧ qgoPs K 6 w one 99999 m (qm 6 p) 6 = (if nI p = one then 1 else K (qm 6 p) 6) ∧ qgoPs K 6 w one 99999 m (qm 6 p) 4 ≤ 99 := by
  intro m
  induction m with
  | zero => intro _; exact ⟨fun a _ => rfl, fun a _ _ => rfl, fun p _ => ⟨rfl, rfl⟩, fun p hp => absurd hp (Nat.not_lt_zero _)⟩
  | succ m ih =>
    intro hm
    obtain ⟨a1, a2, a3, a4⟩ := ih (by omega)
    obtain ⟨g0, g1, g2, g3, g4, g5, g6, gb, g9, gw, gr⟩ := hp m (by omega)
    rw [qgoPs, mgoPs]
    have km : qgoPs K 6 w one 99999 m (qm 6 m) = K (qm 6 m) := a1 _ (fun p _ => by unfold qm; omega)
    have km1 : qgoPs K 6 w one 99999 m (qm 6 m + 1) = K (qm 6 m + 1) := a1 _ (fun p _ => by unfold qm; omega)
    have kw : ∀ b, b ≤ 3 → qgoPs K 6 w one 99999 m (w + b) = K (w + b) := fun b hb => a1 _ (fun p _ => by unfold qm; omega)
    have k6 : qgoPs K 6 w one 99999 m 6 = K 6 := a1 _ (fun p _ => by unfold qm; omega)
    obtain ⟨m118, m119⟩ := a3 m (Nat.le_refl m)
    generalize qgoPs K 6 w one 99999 m = K1 at *
    generalize mgoPs M one m = M1 at *
    have il1 : xIl K1 M1 w (M1 114 18) := by
      rw [a2 114 (by decide) (by decide)]
      rcases hil with ⟨e, e4, e5⟩ | ⟨h, cz, P, mm, L, z, h6, e, m10, e124, hx, hl, e4, hrow, e5, g1', g2', hP, C, hC, hC2, hCz⟩
      · exact Or.inl ⟨e, by rw [show w = w + 0 from rfl, kw 0 (by omega)]; exact e4, by rw [show w = w + 0 from rfl, kw 0 (by omega)]; exact e5⟩
      · refine Or.inr ⟨h, cz, P, mm, L, z, h6, e, m10, by rw [a2 124 (by decide) (by decide)]; exact e124, ?_, hl, by rw [show w = w + 0 from rfl, kw 0 (by omega)]; exact e4, fun j hj => by rw [kw 2 (by omega), kw 3 (by omega)]; exact hrow j hj, by rw [show w = w + 0 from rfl, kw 0 (by omega)]; exact e5, fun j hj => by rw [kw 1 (by omega)]; exact g1' j hj, fun j hj => by rw [a2 129 (by decide) (by decide)]; exact g2' j hj, hP, C, hC, by rw [a2 114 (by decide) (by decide)]; exact hC2, hCz⟩
        have := xCs.more (B := M) (B2 := M1) [] mm L z (fun a j b1 b2 _ _ => by rw [a2 a (by omega) (by omega)]) hx
        rw [List.append_nil] at this
        exact this
    have pn : qpain K1 w (qm 6 m) (nI dd) (K1 (qm 6 m) 4) = mpain M1 m (nI dd) (M1 118 m) := by
      have e4 : K1 (qm 6 m) 4 = M1 118 m := by rw [km, m118]; exact g4
      rw [e4]
      exact x_pain (by rw [km]; exact g0) (by rw [km, a2 115 (by decide) (by decide)]; exact g1) (by rw [km, a2 116 (by decide) (by decide)]; exact g2) (by rw [km, a2 117 (by decide) (by decide)]; exact g3) (fun r hr => by rw [km1, a2 121 (by decide) (by decide)]; exact gr r hr) il1 (by omega)
    have hw0 : ∀ b x : Int32, x ≤ b → qmin b x = x := fun b x hx => by
      unfold qmin
      by_cases y : x < b
      · rw [if_pos y]
      · rw [if_neg y]; exact (Int32.le_antisymm hx (Int32.not_lt.mp y)).symm
    have e5 : K1 (qm 6 m) 5 = qmin 99999 (M1 119 m) := by
      rw [km, m119, ← g5, hw0 _ _ g9]
    have e4 : K1 (qm 6 m) 4 = M1 118 m := by rw [km, m118]; exact g4
    have old : ∀ (K2 M2 : qI), (∀ a, a ≠ qm 6 m → K2 a = K1 a) → (∀ a j, (a = 118 ∨ a = 119) → j ≠ m → M2 a j = M1 a j) → (∀ a, a ≠ 118 → a ≠ 119 → M2 a = M1 a) → ((∀ j, j < 4 → K2 (qm 6 m) j = K (qm 6 m) j) ∧ K2 (qm 6 m) 4 = M2 118 m ∧ K2 (qm 6 m) 5 = qmin 99999 (M2 119 m) ∧ K2 (qm 6 m) 6 = (if nI m = one then 1 else K (qm 6 m) 6) ∧ K2 (qm 6 m) 4 ≤ 99) → (∀ a, (∀ p, p < m + 1 → a ≠ qm 6 p) → K2 a = K a) ∧ (∀ a, a ≠ 118 → a ≠ 119 → M2 a = M a) ∧ (∀ p, m + 1 ≤ p → M2 118 p = M 118 p ∧ M2 119 p = M 119 p) ∧ ∀ p, p < m + 1 → (∀ j, j < 4 → K2 (qm 6 p) j = K (qm 6 p) j) ∧ K2 (qm 6 p) 4 = M2 118 p ∧ K2 (qm 6 p) 5 = qmin 99999 (M2 119 p) ∧ K2 (qm 6 p) 6 = (if nI p = one then 1 else K (qm 6 p) 6) ∧ K2 (qm 6 p) 4 ≤ 99 := by
      intro K2 M2 r1 r2 r3 hmm
      refine ⟨fun a ha => by rw [r1 a (ha m (by omega)), a1 a (fun p hp => ha p (by omega))], fun a b1 b2 => by rw [r3 a b1 b2, a2 a b1 b2], fun p hp => ⟨by rw [r2 118 p (by omega) (by omega)]; exact (a3 p (by omega)).1, by rw [r2 119 p (by omega) (by omega)]; exact (a3 p (by omega)).2⟩, fun p hp => ?_⟩
      by_cases q : p = m
      · subst q; exact hmm
      · obtain ⟨b1, b2, b3, b4, b5⟩ := a4 p (by omega)
        have e : K2 (qm 6 p) = K1 (qm 6 p) := r1 _ (by unfold qm; omega)
        rw [e, r2 118 p (by omega) q, r2 119 p (by omega) q]
        exact ⟨b1, b2, b3, b4, b5⟩
    unfold qgoP mgoP
    by_cases q1 : nI m = one
    · rw [if_pos q1, if_pos q1]
      refine old _ _ (fun a ha => qup_row ha) (fun _ _ _ _ => rfl) (fun _ _ _ => rfl) ⟨fun j hj => by rw [qup_j (by omega), km], by rw [qup_j (by decide)]; exact e4, by rw [qup_j (by decide)]; exact e5, by rw [qup_at, if_pos q1], by rw [qup_j (by decide), km]; exact gw⟩
    · rw [if_neg q1, if_neg q1]
      have e6 : K1 (qm 6 m) 6 = M1 120 m := by rw [km, a2 120 (by decide) (by decide)]; exact g6
      have b6 : qbool (K1 (qm 6 m) 6) := by rw [km]; exact gb
      by_cases q2 : K1 (qm 6 m) 6 = 0
      · rw [if_pos q2, if_neg (show ¬ M1 120 m = 1 from fun z => by rw [← e6, q2] at z; exact absurd z (by decide))]
        have pa : qpainAt K1 6 w (qm 6 m) (nI 0) = mpain M1 m (M1 114 10) (M1 118 m) := by
          unfold qpainAt
          have z0 : nI 0 = (0 : Int32) := rfl
          rw [z0, Int32.add_zero, Int32.add_zero, k6, hd, hw0 99 _ (by rw [km]; exact gw), pn, a2 114 (by decide) (by decide), hd']
        refine old _ _ (fun a ha => by rw [qup_row ha, qup_row ha]) (fun a j ha hj => by rw [qup_j hj, qup_j hj]) (fun a b1 b2 => by rw [qup_row b1, qup_row b2]) ⟨fun j hj => by rw [qup_j (by omega), qup_j (by omega), km], ?_, ?_, ?_, ?_⟩
        · rw [qup_at, qup_at, e4]
        · rw [qup_j (by decide), qup_at, qup_o (by decide), qup_at, pa]
          congr 2
          rw [km, m119]; exact g5
        · rw [qup_j (by decide), qup_j (by decide), if_neg q1, km]
        · rw [qup_at]; exact qmin_le
      · have q3 : M1 120 m = 1 := by
          rw [← e6]
          rcases b6 with z | z
          · exact absurd z q2
          · exact z
        rw [if_neg q2, if_pos q3]
        exact old _ _ (fun _ _ => rfl) (fun _ _ _ _ => rfl) (fun _ _ _ => rfl) ⟨fun j hj => by rw [km], e4, e5, by rw [if_neg q1, km], by rw [km]; exact gw⟩
/-! days that go, for both -/
theorem mclN_at {I : qI} : ∀ n, (∀ p, p < n → mclN I n 119 p = qmin 99999 (I 119 p)) ∧ ∀ p, n ≤ p → mclN I n 119 p = I 119 p := by
  intro n
  induction n with
  | zero => exact ⟨fun p hp => absurd hp (Nat.not_lt_zero _), fun p _ => rfl⟩
  | succ n ih =>
    refine ⟨fun p hp => ?_, fun p hp => ?_⟩
    · rw [mclN]
      by_cases q : p = n
      · subst q; rw [qup_at, ih.2 p (Nat.le_refl p)]
      · rw [qup_j q]; exact ih.1 p (by omega)
    · rw [mclN, qup_j (by omega)]; exact ih.2 p (by omega)
theorem xIl.fr {K K2 M M2 : qI} {w : Nat} {hv : Int32} (h : xIl K M w hv) (hk : ∀ b, b ≤ 3 → K2 (w + b) = K (w + b)) (hm : ∀ a, (124 ≤ a ∧ a ≤ 129) → M2 a = M a) (h25 : M2 114 25 = M 114 25) : xIl K2 M2 w hv := by
  have k0 : K2 w = K w := hk 0 (by omega)
  rcases h with ⟨e, e4, e5⟩ | ⟨h, cz, P, mm, L, z, h6, e, m10, e124, hx, hl, e4, hrow, e5, g1', g2', hP, C, hC, hC2, hCz⟩
  · exact Or.inl ⟨e, by rw [k0]; exact e4, by rw [k0]; exact e5⟩
  · refine Or.inr ⟨h, cz, P, mm, L, z, h6, e, m10, by rw [hm 124 (by omega)]; exact e124, ?_, hl, by rw [k0]; exact e4, fun j hj => by rw [hk 2 (by omega), hk 3 (by omega)]; exact hrow j hj, by rw [k0]; exact e5, fun j hj => by rw [hk 1 (by omega)]; exact g1' j hj, fun j hj => by rw [hm 129 (by omega)]; exact g2' j hj, hP, C, hC, by rw [h25]; exact hC2, hCz⟩
    have := xCs.more (B := M) (B2 := M2) [] mm L z (fun a j b1 b2 _ _ => by rw [hm a (by omega)]) hx
    rw [List.append_nil] at this
    exact this
theorem xDy.one {K M : qI} {w c0 : Nat} (hw : w ≠ 6 ∧ (w + 3 < 6 ∨ 32 < w)) (h : xDy K M w) (hc0 : M 114 0 = nI c0) (hc06 : c0 ≤ 6) (hb : ∃ d, K 6 4 = nI d ∧ d + 1 < 2 ^ 30) : xDy (qgo1 K 6 w 99999) (mclN (mgo1 M) c0) w := by
  obtain ⟨hh, hone⟩ := x_has h
  obtain ⟨c, l, dd, c6, l6, hc, hc', hl, hl', hd, hd', hdd, hil, hls, hp⟩ := h
  have ec : c0 = c := (nI_eq (by omega) (by omega)).mp (hc0.symm.trans hc')
  subst ec
  obtain ⟨d1, e1, d1b⟩ := hb
  have ed : d1 = dd := (nI_eq (by omega) (by omega)).mp (e1.symm.trans hd)
  subst ed
  obtain ⟨a1, a2, a3, a4⟩ := x_goPs (one := mtod M) c6 hd hd' hdd hw hil hp c0 (Nat.le_refl _)
  have eK : qgo1 K 6 w 99999 = qup (qgoPs K 6 w (mtod M) 99999 c0) 6 4 (nI (d1 + 1)) := by
    unfold qgo1; rw [hh, hc, qcl (by omega), hd, q1]
  have eM : mgo1 M = qup (if mtod M = -5 then mgoPs M (mtod M) c0 else qup (mgoPs M (mtod M) c0) 120 (mtod M).toNatClampNeg 1) 114 10 (nI (d1 + 1)) := by
    unfold mgo1; rw [hc', qcl (by omega), hd', q1]
  rw [eK, eM]
  have b120 : ∀ p, p < c0 → (if mtod M = -5 then mgoPs M (mtod M) c0 else qup (mgoPs M (mtod M) c0) 120 (mtod M).toNatClampNeg 1) 120 p = if nI p = mtod M then 1 else M 120 p := by
    intro p hpc
    have n5 : ∀ p, p < 6 → ¬ nI p = -5 := by decide
    rcases hone with q | ⟨p1, ⟨c1, hc1, c16, hp1⟩, q⟩
    · rw [if_pos q, if_neg (fun z => n5 p (by omega) (z.trans q)), a2 120 (by decide) (by decide)]
    · have : ¬ mtod M = -5 := fun z => by
        have e : c1 = c0 := (nI_eq (by omega) (by omega)).mp (hc1.symm.trans hc)
        exact n5 p1 (by omega) (q.symm.trans z)
      have e : c1 = c0 := (nI_eq (by omega) (by omega)).mp (hc1.symm.trans hc)
      rw [if_neg this, q, qcl (by omega)]
      by_cases z : p = p1
      · subst z; rw [qup_at, if_pos rfl]
      · rw [qup_j z, if_neg (fun y => z ((nI_eq (by omega) (by omega)).mp y)), ← q, a2 120 (by decide) (by decide)]
  have bo : ∀ a, a ≠ 120 → (if mtod M = -5 then mgoPs M (mtod M) c0 else qup (mgoPs M (mtod M) c0) 120 (mtod M).toNatClampNeg 1) a = mgoPs M (mtod M) c0 a := fun a ha => by
    split
    · rfl
    · rw [qup_row ha]
  generalize (if mtod M = -5 then mgoPs M (mtod M) c0 else qup (mgoPs M (mtod M) c0) 120 (mtod M).toNatClampNeg 1) = M3 at *
  generalize hM1 : mgoPs M (mtod M) c0 = M1 at *
  generalize qgoPs K 6 w (mtod M) 99999 c0 = K1 at *
  generalize mtod M = one at *
  have m1 : ∀ a, a ≠ 119 → a ≠ 114 → mclN (qup M3 114 10 (nI (d1 + 1))) c0 a = M3 a := fun a h1 h2 => by rw [mclN_row h1, qup_row h2]
  have m114 : ∀ j, j ≠ 10 → mclN (qup M3 114 10 (nI (d1 + 1))) c0 114 j = M 114 j := fun j hj => by rw [mclN_row (by decide), qup_j hj, bo 114 (by decide), a2 114 (by decide) (by decide)]
  have mday : mclN (qup M3 114 10 (nI (d1 + 1))) c0 114 10 = nI (d1 + 1) := by rw [mclN_row (by decide), qup_at]
  have mold : ∀ a, a ≠ 114 → a ≠ 118 → a ≠ 119 → a ≠ 120 → mclN (qup M3 114 10 (nI (d1 + 1))) c0 a = M a := fun a h1 h2 h3 h4 => by rw [m1 a h3 h1, bo a h4, a2 a h2 h3]
  have m119 : ∀ p, p < c0 → mclN (qup M3 114 10 (nI (d1 + 1))) c0 119 p = qmin 99999 (M1 119 p) := fun p hp' => by rw [(mclN_at c0).1 p hp', qup_o (by decide), bo 119 (by decide)]
  have k6 : K1 6 = K 6 := a1 6 (fun p _ => by unfold qm; omega)
  have kq : ∀ p, qup K1 6 4 (nI (d1 + 1)) (qm 6 p) = K1 (qm 6 p) := fun p => qup_row (by unfold qm; omega)
  refine ⟨c0, l, d1 + 1, c6, l6, ?_, ?_, ?_, ?_, qup_at, mday, d1b, ?_, fun i hi => ?_, fun p hpc => ?_⟩
  · rw [qup_j (by decide), k6]; exact hc
  · rw [m114 0 (by decide)]; exact hc'
  · rw [qup_j (by decide), k6]; exact hl
  · rw [m114 8 (by decide)]; exact hl'
  · rw [m114 18 (by decide)]
    refine hil.fr (fun b hb => by rw [qup_row (by omega), a1 (w + b) (fun p _ => by unfold qm; omega)]) (fun a ha => mold a (by omega) (by omega) (by omega) (by omega)) (m114 25 (by decide))
  · obtain ⟨p, p1, p2, p3⟩ := hls i hi
    exact ⟨p, p1, by rw [qup_row (by decide), a1 8 (fun p _ => by unfold qm; omega)]; exact p2, by rw [mold 122 (by decide) (by decide) (by decide) (by decide)]; exact p3⟩
  · obtain ⟨g0, g1, g2, g3, g4, g5, g6, gb, g9, gw, gr⟩ := hp p hpc
    obtain ⟨b1, b2, b3, b4, b5⟩ := a4 p hpc
    rw [kq p]
    have k1r : qup K1 6 4 (nI (d1 + 1)) (qm 6 p + 1) = K (qm 6 p + 1) := by rw [qup_row (by unfold qm; omega), a1 _ (fun p' _ => by unfold qm; omega)]
    refine ⟨by rw [b1 0 (by omega)]; exact g0, by rw [b1 1 (by omega), mold 115 (by decide) (by decide) (by decide) (by decide)]; exact g1, by rw [b1 2 (by omega), mold 116 (by decide) (by decide) (by decide) (by decide)]; exact g2, by rw [b1 3 (by omega), mold 117 (by decide) (by decide) (by decide) (by decide)]; exact g3, ?_, ?_, ?_, ?_, ?_, b5, fun r hr => by rw [k1r, mold 121 (by decide) (by decide) (by decide) (by decide)]; exact gr r hr⟩
    · rw [b2, m1 118 (by decide) (by decide), bo 118 (by decide)]
    · rw [b3, m119 p hpc]
    · rw [b4, m1 120 (by decide) (by decide), b120 p hpc, g6]
    · rw [b4]; split
      · exact Or.inr rfl
      · exact gb
    · rw [b3]; exact qmin_le
theorem xDy.days {K M : qI} {w c0 d0 : Nat} (hw : w ≠ 6 ∧ (w + 3 < 6 ∨ 32 < w)) (h : xDy K M w) (hc0 : M 114 0 = nI c0) (hc06 : c0 ≤ 6) (hd : K 6 4 = nI d0) : ∀ k, d0 + k < 2 ^ 30 → xDy (qgoN K 6 w 99999 k) (mpassN M k) w := by
  intro k
  induction k with
  | zero => intro _; exact h
  | succ k ih =>
    intro hk
    have ih := ih (by omega)
    rw [qgoN, mpassN, hc0, qcl (by omega)]
    refine ih.one hw (by rw [mpassN_f (by decide)]; exact hc0) hc06 ⟨d0 + k, qgoN_day hd k, by omega⟩
/-! class and reference side by side: hurts and islands -/
def vH (I : qI) (o : Nat) (f : Nat → Int32) : Prop := ∀ c p, c ≤ 6 → I o 1 = nI c → p < c → f (12 + p) = I (qm o p) 3 ∧ f (18 + p) = I (qm o p) 4 ∧ f (24 + p) = I (qm o p) 5 ∧ f (30 + p) = I (qm o p) 6 ∧ qbool (I (qm o p) 6) ∧ I (qm o p) 5 ≤ 99999 ∧ I (qm o p) 4 ≤ 99
theorem vH.fr {I I' : qI} {f f' : Nat → Int32} {o : Nat} (h : vH I o f) (h1 : I' o 1 = I o 1) (hk : ∀ p j, p < 6 → j < 7 → I' (qm o p) j = I (qm o p) j) (hf : ∀ j, 12 ≤ j → j < 36 → f' j = f j) : vH I' o f' := by
  intro c p hc e hp
  rw [h1] at e
  obtain ⟨b1, b2, b3, b4, b5, b6, b7⟩ := h c p hc e hp
  rw [hf _ (by omega) (by omega), hf _ (by omega) (by omega), hf _ (by omega) (by omega), hf _ (by omega) (by omega), hk p 3 (by omega) (by omega), hk p 4 (by omega) (by omega), hk p 5 (by omega) (by omega), hk p 6 (by omega) (by omega)]
  exact ⟨b1, b2, b3, b4, b5, b6, b7⟩
theorem vH.rows {I I' : qI} {f f' : Nat → Int32} {o : Nat} (h : vH I o f) (hI : ∀ a, o ≤ a → a ≤ o + 26 → I' a = I a) (hf : ∀ j, 12 ≤ j → j < 36 → f' j = f j) : vH I' o f' := h.fr (by rw [hI o (by omega) (by omega)]) (fun p j hp _ => by rw [hI (qm o p) (by unfold qm; omega) (by unfold qm; omega)]) hf
def vTie (S : qSh) (I : qI) : Prop := (∀ w, qR S 6 5 = some w → xIl I I w (I 114 18)) ∧ vH I 6 (kp I) ∧ (I 0 4 = 1 → (∀ w, qR S 60 5 = some w → xIl I I w (I 139 123)) ∧ vH I 60 (I 139))
def vINV (S : qSh) (I : qI) (J : qJ) : Prop := xINV S I J ∧ vTie S I
theorem cINV.w6 {S : qSh} {I : qI} {J : qJ} (h : ∃ w0 w1 w2 bl, cINV S I J w0 w1 w2 bl) : ∀ w, (qR S 6 5 = some w ∨ qR S 60 5 = some w) → qW1 w := by
  obtain ⟨w0, w1, w2, bl, hO, hZ, hN, hi, hd⟩ := h
  obtain ⟨p6, p60⟩ := hO.p6
  intro w hw
  rcases hw with q | q
  · rw [p6] at q; obtain rfl := Option.some.inj q; exact hi.1
  · rw [p60] at q; obtain rfl := Option.some.inj q; exact hi.2.2.1
theorem xINV.w6 {S : qSh} {I : qI} {J : qJ} (g : xINV S I J) : ∀ w, (qR S 6 5 = some w ∨ qR S 60 5 = some w) → qW1 w := cINV.w6 g.1
/-- what a call leaves that touches neither islands nor the image -/
theorem vINV.gen {S S1 S2 : qSh} {I I1 I2 : qI} {J J1 J2 : qJ} {T T2 : qI → Prop} {v v2 : Option Value} (g : vINV S I J) (cw : cW S S1 I I1) (hK : KQ0 S I J T v S1 I1 J1) (hV : RQ0 S1 I1 J1 T2 v2 S2 I2 J2) (e04 : I1 0 4 = I 0 4) (r60 : ∀ a, 60 ≤ a → a ≤ 86 → I1 a = I a) (rw : rW I1 I2) (r139 : I2 139 = I1 139) (h6 : vH I2 6 (kp I2)) : vTie S2 I2 := by
  have cf := hK.2.2.1
  obtain ⟨hS, -, rf, -⟩ := hV
  subst hS
  have wq := g.1.w6
  obtain ⟨t1, -, t3⟩ := g.2
  obtain ⟨c1, c2, c3⟩ := cw
  have c114 := (cf 114 (by omega) (by omega)).1
  have tab : ∀ a, 124 ≤ a → a ≤ 129 → I2 a = I a := fun a a1 a2 => by rw [rw.2.2 a a1 a2, (cf a (by omega) (by omega)).1]
  have e18 : I2 114 18 = I 114 18 := by rw [rw.1, c114]
  have e25 : I2 114 25 = I 114 25 := by rw [rw.2.1, c114]
  have e139 : I2 139 = I 139 := by rw [r139, (cf 139 (by omega) (by omega)).1]
  have e0 : I2 0 4 = I 0 4 := by rw [(rf 0 (by omega)).1, e04]
  have rows : ∀ w, (qR S 6 5 = some w ∨ qR S 60 5 = some w) → ∀ b, b ≤ 3 → I2 (w + b) = I (w + b) := fun w hw b hb => by
    have := wq w hw
    unfold qW1 at this
    rw [(rf (w + b) (by omega)).1, c3 w hw b hb]
  refine ⟨fun w hw => ?_, h6, fun h1 => ?_⟩
  · rw [c1] at hw
    rw [e18]
    exact (t1 w hw).fr (rows w (Or.inl hw)) (fun a ha => tab a ha.1 ha.2) e25
  · rw [e0] at h1
    obtain ⟨u1, u2⟩ := t3 h1
    rw [e139]
    refine ⟨fun w hw => ?_, u2.rows (fun a a1 a2 => by rw [(rf a (by omega)).1, r60 a a1 a2]) (fun j _ _ => rfl)⟩
    rw [c2] at hw
    exact (u1 w hw).fr (rows w (Or.inr hw)) (fun a ha => tab a ha.1 ha.2) e25
/-- .. and no mourner -/
theorem vINV.still {S S1 S2 : qSh} {I I1 I2 : qI} {J J1 J2 : qJ} {T T2 : qI → Prop} {v v2 : Option Value} (g : vINV S I J) (cw : cW S S1 I I1) (hK : KQ0 S I J T v S1 I1 J1) (hV : RQ0 S1 I1 J1 T2 v2 S2 I2 J2) (e04 : I1 0 4 = I 0 4) (r60 : ∀ a, 60 ≤ a → a ≤ 86 → I1 a = I a) (e61 : I1 6 1 = I 6 1) (rm : ∀ p j, p < 6 → j < 7 → I1 (qm 6 p) j = I (qm 6 p) j) (rw : rW I1 I2) (r139 : I2 139 = I1 139) (kk : ∀ j, 12 ≤ j → j < 36 → kp I2 j = kp I1 j) : vTie S2 I2 := by
  have cf := hK.2.2.1
  have rf := hV.2.2.1
  refine g.gen cw hK hV e04 r60 rw r139 (g.2.2.1.fr ?_ (fun p j hp hj => ?_) (fun j h1 h2 => by rw [kk j h1 h2, kp_far cf (by omega)]))
  · rw [(rf 6 (by omega)).1]; exact e61
  · rw [(rf (qm 6 p) (by unfold qm; omega)).1]; exact rm p j hp hj
theorem vINV.ask {S S1 S2 : qSh} {I I1 I2 : qI} {J J1 J2 : qJ} {T T2 : qI → Prop} {v v2 : Option Value} (g : vINV S I J) (u : cU I I1 J J1) (cw : cW S S1 I I1) (hK : KQ0 S I J T v S1 I1 J1) (r : rU I1 I2 J1 J2) (rw : rW I1 I2) (hV : RQ0 S1 I1 J1 T2 v2 S2 I2 J2) : vINV S2 I2 J2 :=
  ⟨g.1.ask u hK r hV, g.still cw hK hV u.2.1 (fun a a1 a2 => (u.1 a (by omega)).1) (by rw [(u.1 6 (by omega)).1]) (fun p j hp _ => by rw [(u.1 (qm 6 p) (by unfold qm; omega)).1]) rw r.2.1 (fun j _ _ => r.1 j (by omega))⟩
/-- the reference's calls that touch neither tables nor hurts nor the image -/
def gFr (I I' : qI) : Prop := (∀ a, ((117 ≤ a ∧ a ≤ 120) ∨ (124 ≤ a ∧ a < 131) ∨ a = 139) → I' a = I a) ∧ I' 114 18 = I 114 18 ∧ I' 114 25 = I 114 25
theorem gFr.rw {I I' : qI} (h : gFr I I') : rW I I' := ⟨h.2.1, h.2.2, fun a a1 a2 => h.1 a (by omega)⟩
theorem gFr.i {I I' : qI} (h : gFr I I') : I' 139 = I 139 := h.1 139 (by omega)
theorem gFr.rf {I : qI} : gFr I I := ⟨fun _ _ => rfl, rfl, rfl⟩
theorem gFr.up {I I' : qI} {a j : Nat} {x : Int32} (h : gFr I I') (ha : (115 ≤ a ∧ a ≤ 116) ∨ (121 ≤ a ∧ a ≤ 123) ∨ (131 ≤ a ∧ a ≤ 138) ∨ 140 ≤ a) : gFr I (qup I' a j x) := ⟨fun b hb => by rw [qup_row (by omega)]; exact h.1 b hb, by rw [qup_o (by omega)]; exact h.2.1, by rw [qup_o (by omega)]; exact h.2.2⟩
theorem gFr.up4 {I I' : qI} {j : Nat} {x : Int32} (h : gFr I I') (hj : j ≠ 18 ∧ j ≠ 25) : gFr I (qup I' 114 j x) := ⟨fun b hb => by rw [qup_row (by omega)]; exact h.1 b hb, by rw [qup_j (Ne.symm hj.1)]; exact h.2.1, by rw [qup_j (Ne.symm hj.2)]; exact h.2.2⟩
theorem gFr.kk {I I' : qI} (h : gFr I I') : ∀ j, 12 ≤ j → j < 36 → kp I' j = kp I j := by
  intro j h1 h2
  obtain ⟨k, hk, e⟩ : ∃ k, k < 6 ∧ (j = 12 + k ∨ j = 18 + k ∨ j = 24 + k ∨ j = 30 + k) := ⟨(j - 12) % 6, by omega, by omega⟩
  rcases e with rfl | rfl | rfl | rfl
  · rw [kp_117 hk, kp_117 hk, h.1 117 (by omega)]
  · rw [kp_118 hk, kp_118 hk, h.1 118 (by omega)]
  · rw [kp_119 hk, kp_119 hk, h.1 119 (by omega)]
  · rw [kp_120 hk, kp_120 hk, h.1 120 (by omega)]
section V34
variable {I : qI} {J : qJ}
theorem gFr_row {p q n : Int32} : gFr I (gi_Md_row I J p q n) := by
  unfold gi_Md_row
  (repeat' split) <;> first | exact gFr.rf | exact gFr.rf.up (by omega)
theorem gFr_list {l : Nat} {p : Int32} : gFr I (gi_Md_list I J l p) := by
  unfold gi_Md_list
  (repeat' split) <;> first | exact gFr.rf | exact gFr.rf.up4 (by omega) | exact (gFr.rf.up4 (by omega)).up (by omega)
theorem gFr_swap {l : Nat} {p q : Int32} : gFr I (gi_Md_swap I J l p q) := by
  unfold gi_Md_swap
  (repeat' split) <;> first | exact gFr.rf | exact (gFr.rf.up (by omega)).up (by omega)
theorem gFr_see {p x n : Int32} : gFr I (gi_Md_see I J p x n) := by
  unfold gi_Md_see
  (repeat' split) <;> first | exact gFr.rf | exact gFr.rf.up4 (by omega) | exact (((gFr.rf.up (by omega)).up (by omega)).up4 (by omega)).up (by omega)
theorem gFr_plan {x p : Int32} : gFr I (gi_Md_plan I J x p) := by
  unfold gi_Md_plan
  (repeat' split) <;> first | exact gFr.rf | exact gFr.rf.up4 (by omega) | exact ((gFr.rf.up (by omega)).up4 (by omega)).up (by omega)
theorem gFr_book {p x : Int32} : gFr I (gi_Md_book I J p x) := by
  unfold gi_Md_book
  (repeat' split) <;> first | exact gFr.rf | exact gFr.rf.up4 (by omega) | exact ((gFr.rf.up (by omega)).up4 (by omega)).up (by omega)
theorem gFr_feed {x : Int32} : gFr I (gi_Md_feed I J x) := by
  unfold gi_Md_feed
  (repeat' split) <;> first | exact gFr.rf | exact (gFr.rf.up4 (by omega)).up (by omega)
theorem gFr_mtrace : ∀ (l : List Int32) {I0 : qI}, gFr I0 I → gFr I0 (mtrace I l) := by
  intro l I0 h
  exact ⟨fun b hb => by rw [mtrace_row (by omega) (by omega)]; exact h.1 b hb, by rw [mtrace_f (by decide)]; exact h.2.1, by rw [mtrace_f (by decide)]; exact h.2.2⟩
end V34
/-! class and reference side by side: hurts set, done -/
/-- one field of a mourner, and the row of it -/
theorem vH.set {I I2 : qI} {c m jj i : Nat} {n : Int32} (h : vH I 6 (kp I)) (c6 : c ≤ 6) (hc : I 6 1 = nI c) (hm : m < c) (hj : jj = 3 ∧ i = 12 ∨ jj = 4 ∧ i = 18 ∧ n ≤ 99 ∨ jj = 5 ∧ i = 24 ∧ n ≤ 99999 ∨ jj = 6 ∧ i = 30 ∧ qbool n) (h6 : I2 6 1 = I 6 1) (hq : ∀ p, p < 6 → I2 (qm 6 p) = qup I (qm 6 m) jj n (qm 6 p)) (hf : ∀ j, 12 ≤ j → j < 36 → kp I2 j = if j = i + m then n else kp I j) : vH I2 6 (kp I2) := by
  intro c' p hc' e hp
  rw [h6] at e
  obtain ⟨b1, b2, b3, b4, b5, b6, b7⟩ := h c' p hc' e hp
  have ec : c' = c := (nI_eq (by omega) (by omega)).mp (e.symm.trans hc)
  subst ec
  rw [hf _ (by omega) (by omega), hf _ (by omega) (by omega), hf _ (by omega) (by omega), hf _ (by omega) (by omega), hq p (by omega)]
  by_cases q : p = m
  · subst q
    rcases hj with ⟨rfl, rfl⟩ | ⟨rfl, rfl, hn⟩ | ⟨rfl, rfl, hn⟩ | ⟨rfl, rfl, hn⟩
    · rw [if_pos rfl, if_neg (by omega), if_neg (by omega), if_neg (by omega), qup_at, qup_j (by decide), qup_j (by decide), qup_j (by decide)]
      exact ⟨rfl, b2, b3, b4, b5, b6, b7⟩
    · rw [if_neg (by omega), if_pos rfl, if_neg (by omega), if_neg (by omega), qup_at, qup_j (by decide), qup_j (by decide), qup_j (by decide)]
      exact ⟨b1, rfl, b3, b4, b5, b6, hn⟩
    · rw [if_neg (by omega), if_neg (by omega), if_pos rfl, if_neg (by omega), qup_at, qup_j (by decide), qup_j (by decide), qup_j (by decide)]
      exact ⟨b1, b2, rfl, b4, b5, hn, b7⟩
    · rw [if_neg (by omega), if_neg (by omega), if_neg (by omega), if_pos rfl, qup_at, qup_j (by decide), qup_j (by decide), qup_j (by decide)]
      exact ⟨b1, b2, b3, rfl, hn, b6, b7⟩
  · have e2 : qup I (qm 6 m) jj n (qm 6 p) = I (qm 6 p) := qup_row (by unfold qm; omega)
    rw [e2, if_neg (by omega), if_neg (by omega), if_neg (by omega), if_neg (by omega)]
    exact ⟨b1, b2, b3, b4, b5, b6, b7⟩
theorem kp_hrt {I : qI} {a m k : Nat} {n : Int32} (hk : k < 6) (ha : a = 117 ∨ a = 118 ∨ a = 119 ∨ a = 120) (hm : m = k) : ∀ j, 12 ≤ j → j < 36 → kp (qup I a m n) j = if j = 12 + 6 * (a - 117) + k then n else kp I j := by
  subst hm
  intro j h1 h2
  rcases ha with rfl | rfl | rfl | rfl
  · exact kp_up (n := 12 + m) (kpa_117 hk) (by omega) (by omega)
  · exact kp_up (n := 18 + m) (kpa_118 hk) (by omega) (by omega)
  · exact kp_up (n := 24 + m) (kpa_119 hk) (by omega) (by omega)
  · exact kp_up (n := 30 + m) (kpa_120 hk) (by omega) (by omega)
/-- a call that sets one field: what is left to show -/
theorem vINV.fld {S S1 S2 : qSh} {I I1 I2 : qI} {J J1 J2 : qJ} {T T2 : qI → Prop} {v v2 : Option Value} {c m jj a : Nat} {n : Int32} (g : vINV S I J) (cw : cW S S1 I I1) (hK : KQ0 S I J T v S1 I1 J1) (hV : RQ0 S1 I1 J1 T2 v2 S2 I2 J2) (c6 : c ≤ 6) (hc : I 6 1 = nI c) (hm : m < c) (hI1 : I1 = qup I (qm 6 m) jj n) (hI2 : I2 = qup I1 a m n) (hj : jj = 3 ∧ a = 117 ∨ jj = 4 ∧ a = 118 ∧ n ≤ 99 ∨ jj = 5 ∧ a = 119 ∧ n ≤ 99999 ∨ jj = 6 ∧ a = 120 ∧ qbool n) : vTie S2 I2 := by
  have cf := hK.2.2.1
  have r1 : ∀ b, (b < 21 ∨ 32 < b) → I1 b = I b := fun b hb => by rw [hI1, qup_row (by unfold qm; omega)]
  have r2 : ∀ b, b ≠ a → I2 b = I1 b := fun b hb => by rw [hI2, qup_row hb]
  refine g.gen cw hK hV (by rw [r1 0 (by omega)]) (fun b b1 b2 => r1 b (by omega)) ⟨by rw [r2 114 (by omega)], by rw [r2 114 (by omega)], fun b b1 b2 => r2 b (by omega)⟩ (r2 139 (by omega)) ?_
  refine g.2.2.1.set (i := 12 + 6 * (a - 117)) (jj := jj) (n := n) c6 hc hm ?_ (by rw [r2 6 (by omega), r1 6 (by omega)]) (fun p hp => by rw [r2 (qm 6 p) (by unfold qm; omega), hI1]) (fun j h1 h2 => ?_)
  · rcases hj with ⟨rfl, rfl⟩ | ⟨rfl, rfl, h⟩ | ⟨rfl, rfl, h⟩ | ⟨rfl, rfl, h⟩
    · exact Or.inl ⟨rfl, rfl⟩
    · exact Or.inr (Or.inl ⟨rfl, rfl, h⟩)
    · exact Or.inr (Or.inr (Or.inl ⟨rfl, rfl, h⟩))
    · exact Or.inr (Or.inr (Or.inr ⟨rfl, rfl, h⟩))
  · rw [hI2, kp_hrt (by omega) (by omega) rfl j h1 h2, kp_far cf (by omega)]
theorem x012 {x : Int32} (h : ¬ qwithin x 0 2 = 0) : x = 0 ∨ x = 1 ∨ x = 2 := by
  obtain ⟨g1, g2⟩ := qwithin_y h
  obtain ⟨m, m1, rfl⟩ := nI_of2 (M := 2) (n := 2) rfl (Int32.not_lt.mpr g1) g2
  have : m = 0 ∨ m = 1 ∨ m = 2 := by omega
  rcases this with rfl | rfl | rfl
  · exact Or.inl rfl
  · exact Or.inr (Or.inl rfl)
  · exact Or.inr (Or.inr rfl)
theorem vINV.set {S S1 S2 : qSh} {I I1 I2 : qI} {J J1 J2 : qJ} {T T2 : qI → Prop} {v v2 : Option Value} {p x n : Int32} (g : vINV S I J) (pK : ∃ c, c ≤ 6 ∧ I 6 1 = nI c ∧ v = some (.int (ca_set I c p x n)) ∧ I1 = ci_set I c p x n ∧ J1 = J) (cw : cW S S1 I I1) (hK : KQ0 S I J T v S1 I1 J1) (pR : v2 = some (.int (ga_Md_set I1 J1 p x n)) ∧ I2 = gi_Md_set I1 J1 p x n ∧ J2 = gj_Md_set I1 J1 p x n) (hV : RQ0 S1 I1 J1 T2 v2 S2 I2 J2) : vINV S2 I2 J2 ∧ v = v2 := by
  have gx := g.1.set pK hK pR hV
  have cf := hK.2.2.1
  obtain ⟨c, c6, hc, hv, hI1, rfl⟩ := pK
  obtain ⟨hv2, hI2, hJ2⟩ := pR
  have hc1 : I1 114 0 = nI c := by rw [(cf 114 (by omega) (by omega)).1]; exact g.1.2.2.2.1.1.trans hc
  have idn : I1 = I → I2 = I1 → vINV S2 I2 J2 := fun h1 h2 => ⟨gx, g.still cw hK hV (by rw [h1]) (fun _ _ _ => by rw [h1]) (by rw [h1]) (fun _ _ _ _ => by rw [h1]) (by rw [h2]; exact rW.rf) (by rw [h2]) (fun _ _ _ => by rw [h2])⟩
  unfold ca_set at hv
  unfold ci_set at hI1
  unfold ga_Md_set at hv2
  unfold gi_Md_set at hI2
  rw [hc1] at hv2 hI2
  by_cases q0 : qwithin p 0 (nI c - 1) = 0
  · rw [if_pos q0] at hv hI1 hv2 hI2
    exact ⟨idn hI1 hI2, hv.trans hv2.symm⟩
  rw [if_neg q0] at hv hI1 hv2 hI2
  obtain ⟨m, m1, rfl⟩ := qisM_y (show c < 2 ^ 31 by omega) q0
  rw [qcl (n := m) (by omega)] at hv hI1 hv2 hI2
  by_cases q1 : qwithin x 0 2 = 0
  · rw [if_pos q1] at hv hI1 hv2 hI2
    exact ⟨idn hI1 hI2, hv.trans hv2.symm⟩
  rw [if_neg q1] at hv hI1 hv2 hI2
  obtain ⟨b1, b2, b3, b4, -⟩ := g.2.2.1 c m c6 hc m1
  have e117 : I1 117 m = I (qm 6 m) 3 := by rw [(cf 117 (by omega) (by omega)).1, ← b1, kp_117 (by omega)]
  have e118 : I1 118 m = I (qm 6 m) 4 := by rw [(cf 118 (by omega) (by omega)).1, ← b2, kp_118 (by omega)]
  have e119 : I1 119 m = I (qm 6 m) 5 := by rw [(cf 119 (by omega) (by omega)).1, ← b3, kp_119 (by omega)]
  rcases x012 q1 with rfl | rfl | rfl
  · have m0 : cmost 0 = 99 := by decide
    have f0 : cfld 0 = 3 := by decide
    rw [m0] at hv hI1
    rw [f0] at hv hI1
    rw [if_neg (by decide)] at hv2 hI2
    by_cases q2 : qwithin n 0 99 = 0
    · rw [if_pos q2] at hv hI1 hv2 hI2
      exact ⟨idn hI1 hI2, hv.trans hv2.symm⟩
    rw [if_neg q2] at hv hI1 hv2 hI2
    rw [if_pos rfl, if_pos rfl] at hv2 hI2
    exact ⟨⟨gx, g.fld cw hK hV c6 hc m1 hI1 hI2 (Or.inl ⟨rfl, rfl⟩)⟩, by rw [hv, hv2, e117]⟩
  · have m0 : cmost 1 = 99 := by decide
    have f0 : cfld 1 = 4 := by decide
    rw [m0] at hv hI1
    rw [f0] at hv hI1
    rw [if_neg (by decide)] at hv2 hI2
    by_cases q2 : qwithin n 0 99 = 0
    · rw [if_pos q2] at hv hI1 hv2 hI2
      exact ⟨idn hI1 hI2, hv.trans hv2.symm⟩
    rw [if_neg q2] at hv hI1 hv2 hI2
    rw [if_neg (by decide), if_pos rfl, if_neg (by decide)] at hv2 hI2
    simp only [if_true] at hv2 hI2
    exact ⟨⟨gx, g.fld cw hK hV c6 hc m1 hI1 hI2 (Or.inr (Or.inl ⟨rfl, rfl, (qwithin_y q2).2⟩))⟩, by rw [hv, hv2, e118]⟩
  · have m0 : cmost 2 = 99999 := by decide
    have f0 : cfld 2 = 5 := by decide
    rw [m0] at hv hI1
    rw [f0] at hv hI1
    rw [if_pos rfl] at hv2 hI2
    by_cases q2 : qwithin n 0 99999 = 0
    · rw [if_pos q2] at hv hI1 hv2 hI2
      exact ⟨idn hI1 hI2, hv.trans hv2.symm⟩
    rw [if_neg q2] at hv hI1 hv2 hI2
    rw [if_neg (by decide), if_neg (by decide), if_neg (by decide)] at hv2 hI2
    rw [if_neg (by decide)] at hv2 hI2
    exact ⟨⟨gx, g.fld cw hK hV c6 hc m1 hI1 hI2 (Or.inr (Or.inr (Or.inl ⟨rfl, rfl, (qwithin_y q2).2⟩)))⟩, by rw [hv, hv2, e119]⟩
theorem vINV.done {S S1 S2 : qSh} {I I1 I2 : qI} {J J1 J2 : qJ} {T T2 : qI → Prop} {v v2 : Option Value} {p b : Int32} (g : vINV S I J) (hb : qbool b) (pK : ∃ c, c ≤ 6 ∧ I 6 1 = nI c ∧ v = some (.int (ca_done I c p)) ∧ I1 = ci_done I c p b ∧ J1 = J) (cw : cW S S1 I I1) (hK : KQ0 S I J T v S1 I1 J1) (pR : v2 = some (.int (ga_Md_done I1 J1 p b)) ∧ I2 = gi_Md_done I1 J1 p b ∧ J2 = gj_Md_done I1 J1 p b) (hV : RQ0 S1 I1 J1 T2 v2 S2 I2 J2) : vINV S2 I2 J2 ∧ v = v2 := by
  have gx := g.1.done pK hK pR hV
  have cf := hK.2.2.1
  obtain ⟨c, c6, hc, hv, hI1, rfl⟩ := pK
  obtain ⟨hv2, hI2, hJ2⟩ := pR
  have hc1 : I1 114 0 = nI c := by rw [(cf 114 (by omega) (by omega)).1]; exact g.1.2.2.2.1.1.trans hc
  have idn : I1 = I → I2 = I1 → vINV S2 I2 J2 := fun h1 h2 => ⟨gx, g.still cw hK hV (by rw [h1]) (fun _ _ _ => by rw [h1]) (by rw [h1]) (fun _ _ _ _ => by rw [h1]) (by rw [h2]; exact rW.rf) (by rw [h2]) (fun _ _ _ => by rw [h2])⟩
  unfold ca_done at hv
  unfold ci_done at hI1
  unfold ga_Md_done at hv2
  unfold gi_Md_done at hI2
  rw [hc1] at hv2 hI2
  by_cases q0 : qwithin p 0 (nI c - 1) = 0
  · rw [if_pos q0] at hv hI1 hv2 hI2
    exact ⟨idn hI1 hI2, hv.trans hv2.symm⟩
  rw [if_neg q0] at hv hI1 hv2 hI2
  obtain ⟨m, m1, rfl⟩ := qisM_y (show c < 2 ^ 31 by omega) q0
  rw [qcl (n := m) (by omega)] at hv hI1 hv2 hI2
  rw [ite_self] at hv2
  obtain ⟨b1, b2, b3, b4, b5, -⟩ := g.2.2.1 c m c6 hc m1
  have e120 : I1 120 m = I (qm 6 m) 6 := by rw [(cf 120 (by omega) (by omega)).1, ← b4, kp_120 (by omega)]
  have ans : v = v2 := by
    rw [hv, hv2, e120]
    rcases b5 with q | q
    · rw [q, if_pos rfl]
    · rw [q, if_neg (by decide)]
  rcases hb with rfl | rfl
  · rw [if_pos rfl] at hI2
    exact ⟨⟨gx, g.fld cw hK hV c6 hc m1 hI1 hI2 (Or.inr (Or.inr (Or.inr ⟨rfl, rfl, Or.inl rfl⟩)))⟩, ans⟩
  · rw [if_neg (by decide)] at hI2
    exact ⟨⟨gx, g.fld cw hK hV c6 hc m1 hI1 hI2 (Or.inr (Or.inr (Or.inr ⟨rfl, rfl, Or.inr rfl⟩)))⟩, ans⟩
