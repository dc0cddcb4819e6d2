/-! class and reference side by side: acts, kinds, the trace -/
section Y32
variable {i v kd x k a : Int32} {n : Nat}
theorem qb10 (h : qbodyOf k a = 10) : qbody i v kd (n + 1) k a x = (x + i, [10]) := by rw [qbody, if_pos h]
theorem qb11 (h : qbodyOf k a = 11) : qbody i v kd (n + 1) k a x = ((qbody i v kd n kd 0 x).1 - v, 11 :: (qbody i v kd n kd 0 x).2) := by rw [qbody, if_neg (by rw [h]; decide), if_pos h]
theorem qb12 (h : qbodyOf k a = 12) : qbody i v kd (n + 1) k a x = ((qbody i v kd n kd 1 x).1 * 2, 12 :: (qbody i v kd n kd 1 x).2) := by rw [qbody, if_neg (by rw [h]; decide), if_neg (by rw [h]; decide), if_pos h]
theorem qb20 (h : qbodyOf k a = 20) : qbody i v kd (n + 1) k a x = ((qbody i v kd n 0 1 x).1 ^^^ 6, 20 :: (qbody i v kd n 0 1 x).2) := by rw [qbody, if_neg (by rw [h]; decide), if_neg (by rw [h]; decide), if_neg (by rw [h]; decide), if_pos h]
theorem qb30 (h : qbodyOf k a = 30) : qbody i v kd (n + 1) k a x = ((qbody i v kd n 0 0 (x * 3)).1, 30 :: (qbody i v kd n 0 0 (x * 3)).2) := by rw [qbody, if_neg (by rw [h]; decide), if_neg (by rw [h]; decide), if_neg (by rw [h]; decide), if_neg (by rw [h]; decide), if_pos h]
theorem qb40 (h : qbodyOf k a = 40) : qbody i v kd (n + 1) k a x = ((qbody i v kd n 0 2 x).1 + (qbody i v kd n kd 1 1).1, 40 :: ((qbody i v kd n 0 2 x).2 ++ (qbody i v kd n kd 1 1).2)) := by rw [qbody, if_neg (by rw [h]; decide), if_neg (by rw [h]; decide), if_neg (by rw [h]; decide), if_neg (by rw [h]; decide), if_neg (by rw [h]; decide), if_pos h]
theorem qb50 (h : qbodyOf k a = 50) : qbody i v kd (n + 1) k a x = (-(qbody i v kd n 1 0 x).1, 50 :: (qbody i v kd n 1 0 x).2) := by rw [qbody, if_neg (by rw [h]; decide), if_neg (by rw [h]; decide), if_neg (by rw [h]; decide), if_neg (by rw [h]; decide), if_neg (by rw [h]; decide), if_neg (by rw [h]; decide), if_pos h]
theorem qb51 (h : qbodyOf k a = 51) : qbody i v kd (n + 1) k a x = ((qbody i v kd n 1 1 (x + 1)).1, 51 :: (qbody i v kd n 1 1 (x + 1)).2) := by rw [qbody, if_neg (by rw [h]; decide), if_neg (by rw [h]; decide), if_neg (by rw [h]; decide), if_neg (by rw [h]; decide), if_neg (by rw [h]; decide), if_neg (by rw [h]; decide), if_neg (by rw [h]; decide), if_pos h]
theorem qb60 (h : qbodyOf k a = 60) : qbody i v kd (n + 1) k a x = ((qbody i v kd n 2 2 (x - i)).1, 60 :: (qbody i v kd n 2 2 (x - i)).2) := by rw [qbody, if_neg (by rw [h]; decide), if_neg (by rw [h]; decide), if_neg (by rw [h]; decide), if_neg (by rw [h]; decide), if_neg (by rw [h]; decide), if_neg (by rw [h]; decide), if_neg (by rw [h]; decide), if_neg (by rw [h]; decide), if_pos h]
theorem qb70 (h : qbodyOf k a = 70) : qbody i v kd (n + 1) k a x = ((qbody i v kd n 3 1 x).1 + (qbody i v kd n 3 0 2).1, 70 :: ((qbody i v kd n 3 1 x).2 ++ (qbody i v kd n 3 0 2).2)) := by rw [qbody, if_neg (by rw [h]; decide), if_neg (by rw [h]; decide), if_neg (by rw [h]; decide), if_neg (by rw [h]; decide), if_neg (by rw [h]; decide), if_neg (by rw [h]; decide), if_neg (by rw [h]; decide), if_neg (by rw [h]; decide), if_neg (by rw [h]; decide), if_pos h]
theorem qb71 (h : qbodyOf k a = 71) : qbody i v kd (n + 1) k a x = ((qbody i v kd n 3 0 x).1 ^^^ v, 71 :: (qbody i v kd n 3 0 x).2) := by rw [qbody, if_neg (by rw [h]; decide), if_neg (by rw [h]; decide), if_neg (by rw [h]; decide), if_neg (by rw [h]; decide), if_neg (by rw [h]; decide), if_neg (by rw [h]; decide), if_neg (by rw [h]; decide), if_neg (by rw [h]; decide), if_neg (by rw [h]; decide), if_neg (by rw [h]; decide), if_pos h]
theorem x_W : ∀ (k : Nat), k < 7 → ∀ (n : Nat) (x : Int32), qbody i v kd (n + 2) (nI k) 0 x = mW i v k x := by
  intro k hk n x
  have : k = 0 ∨ k = 1 ∨ k = 2 ∨ k = 3 ∨ k = 4 ∨ k = 5 ∨ k = 6 := by omega
  rcases this with rfl | rfl | rfl | rfl | rfl | rfl | rfl
  · exact qb10 (by decide)
  · exact qb10 (by decide)
  · rw [qb30 (by decide), qb10 (by decide)]; rfl
  · exact qb10 (by decide)
  · rw [qb50 (by decide), qb10 (by decide)]; rfl
  · rw [qb30 (by decide), qb10 (by decide)]; rfl
  · rw [qb71 (by decide), qb10 (by decide)]; rfl
theorem x_K0 {kk : Nat} (hk : kk < 7) {k : Int32} (h : qbodyOf k 1 = 11) (n : Nat) (x : Int32) : qbody i v (nI kk) (n + 3) k 1 x = mK0 i v kk x := by
  rw [qb11 h, x_W kk hk]; rfl
theorem x_K {kk : Nat} (hk : kk < 7) : ∀ (k : Nat), k < 7 → ∀ (n : Nat) (x : Int32), qbody i v (nI kk) (n + 5) (nI k) 1 x = mK i v kk k x := by
  intro k hk2 n x
  have : k = 0 ∨ k = 1 ∨ k = 2 ∨ k = 3 ∨ k = 4 ∨ k = 5 ∨ k = 6 := by omega
  rcases this with rfl | rfl | rfl | rfl | rfl | rfl | rfl
  · exact x_K0 hk (by decide) (n + 2) x
  · rw [qb20 (by decide), show qbody i v (nI kk) (n + 4) 0 1 x = mK0 i v kk x from x_K0 hk (by decide) (n + 1) x]; rfl
  · exact x_K0 hk (by decide) (n + 2) x
  · exact x_K0 hk (by decide) (n + 2) x
  · rw [qb51 (by decide), qb20 (by decide), show qbody i v (nI kk) (n + 3) 0 1 (x + 1) = mK0 i v kk (x + 1) from x_K0 hk (by decide) n (x + 1)]; rfl
  · exact x_K0 hk (by decide) (n + 2) x
  · rw [qb70 (by decide), show qbody i v (nI kk) (n + 4) 3 1 x = mK0 i v kk x from x_K0 hk (by decide) (n + 1) x, show qbody i v (nI kk) (n + 4) 3 0 2 = mW0 i 2 from qb10 (by decide)]; rfl
theorem x_T0 {kk : Nat} (hk : kk < 7) {k : Int32} (h : qbodyOf k 2 = 12) (n : Nat) (x : Int32) : qbody i v (nI kk) (n + 6) k 2 x = mT0 i v kk x := by
  rw [qb12 h, x_K hk kk hk]; rfl
theorem x_Tl {kk : Nat} (hk : kk < 7) : ∀ (k : Nat), k < 7 → ∀ (n : Nat) (x : Int32), qbody i v (nI kk) (n + 8) (nI k) 2 x = mT i v kk k x := by
  intro k hk2 n x
  have : k = 0 ∨ k = 1 ∨ k = 2 ∨ k = 3 ∨ k = 4 ∨ k = 5 ∨ k = 6 := by omega
  rcases this with rfl | rfl | rfl | rfl | rfl | rfl | rfl
  · exact x_T0 hk (by decide) (n + 2) x
  · exact x_T0 hk (by decide) (n + 2) x
  · exact x_T0 hk (by decide) (n + 2) x
  · rw [qb40 (by decide), show qbody i v (nI kk) (n + 7) 0 2 x = mT0 i v kk x from x_T0 hk (by decide) (n + 1) x, show qbody i v (nI kk) (n + 7) (nI kk) 1 1 = mK i v kk kk 1 from x_K hk kk hk (n + 2) 1]; rfl
  · exact x_T0 hk (by decide) (n + 2) x
  · rw [qb60 (by decide), show qbody i v (nI kk) (n + 7) 2 2 (x - i) = mT0 i v kk (x - i) from x_T0 hk (by decide) (n + 1) (x - i)]; rfl
  · rw [qb40 (by decide), show qbody i v (nI kk) (n + 7) 0 2 x = mT0 i v kk x from x_T0 hk (by decide) (n + 1) x, show qbody i v (nI kk) (n + 7) (nI kk) 1 1 = mK i v kk kk 1 from x_K hk kk hk (n + 2) 1]; rfl
theorem x_body {kk : Nat} (hk : kk < 7) (ha : ¬ qwithin a 0 2 = 0) : qbody i v (nI kk) 21 (nI kk) a x = mAct i v kk a x := by
  obtain ⟨g1, g2⟩ := qwithin_y ha
  obtain ⟨m, m1, rfl⟩ := nI_of2 (M := 2) (n := 2) rfl (Int32.not_lt.mpr g1) g2
  have : m = 0 ∨ m = 1 ∨ m = 2 := by omega
  unfold mAct
  rcases this with rfl | rfl | rfl
  · rw [if_pos (by decide)]; exact x_W kk hk 19 x
  · rw [if_neg (by decide), if_pos (by decide)]; exact x_K hk kk hk 16 x
  · rw [if_neg (by decide), if_neg (by decide)]; exact x_Tl hk kk hk 13 x
end Y32
theorem qtrace_at : ∀ (l : List Int32) (I : qI) (k : Nat), I 99 1 = nI k → k + l.length < 2 ^ 31 → (∀ j, j < k → qtrace I l 100 j = I 100 j) ∧ ∀ j, j < l.length → k + j < 20 → qtrace I l 100 (k + j) = l.getD j 0 := by
  intro l
  induction l with
  | nil => intro I k _ _; exact ⟨fun _ _ => rfl, fun j hj _ => absurd hj (Nat.not_lt_zero _)⟩
  | cons y l ih =>
    intro I k hk hb
    rw [List.length_cons] at hb
    have r : (qbegin I y) 99 1 = nI (k + 1) := by rw [qbegin_r, hk, q1]
    obtain ⟨b1, b2⟩ := ih (qbegin I y) (k + 1) r (by omega)
    have old : ∀ j, j < k → qbegin I y 100 j = I 100 j := fun j hj => by
      unfold qbegin; split
      · rw [qup_o (by decide), hk, qcl (by omega), qup_j (by omega)]
      · rw [qup_o (by decide)]
    refine ⟨fun j hj => (b1 j (by omega)).trans (old j hj), fun j hj h20 => ?_⟩
    show qtrace (qbegin I y) l 100 (k + j) = _
    rcases j with _ | j
    · rw [Nat.add_zero, b1 k (by omega)]
      unfold qbegin
      rw [hk, if_pos (show nI k < 20 from nI_lt (b := 20) (by omega) (by decide)), qup_o (by decide), qcl (by omega), qup_at]; rfl
    · rw [show k + (j + 1) = k + 1 + j by omega, b2 j (by rw [List.length_cons] at hj; omega) (by omega)]; rfl
theorem mtrace_at : ∀ (l : List Int32) (I : qI) (k : Nat), I 114 37 = nI k → k + l.length < 2 ^ 31 → (∀ j, j < k → mtrace I l 138 j = I 138 j) ∧ ∀ j, j < l.length → k + j < 20 → mtrace I l 138 (k + j) = l.getD j 0 := by
  intro l
  induction l with
  | nil => intro I k _ _; exact ⟨fun _ _ => rfl, fun j hj _ => absurd hj (Nat.not_lt_zero _)⟩
  | cons y l ih =>
    intro I k hk hb
    rw [List.length_cons] at hb
    have r : (mbegin I y) 114 37 = nI (k + 1) := mbegin_n hk
    obtain ⟨b1, b2⟩ := ih (mbegin I y) (k + 1) r (by omega)
    have old : ∀ j, j < k → mbegin I y 138 j = I 138 j := fun j hj => by
      unfold mbegin; split
      · rw [qup_o (by decide), hk, qcl (by omega), qup_j (by omega)]
      · rw [qup_o (by decide)]
    refine ⟨fun j hj => (b1 j (by omega)).trans (old j hj), fun j hj h20 => ?_⟩
    show mtrace (mbegin I y) l 138 (k + j) = _
    rcases j with _ | j
    · rw [Nat.add_zero, b1 k (by omega)]
      unfold mbegin
      rw [hk, if_pos (show nI k < 20 from nI_lt (b := 20) (by omega) (by decide)), qup_o (by decide), qcl (by omega), qup_at]; rfl
    · rw [show k + (j + 1) = k + 1 + j by omega, b2 j (by rw [List.length_cons] at hj; omega) (by omega)]; rfl
theorem q1m : ∀ c, c ≤ 6 → ∀ p, p < c → ¬ qwithin (nI p) 0 (nI c - 1) = 0 := by decide +kernel
theorem xINV.act {S S1 S2 : qSh} {I I1 I2 : qI} {J J1 J2 : qJ} {T T2 : qI → Prop} {v v2 : Option Value} {m a x : Int32} (g : xINV S I J) (pK : ∃ c, c ≤ 6 ∧ I 6 1 = nI c ∧ v = some (.int (ca_act I c m a x).1) ∧ I1 = qtrace (qup I 99 1 0) (ca_act I c m a x).2 ∧ J1 = J) (hK : KQ0 S I J T v S1 I1 J1) (pR : ∃ c, c ≤ 6 ∧ I1 114 0 = nI c ∧ J2 = J1 ∧ (((∀ p, p < c → m ≠ nI p) ∨ qwithin a 0 2 = 0) ∧ v2 = some (.int 0) ∧ I2 = qup I1 114 37 0 ∨ ∃ p k, p < c ∧ m = nI p ∧ k < 7 ∧ I1 115 p = nI k ∧ ¬ qwithin a 0 2 = 0 ∧ v2 = some (.int (mAct (nI p) (I1 116 p) k a x).1) ∧ I2 = mtrace (qup I1 114 37 0) (mAct (nI p) (I1 116 p) k a x).2)) (hV : RQ0 S1 I1 J1 T2 v2 S2 I2 J2) : xINV S2 I2 J2 ∧ v = v2 := by
  have cf := hK.2.2.1
  have rf := hV.2.2.1
  obtain ⟨t1, t2, t3, t4, t5, t6⟩ := id g.2.2.2
  obtain ⟨c, c6, hc, hv, hI1, rfl⟩ := pK
  obtain ⟨c', c6', hc', rfl, hR⟩ := pR
  have hc1 : I1 114 0 = nI c := by rw [(cf 114 (by omega) (by omega)).1]; exact t1.1.trans hc
  have ec : c' = c := (nI_eq (by omega) (by omega)).mp (hc'.symm.trans hc1)
  subst ec
  have key : ∃ l : List Int32, l.length ≤ 20 ∧ I1 = qtrace (qup I 99 1 0) l ∧ I2 = mtrace (qup I1 114 37 0) l ∧ v = v2 := by
    rcases hR with ⟨h, hv2, hI2⟩ | ⟨p, k, hp, rfl, k7, hk, ha, hv2, hI2⟩
    · have e0 : ca_act I c' m a x = (0, []) := by
        unfold ca_act
        by_cases q0 : qwithin m 0 (nI c' - 1) = 0
        · rw [if_pos q0]
        · rw [if_neg q0]
          rcases h with h | h
          · obtain ⟨p, p1, p2⟩ := qisM_y (show c' < 2 ^ 31 by omega) q0
            exact absurd p2 (h p p1)
          · rw [if_pos h]
      rw [e0] at hv hI1
      exact ⟨[], by decide, hI1, hI2, hv.trans hv2.symm⟩
    · obtain ⟨b1, b0, -⟩ := t1.2.2.2.2.2.2.1 c' p c6 hc hp
      have x1 : kp I p = I 115 p := by have := kp_115 (I := I) (k := p) (by omega); rwa [Nat.zero_add] at this
      rw [x1] at b1
      rw [kp_116 (by omega)] at b0
      rw [(cf 115 (by omega) (by omega)).1, b1] at hk
      rw [(cf 116 (by omega) (by omega)).1, b0] at hv2 hI2
      have e0 : ca_act I c' (nI p) a x = mAct (nI p) (I (qm 6 p) 2) k a x := by
        unfold ca_act
        rw [if_neg (q1m c' c6 p hp), if_neg ha, qcl (by omega), t5.2.2 p (by omega), hk]
        exact x_body k7 ha
      rw [e0] at hv hI1
      exact ⟨_, mAct_len, hI1, hI2, hv.trans hv2.symm⟩
  obtain ⟨l, l20, e1, e2, ev⟩ := key
  refine ⟨g.mk2 hK hV ?_, ev⟩
  have r1 : ∀ b, b ≠ 99 → b ≠ 100 → I1 b = I b := fun b h1 h2 => by rw [e1, qtrace_o h1 h2, qup_row h1]
  have r2 : ∀ b, b ≠ 114 → b ≠ 138 → I2 b = I1 b := fun b h1 h2 => by rw [e2, mtrace_row h2 h1, qup_row h1]
  have f2 : ∀ j, j ≠ 37 → I2 114 j = I1 114 j := fun j hj => by rw [e2, mtrace_f hj, qup_j hj]
  have kk : ∀ j, j < 124 → kp I2 j = kp I j := fun j hj => by
    obtain ⟨q1, q2⟩ := kpa_act j hj
    rw [← kp_far cf hj]
    unfold kp
    by_cases z : (kpa j).1 = 114
    · rw [z] at q2 ⊢
      exact f2 _ (fun w => q2 ⟨rfl, w⟩)
    · rw [r2 _ z q1]
  have z0 : qup I 99 1 0 99 1 = nI 0 := qup_at
  have m0 : qup I1 114 37 0 114 37 = nI 0 := qup_at
  have n1 : I1 99 1 = nI l.length := by rw [e1, qtrace_r l _ 0 z0, Nat.zero_add]
  have n2 : I2 114 37 = nI l.length := by rw [e2, mtrace_n l _ 0 m0, Nat.zero_add]
  refine ⟨t1.rows (fun b h1 h2 => by rw [r2 b (by omega) (by omega), r1 b (by omega) (by omega)]) (fun j hj => kk j hj.lt), ?_, fun h1 => ?_, fun t ht => ?_, ⟨?_, fun j hj hlt => ?_, fun p hp => ?_⟩, t6.fr (by rw [r2 0 (by omega) (by omega), r1 0 (by omega) (by omega)]) (by rw [r2 87 (by omega) (by omega), r1 87 (by omega) (by omega)]) (by rw [r2 88 (by omega) (by omega), r1 88 (by omega) (by omega)]) (by rw [f2 17 (by decide), (cf 114 (by omega) (by omega)).1]) (by rw [f2 11 (by decide), (cf 114 (by omega) (by omega)).1]) (by rw [r2 123 (by omega) (by omega), (cf 123 (by omega) (by omega)).1])⟩
  · rw [f2 39 (by decide), (cf 114 (by omega) (by omega)).1, r2 0 (by omega) (by omega), r1 0 (by omega) (by omega)]; exact t2
  · rw [r2 0 (by omega) (by omega), r1 0 (by omega) (by omega)] at h1
    rw [r2 139 (by omega) (by omega), (cf 139 (by omega) (by omega)).1]
    exact (t3 h1).rows (fun b a1 a2 => by rw [r2 b (by omega) (by omega), r1 b (by omega) (by omega)]) (fun j _ => rfl)
  · rw [r2 145 (by omega) (by omega), (cf 145 (by omega) (by omega)).1, r2 146 (by omega) (by omega), (cf 146 (by omega) (by omega)).1, r2 (102 + 2 * t) (by omega) (by omega), r1 (102 + 2 * t) (by omega) (by omega)]
    exact t4 t ht
  · rw [r2 99 (by omega) (by omega), n1, n2]
  · rw [r2 99 (by omega) (by omega), n1] at hlt
    have hjl : j < l.length := (nI_ltI (by omega) (by omega)).mp hlt
    have w1 := (qtrace_at l (qup I 99 1 0) 0 z0 (by omega)).2 j hjl (by omega)
    have w2 := (mtrace_at l (qup I1 114 37 0) 0 m0 (by omega)).2 j hjl (by omega)
    rw [Nat.zero_add, ← e1] at w1
    rw [Nat.zero_add, ← e2] at w2
    rw [r2 100 (by omega) (by omega), w1, w2]
  · rw [r2 (qm 6 p) (by unfold qm; omega) (by unfold qm; omega), r1 (qm 6 p) (by unfold qm; omega) (by unfold qm; omega)]; exact t5.2.2 p hp
theorem x_taken_fin : ∀ kk, kk < 7 → ∀ xx, xx < 7 → (if kabN (nI xx) 7 (nI kk) = nI xx then nI kk else -12) = (if nI (mupN 7 kk (nI xx)) = nI xx then nI kk else (-12 : Int32)) := by decide +kernel
theorem x_taken {I I1 : qI} {J J1 : qJ} {m x : Int32} {v v2 : Option Value} (tie : xTie I J) (pK : ∃ c, c ≤ 6 ∧ I 6 1 = nI c ∧ v = some (.int (ca_taken I c m x)) ∧ cU I I1 J J1) (cf : cFar I I1 J J1) (pR : ∃ c, c ≤ 6 ∧ I1 114 0 = nI c ∧ (qwithin x 0 6 = 0 ∧ v2 = some (.int (-2)) ∨ ¬ qwithin x 0 6 = 0 ∧ (∀ p, p < c → m ≠ nI p) ∧ v2 = some (.int (-11)) ∨ ¬ qwithin x 0 6 = 0 ∧ ∃ p k, p < c ∧ m = nI p ∧ k < 7 ∧ I1 115 p = nI k ∧ v2 = some (.int (if nI (mupN 7 k x) = x then nI k else -12)))) : v = v2 := by
  obtain ⟨c, c6, hc, hv, -⟩ := pK
  obtain ⟨c', c6', hc', hR⟩ := pR
  have hc1 : I1 114 0 = nI c := by rw [(cf 114 (by omega) (by omega)).1]; exact tie.1.1.trans hc
  have ec : c' = c := (nI_eq (by omega) (by omega)).mp (hc'.symm.trans hc1)
  subst ec
  unfold ca_taken at hv
  rcases hR with ⟨h, hv2⟩ | ⟨h, h1, hv2⟩ | ⟨h, p, k, hp, rfl, k7, hk, hv2⟩
  · rw [if_pos h] at hv; exact hv.trans hv2.symm
  · have q0 : qwithin m 0 (nI c' - 1) = 0 := by
      by_cases q0 : qwithin m 0 (nI c' - 1) = 0
      · exact q0
      · obtain ⟨p, p1, p2⟩ := qisM_y (show c' < 2 ^ 31 by omega) q0
        exact absurd p2 (h1 p p1)
    rw [if_neg h, if_pos q0] at hv; exact hv.trans hv2.symm
  · obtain ⟨b1, -, -⟩ := tie.1.2.2.2.2.2.2.1 c' p c6 hc hp
    have x1 : kp I p = I 115 p := by have := kp_115 (I := I) (k := p) (by omega); rwa [Nat.zero_add] at this
    rw [x1] at b1
    rw [(cf 115 (by omega) (by omega)).1, b1] at hk
    obtain ⟨g1, g2⟩ := qwithin_y h
    obtain ⟨y, y1, rfl⟩ := nI_of2 (M := 6) (n := 6) rfl (Int32.not_lt.mpr g1) g2
    rw [if_neg h, if_neg (q1m c' c6 p hp), qcl (by omega), hk, x_taken_fin k k7 y (by omega)] at hv
    exact hv.trans hv2.symm
theorem x_trace {I I1 : qI} {J J1 : qJ} {x : Int32} (tie : xTie I J) (h : rDat I) (u : cU I I1 J J1) (cf : cFar I I1 J J1) : ca_trace I x = ga_Md_trace I1 J1 x := by
  obtain ⟨-, -, -, -, ⟨n1, n2, -⟩, -⟩ := tie
  obtain ⟨t, t30, ht⟩ : ∃ t, t < 2 ^ 30 ∧ I 114 37 = nI t := by
    obtain ⟨n, h1, h2, h3, h4, h5, h6, h7⟩ := h
    exact h6
  rw [ht] at n1
  unfold ca_trace ga_Md_trace
  rw [(cf 114 (by omega) (by omega)).1, (cf 138 (by omega) (by omega)).1, ht]
  have hm : qmin 20 (nI t) = nI (min 20 t) := qmin_nI (a := 20) (by omega) (by omega)
  rw [hm]
  by_cases q0 : qwithin x 0 19 = 0
  · rw [if_pos q0]
    by_cases q1 : qwithin x 0 (nI (min 20 t) - 1) = 0
    · rw [if_pos q1]
    · obtain ⟨y, y1, rfl⟩ := qisM_y (by omega) q1
      exact absurd ⟨(nI_leI (a := 0) (by omega) (by omega)).mpr (Nat.zero_le _), (show nI y ≤ nI 19 from (nI_leI (by omega) (by omega)).mpr (by omega))⟩ (qwithin_n q0)
  · obtain ⟨g1, g2⟩ := qwithin_y q0
    obtain ⟨y, y1, rfl⟩ := nI_of2 (M := 19) (n := 19) rfl (Int32.not_lt.mpr g1) g2
    rw [if_neg q0, n1]
    by_cases q2 : nI y < nI t
    · have hyt : y < t := (nI_ltI (by omega) (by omega)).mp q2
      have q1 : ¬ qwithin (nI y) 0 (nI (min 20 t) - 1) = 0 := by
        have e : nI (min 20 t) - 1 = nI (min 20 t - 1) := by
          have := nI_add (min 20 t - 1) 1
          rw [show min 20 t - 1 + 1 = min 20 t by omega] at this
          rw [← this]; exact Int32.add_sub_cancel _ _
        rw [e]
        exact fun z => qwithin_n z ⟨(nI_leI (a := 0) (by omega) (by omega)).mpr (Nat.zero_le _), (nI_leI (by omega) (by omega)).mpr (by omega)⟩
      rw [if_pos q2, if_neg q1, qcl (by omega)]
      exact n2 y (by omega) (by rw [n1]; exact q2)
    · rw [if_neg q2]
      by_cases q1 : qwithin (nI y) 0 (nI (min 20 t) - 1) = 0
      · rw [if_pos q1]
      · obtain ⟨z, z1, z2⟩ := qisM_y (by omega) q1
        have : y = z := (nI_eq (by omega) (by omega)).mp z2
        exact absurd ((nI_ltI (by omega) (by omega)).mpr (show y < t by omega)) q2
/-! class and reference side by side: the text, islands, counts -/
theorem nlt0 {j : Nat} (h : j < 2 ^ 31) : ¬ nI j < 0 := nI_pos h
theorem xTie.six {I I2 : qI} {J J2 : qJ} (h : xTie I J) (r : ∀ a, ((6 ≤ a ∧ a ≤ 32) ∨ (60 ≤ a ∧ a ≤ 86) ∨ (99 ≤ a ∧ a ≤ 113)) → I2 a = I a ∧ J2 a = J a) (e04 : I2 0 4 = I 0 4) (kk : ∀ j, j < 123 → kp I2 j = kp I j) (e139 : I2 139 = I 139) (e39 : I2 114 39 = I 114 39) (e37 : I2 114 37 = I 114 37 ∧ I2 138 = I 138) (e145 : ∀ a, 145 ≤ a → a ≤ 147 → I2 a = I a ∧ J2 a = J a) (hx : xTX I2) : xTie I2 J2 := by
  obtain ⟨t1, t2, t3, t4, t5, t6⟩ := h
  refine ⟨t1.rows (fun a a1 a2 => (r a (by omega)).1) (fun j hj => kk j (by unfold cDj at hj; omega)), ?_, fun h1 => ?_, fun t ht => ?_, t5.fr (by rw [(r 99 (by omega)).1]) (r 100 (by omega)).1 e37.1 e37.2 (fun p hp => by rw [(r (qm 6 p) (by unfold qm; omega)).1]), hx⟩
  · rw [e39, e04]; exact t2
  · rw [e04] at h1
    rw [e139]
    exact (t3 h1).rows (fun a a1 a2 => (r a (by omega)).1) (fun j _ => rfl)
  · obtain ⟨b1, b2, b3, b4⟩ := t4 t ht
    rw [(e145 145 (by omega) (by omega)).1, (e145 146 (by omega) (by omega)).1, (r (102 + 2 * t) (by omega)).1]
    exact ⟨b1, b2, fun i hi => by rw [(e145 147 (by omega) (by omega)).2, (r (102 + 2 * t + 1) (by omega)).2]; exact b3 i hi, b4⟩
theorem xINV.feed {S S1 S2 : qSh} {I I1 I2 : qI} {J J1 J2 : qJ} {T T2 : qI → Prop} {v v2 : Option Value} {x : Int32} (g : xINV S I J) (pK : ∃ z, z ≤ 100 ∧ I 87 1 = nI z ∧ v = some (.int (ca_feed z x)) ∧ I1 = ci_feed I z x ∧ J1 = J) (hK : KQ0 S I J T v S1 I1 J1) (pR : v2 = some (.int (ga_Md_feed I1 J1 x)) ∧ I2 = gi_Md_feed I1 J1 x ∧ J2 = gj_Md_feed I1 J1 x) (hV : RQ0 S1 I1 J1 T2 v2 S2 I2 J2) : xINV S2 I2 J2 ∧ v = v2 := by
  have cf := hK.2.2.1
  have rf := hV.2.2.1
  have tie := g.2.2.2
  obtain ⟨z, z100, hz, hv, hI1, rfl⟩ := pK
  obtain ⟨hv2, hI2, hJ2⟩ := pR
  have j2 : J2 = J1 := by rw [hJ2]; unfold gj_Md_feed; (repeat' split) <;> rfl
  obtain ⟨x1, x2, x3⟩ := tie.2.2.2.2.2
  have h11 : I1 114 11 = nI z := by rw [(cf 114 (by omega) (by omega)).1, ← x2]; exact hz
  unfold ca_feed at hv
  unfold ci_feed at hI1
  unfold ga_Md_feed at hv2
  unfold gi_Md_feed at hI2
  rw [h11] at hv2 hI2
  have idn : I1 = I → I2 = I1 → xINV S2 I2 J2 := fun h1 h2 => g.mk2 hK hV (tie.idn h1 rfl h2 j2)
  by_cases q0 : qwithin x 0 127 = 0
  · rw [if_pos q0] at hv hI1 hv2 hI2
    exact ⟨idn hI1 hI2, hv.trans hv2.symm⟩
  rw [if_neg q0] at hv hI1 hv2 hI2
  by_cases q1 : z < 100
  · have n1 : ¬ nI z = 100 := fun w => by
      have := (nI_eq (by omega) (by omega)).mp (show nI z = nI 100 from w)
      omega
    rw [if_pos q1] at hv hI1
    rw [if_neg n1, q1k] at hv2
    rw [if_neg n1, q1k, qcl (by omega)] at hI2
    have r1 : ∀ a, a ≠ 87 → a ≠ 88 → I1 a = I a := fun a a1 a2 => by rw [hI1, qup_row a1, qup_row a2]
    have r2 : ∀ a, a ≠ 114 → a ≠ 123 → I2 a = I1 a := fun a a1 a2 => by rw [hI2, qup_row a2, qup_row a1]
    have f2 : ∀ j, j ≠ 11 → I2 114 j = I1 114 j := fun j hj => by rw [hI2, qup_o (by decide), qup_j hj]
    have kk : ∀ j, j < 124 → kp I2 j = kp I j := fun j hj => by
      obtain ⟨b1, b2⟩ := kpa_11 j hj
      rw [← kp_far cf hj]
      unfold kp
      by_cases w : (kpa j).1 = 114
      · rw [w] at b1 ⊢
        exact f2 _ (fun y => b1 ⟨rfl, y⟩)
      · rw [r2 _ w b2]
    have c114 := (cf 114 (by omega) (by omega)).1
    have y1 : I2 87 1 = nI (z + 1) := by rw [r2 87 (by omega) (by omega), hI1, qup_at]
    refine ⟨g.mk2 hK hV (tie.six (fun a ha => ⟨by rw [r2 a (by omega) (by omega), r1 a (by omega) (by omega)], by rw [j2]⟩) (by rw [r2 0 (by omega) (by omega), r1 0 (by omega) (by omega)]) (fun j hj => kk j (by omega)) (by rw [r2 139 (by omega) (by omega), (cf 139 (by omega) (by omega)).1]) (by rw [f2 39 (by decide), c114]) ⟨by rw [f2 37 (by decide), c114], by rw [r2 138 (by omega) (by omega), (cf 138 (by omega) (by omega)).1]⟩ (fun a a1 a2 => ⟨by rw [r2 a (by omega) (by omega), (cf a (by omega) (by omega)).1], by rw [j2]⟩) ⟨?_, ?_, fun j hj hk => ?_⟩), hv.trans hv2.symm⟩
    · rw [r2 0 (by omega) (by omega), r1 0 (by omega) (by omega), f2 17 (by decide), c114]; exact x1
    · rw [y1, hI2, qup_o (by decide), qup_at]
    · rw [y1] at hk
      have hjz : j < z + 1 := (nI_ltI (by omega) (by omega)).mp hk
      have e1 : I2 88 j = if j = z then x else I 88 j := by
        rw [r2 88 (by omega) (by omega), hI1, qup_o (by decide)]
        by_cases w : j = z
        · subst w; rw [qup_at, if_pos rfl]
        · rw [qup_j w, if_neg w]
      have e2 : I2 123 j = if j = z then x else I 123 j := by
        rw [hI2]
        by_cases w : j = z
        · subst w; rw [qup_at, if_pos rfl]
        · rw [qup_j w, if_neg w, qup_o (by decide), (cf 123 (by omega) (by omega)).1]
      rw [e1, e2]
      by_cases w : j = z
      · rw [if_pos w, if_pos w]
      · rw [if_neg w, if_neg w]
        exact x3 j hj (by rw [hz]; exact (nI_ltI (by omega) (by omega)).mpr (by omega))
  · have n1 : nI z = 100 := by rw [show z = 100 by omega]; rfl
    rw [if_neg q1] at hv hI1
    rw [if_pos n1] at hv2 hI2
    exact ⟨idn hI1 hI2, hv.trans hv2.symm⟩
theorem xTX.tx {I : qI} {n bl : Nat} (h : xTX I) (hx : qTx I (I 88) n bl) : qTx I (I 123) n bl := by
  obtain ⟨a1, a2, a3, a4⟩ := hx
  have e : ∀ j, j < n → I 88 j = I 123 j := fun j hj => h.2.2 j (by omega) (by rw [a1]; exact (nI_ltI (by omega) (by omega)).mpr hj)
  exact ⟨a1, a2, fun j hj => ⟨e j hj, by rw [← e j hj]; exact (a3 j hj).2⟩, a4⟩
theorem xINV.isl6 {S S1 S2 : qSh} {I I1 I2 : qI} {J J1 J2 : qJ} {T T2 : qI → Prop} {v v2 : Option Value} (g : xINV S I J) (h6 : I 0 7 = 6) (pK : v = some (.int (-4)) ∧ cU I I1 J J1) (hK : KQ0 S I J T v S1 I1 J1) (pR : xRi I1 v2 I2) (hr : rIs I1 I2 J1 J2) (hV : RQ0 S1 I1 J1 T2 v2 S2 I2 J2) : xINV S2 I2 J2 ∧ v = v2 := by
  have cf := hK.2.2.1
  have rf := hV.2.2.1
  have tie := g.2.2.2
  obtain ⟨hv, u⟩ := pK
  obtain ⟨x1, x2, x3⟩ := tie.2.2.2.2.2
  have c114 := (cf 114 (by omega) (by omega)).1
  rcases pR with ⟨-, hv2, r17, r11, r123⟩ | ⟨g', z, cz, g6, hg, -⟩
  · refine ⟨g.mk2 hK hV (tie.six (fun a ha => ⟨by rw [(rf a (by omega)).1, (u.1 a (by omega)).1], by rw [(rf a (by omega)).2, (u.1 a (by omega)).2]⟩) (by rw [(rf 0 (by omega)).1, u.2.1]) (fun j hj => by rw [hr.1 j hj, kp_far cf (by omega)]) (by rw [hr.2.1, (cf 139 (by omega) (by omega)).1]) (by rw [hr.2.2.1, c114]) ⟨by rw [hr.2.2.2.1.1, c114], by rw [hr.2.2.2.1.2, (cf 138 (by omega) (by omega)).1]⟩ (fun a a1 a2 => ⟨by rw [(hr.2.2.2.2 a a1 a2).1, (cf a (by omega) (by omega)).1], by rw [(hr.2.2.2.2 a a1 a2).2, (cf a (by omega) (by omega)).2]⟩) ?_), hv.trans hv2.symm⟩
    exact tie.2.2.2.2.2.fr (by rw [(rf 0 (by omega)).1, (u.1 0 (by omega)).1]) (by rw [(rf 87 (by omega)).1, (u.1 87 (by omega)).1]) (by rw [(rf 88 (by omega)).1, (u.1 88 (by omega)).1]) (by rw [r17, c114]) (by rw [r11, c114]) (by rw [r123, (cf 123 (by omega) (by omega)).1])
  · exfalso
    rw [c114, ← x1, h6] at hg
    have := (nI_eq (by omega) (by omega)).mp (show nI 6 = nI g' from hg)
    omega
/-- an attempt's frame -/
theorem xINV.isl0 {S S1 S2 : qSh} {I I1 I2 : qI} {J J1 J2 : qJ} {T T2 : qI → Prop} {v v2 : Option Value} (g : xINV S I J) (hJ : J1 = J) (hc : cIs I I1) (hK : KQ0 S I J T v S1 I1 J1) (hr : rIs I1 I2 J1 J2) (hV : RQ0 S1 I1 J1 T2 v2 S2 I2 J2) (h07 : I2 0 7 = I2 114 17) (h11 : I2 114 11 = 0) : xINV S2 I2 J2 := by
  have cf := hK.2.2.1
  have rf := hV.2.2.1
  have tie := g.2.2.2
  subst hJ
  have c114 := (cf 114 (by omega) (by omega)).1
  have y1 : I2 87 1 = 0 := by rw [(rf 87 (by omega)).1]; exact hc.2.2
  refine g.mk2 hK hV (tie.six (fun a ha => ⟨by rw [(rf a (by omega)).1, hc.1 a (by omega)], by rw [(rf a (by omega)).2]⟩) (by rw [(rf 0 (by omega)).1, hc.2.1]) (fun j hj => by rw [hr.1 j hj, kp_far cf (by omega)]) (by rw [hr.2.1, (cf 139 (by omega) (by omega)).1]) (by rw [hr.2.2.1, c114]) ⟨by rw [hr.2.2.2.1.1, c114], by rw [hr.2.2.2.1.2, (cf 138 (by omega) (by omega)).1]⟩ (fun a a1 a2 => ⟨by rw [(hr.2.2.2.2 a a1 a2).1, (cf a (by omega) (by omega)).1], by rw [(hr.2.2.2.2 a a1 a2).2]⟩) ⟨h07, by rw [y1, h11], fun j hj hk => ?_⟩)
  rw [y1] at hk
  exact absurd hk (nlt0 (by omega))
theorem xINV.isl {S S1 S2 : qSh} {I I1 I2 : qI} {J J1 J2 : qJ} {T T2 : qI → Prop} {v v2 : Option Value} {n : Nat} (g : xINV S I J) (h6 : ¬ I 0 7 = 6) (hn : I 87 1 = nI n) (n100 : n ≤ 100) (hJ : J1 = J) (hc : cIs I I1) (hK : KQ0 S I J T v S1 I1 J1) (pR : xRi I1 v2 I2) (hr : rIs I1 I2 J1 J2) (hV : RQ0 S1 I1 J1 T2 v2 S2 I2 J2) (hk : (rok (rread (I 123) n) n = 0 ∧ v = some (.int (-10 - nI (rread (I 123) n).1.1)) ∧ I1 0 7 = I 0 7) ∨ (¬ rok (rread (I 123) n) n = 0 ∧ (∃ g, g < 6 ∧ I 0 7 = nI g ∧ v = some (.int (nI g))) ∧ I1 0 7 = I 0 7 + 1)) : xINV S2 I2 J2 ∧ v = v2 := by
  have cf := hK.2.2.1
  have rf := hV.2.2.1
  obtain ⟨x1, x2, x3⟩ := g.2.2.2.2.2.2.2.2
  have c114 := (cf 114 (by omega) (by omega)).1
  have e123 : I1 123 = I 123 := (cf 123 (by omega) (by omega)).1
  rcases pR with ⟨h17, -⟩ | ⟨g', z, cz, g6, hg, z100, hz, hf, h11, hR⟩
  · rw [c114, ← x1] at h17
    exact absurd h17 h6
  · have ez : z = n := (nI_eq (by omega) (by omega)).mp (hz.symm.trans (by rw [c114, ← x2]; exact hn))
    subst ez
    have hg0 : I 0 7 = nI g' := by rw [x1, ← c114]; exact hg
    have e0 : I2 0 7 = I1 0 7 := by rw [(rf 0 (by omega)).1]
    rw [e123] at hf hR
    obtain ⟨p1, p2⟩ := x_parse (f := I 123) (n := z) hf z100 (h := g') (cz := cz) (B := I1)
    rcases hR with ⟨c, hv2, e17⟩ | ⟨c, hv2, e17⟩
    · rcases hk with ⟨q, -, -⟩ | ⟨-, ⟨g1, g16, hg1, hv⟩, e7⟩
      · exact absurd q (p2.mp c)
      · have eg : g1 = g' := (nI_eq (by omega) (by omega)).mp (hg1.symm.trans hg0)
        subst eg
        exact ⟨g.isl0 hJ hc hK hr hV (by rw [e0, e7, hg0, e17, q1k]) h11, hv.trans hv2.symm⟩
    · rcases hk with ⟨-, hv, e7⟩ | ⟨q, -, -⟩
      · exact ⟨g.isl0 hJ hc hK hr hV (by rw [e0, e7, hg0, e17]) h11, by rw [hv, hv2, p1]⟩
      · exact absurd (p2.mpr q) c
theorem x_count {I I1 : qI} {J J1 : qJ} {x : Int32} (tie : xTie I J) (cf : cFar I I1 J J1) : ca_count I x = ga_Md_count I1 J1 x := by
  obtain ⟨⟨a1, a2, a3, a4, a5, a6, -, -⟩, -, -, -, ⟨n1, -, -⟩, ⟨x1, x2, -⟩⟩ := tie
  have c := (cf 114 (by omega) (by omega)).1
  have b1 : I 114 0 = I 6 1 := a1
  have b2 : I 114 8 = I 6 3 := a2
  have b4 : I 114 27 = I 9 3 := a4
  have b5 : I 114 31 = I 13 3 := a5
  have b6 : I 114 34 = I 17 3 := a6
  unfold ca_count ga_Md_count
  rw [c, b1, b2, b4, b5, b6, ← x1, ← x2, ← n1]
