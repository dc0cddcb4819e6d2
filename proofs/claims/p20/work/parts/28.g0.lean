/-! what the reference keeps, as one row: where each of its 124 numbers lies -/
def kpa (j : Nat) : Nat × Nat :=
  if j < 6 then (115, j - 0) else
  if j < 12 then (116, j - 6) else
  if j < 18 then (117, j - 12) else
  if j < 24 then (118, j - 18) else
  if j < 30 then (119, j - 24) else
  if j < 36 then (120, j - 30) else
  if j < 42 then (122, j - 36) else
  if j < 66 then (121, j - 42) else
  if j < 71 then (131, j - 66) else
  if j < 76 then (132, j - 71) else
  if j < 81 then (133, j - 76) else
  if j < 91 then (134, j - 81) else
  if j < 101 then (135, j - 91) else
  if j < 109 then (136, j - 101) else
  if j < 117 then (137, j - 109) else
  if j = 117 then (114, 0) else
  if j = 118 then (114, 8) else
  if j = 119 then (114, 10) else
  if j = 120 then (114, 27) else
  if j = 121 then (114, 31) else
  if j = 122 then (114, 34) else
  (114, 18)
def kp (I : qI) (j : Nat) : Int32 := I (kpa j).1 (kpa j).2
theorem kpa_inj : ∀ j, j < 124 → ∀ n, n < 124 → kpa j = kpa n → j = n := by decide +kernel
theorem kp_up {I : qI} {a i n j : Nat} {x : Int32} (h : kpa n = (a, i)) (hj : j < 124) (hn : n < 124) : kp (qup I a i x) j = if j = n then x else kp I j := by
  unfold kp
  by_cases e : j = n
  · subst e; rw [if_pos rfl, h]; exact qup_at
  · rw [if_neg e]
    refine qup_ne (fun q => e (kpa_inj j hj n hn ?_))
    rw [h]
    exact Prod.ext q.1 q.2
theorem kpa_115 {k : Nat} (h : k < 6) : kpa (0 + k) = (115, k) := by
  unfold kpa
  rw [if_pos (show 0 + k < 6 by omega), show 0 + k - 0 = k by omega]
theorem kpa_116 {k : Nat} (h : k < 6) : kpa (6 + k) = (116, k) := by
  unfold kpa
  rw [if_neg (show ¬ 6 + k < 6 by omega)]
  rw [if_pos (show 6 + k < 12 by omega), show 6 + k - 6 = k by omega]
theorem kpa_117 {k : Nat} (h : k < 6) : kpa (12 + k) = (117, k) := by
  unfold kpa
  rw [if_neg (show ¬ 12 + k < 6 by omega)]
  rw [if_neg (show ¬ 12 + k < 12 by omega)]
  rw [if_pos (show 12 + k < 18 by omega), show 12 + k - 12 = k by omega]
theorem kpa_118 {k : Nat} (h : k < 6) : kpa (18 + k) = (118, k) := by
  unfold kpa
  rw [if_neg (show ¬ 18 + k < 6 by omega)]
  rw [if_neg (show ¬ 18 + k < 12 by omega)]
  rw [if_neg (show ¬ 18 + k < 18 by omega)]
  rw [if_pos (show 18 + k < 24 by omega), show 18 + k - 18 = k by omega]
theorem kpa_119 {k : Nat} (h : k < 6) : kpa (24 + k) = (119, k) := by
  unfold kpa
  rw [if_neg (show ¬ 24 + k < 6 by omega)]
  rw [if_neg (show ¬ 24 + k < 12 by omega)]
  rw [if_neg (show ¬ 24 + k < 18 by omega)]
  rw [if_neg (show ¬ 24 + k < 24 by omega)]
  rw [if_pos (show 24 + k < 30 by omega), show 24 + k - 24 = k by omega]
theorem kpa_120 {k : Nat} (h : k < 6) : kpa (30 + k) = (120, k) := by
  unfold kpa
  rw [if_neg (show ¬ 30 + k < 6 by omega)]
  rw [if_neg (show ¬ 30 + k < 12 by omega)]
  rw [if_neg (show ¬ 30 + k < 18 by omega)]
  rw [if_neg (show ¬ 30 + k < 24 by omega)]
  rw [if_neg (show ¬ 30 + k < 30 by omega)]
  rw [if_pos (show 30 + k < 36 by omega), show 30 + k - 30 = k by omega]
theorem kpa_122 {k : Nat} (h : k < 6) : kpa (36 + k) = (122, k) := by
  unfold kpa
  rw [if_neg (show ¬ 36 + k < 6 by omega)]
  rw [if_neg (show ¬ 36 + k < 12 by omega)]
  rw [if_neg (show ¬ 36 + k < 18 by omega)]
  rw [if_neg (show ¬ 36 + k < 24 by omega)]
  rw [if_neg (show ¬ 36 + k < 30 by omega)]
  rw [if_neg (show ¬ 36 + k < 36 by omega)]
  rw [if_pos (show 36 + k < 42 by omega), show 36 + k - 36 = k by omega]
theorem kpa_121 {k : Nat} (h : k < 24) : kpa (42 + k) = (121, k) := by
  unfold kpa
  rw [if_neg (show ¬ 42 + k < 6 by omega)]
  rw [if_neg (show ¬ 42 + k < 12 by omega)]
  rw [if_neg (show ¬ 42 + k < 18 by omega)]
  rw [if_neg (show ¬ 42 + k < 24 by omega)]
  rw [if_neg (show ¬ 42 + k < 30 by omega)]
  rw [if_neg (show ¬ 42 + k < 36 by omega)]
  rw [if_neg (show ¬ 42 + k < 42 by omega)]
  rw [if_pos (show 42 + k < 66 by omega), show 42 + k - 42 = k by omega]
theorem kpa_131 {k : Nat} (h : k < 5) : kpa (66 + k) = (131, k) := by
  unfold kpa
  rw [if_neg (show ¬ 66 + k < 6 by omega)]
  rw [if_neg (show ¬ 66 + k < 12 by omega)]
  rw [if_neg (show ¬ 66 + k < 18 by omega)]
  rw [if_neg (show ¬ 66 + k < 24 by omega)]
  rw [if_neg (show ¬ 66 + k < 30 by omega)]
  rw [if_neg (show ¬ 66 + k < 36 by omega)]
  rw [if_neg (show ¬ 66 + k < 42 by omega)]
  rw [if_neg (show ¬ 66 + k < 66 by omega)]
  rw [if_pos (show 66 + k < 71 by omega), show 66 + k - 66 = k by omega]
theorem kpa_132 {k : Nat} (h : k < 5) : kpa (71 + k) = (132, k) := by
  unfold kpa
  rw [if_neg (show ¬ 71 + k < 6 by omega)]
  rw [if_neg (show ¬ 71 + k < 12 by omega)]
  rw [if_neg (show ¬ 71 + k < 18 by omega)]
  rw [if_neg (show ¬ 71 + k < 24 by omega)]
  rw [if_neg (show ¬ 71 + k < 30 by omega)]
  rw [if_neg (show ¬ 71 + k < 36 by omega)]
  rw [if_neg (show ¬ 71 + k < 42 by omega)]
  rw [if_neg (show ¬ 71 + k < 66 by omega)]
  rw [if_neg (show ¬ 71 + k < 71 by omega)]
  rw [if_pos (show 71 + k < 76 by omega), show 71 + k - 71 = k by omega]
theorem kpa_133 {k : Nat} (h : k < 5) : kpa (76 + k) = (133, k) := by
  unfold kpa
  rw [if_neg (show ¬ 76 + k < 6 by omega)]
  rw [if_neg (show ¬ 76 + k < 12 by omega)]
  rw [if_neg (show ¬ 76 + k < 18 by omega)]
  rw [if_neg (show ¬ 76 + k < 24 by omega)]
  rw [if_neg (show ¬ 76 + k < 30 by omega)]
  rw [if_neg (show ¬ 76 + k < 36 by omega)]
  rw [if_neg (show ¬ 76 + k < 42 by omega)]
  rw [if_neg (show ¬ 76 + k < 66 by omega)]
  rw [if_neg (show ¬ 76 + k < 71 by omega)]
  rw [if_neg (show ¬ 76 + k < 76 by omega)]
  rw [if_pos (show 76 + k < 81 by omega), show 76 + k - 76 = k by omega]
theorem kpa_134 {k : Nat} (h : k < 10) : kpa (81 + k) = (134, k) := by
  unfold kpa
  rw [if_neg (show ¬ 81 + k < 6 by omega)]
  rw [if_neg (show ¬ 81 + k < 12 by omega)]
  rw [if_neg (show ¬ 81 + k < 18 by omega)]
  rw [if_neg (show ¬ 81 + k < 24 by omega)]
  rw [if_neg (show ¬ 81 + k < 30 by omega)]
  rw [if_neg (show ¬ 81 + k < 36 by omega)]
  rw [if_neg (show ¬ 81 + k < 42 by omega)]
  rw [if_neg (show ¬ 81 + k < 66 by omega)]
  rw [if_neg (show ¬ 81 + k < 71 by omega)]
  rw [if_neg (show ¬ 81 + k < 76 by omega)]
  rw [if_neg (show ¬ 81 + k < 81 by omega)]
  rw [if_pos (show 81 + k < 91 by omega), show 81 + k - 81 = k by omega]
theorem kpa_135 {k : Nat} (h : k < 10) : kpa (91 + k) = (135, k) := by
  unfold kpa
  rw [if_neg (show ¬ 91 + k < 6 by omega)]
  rw [if_neg (show ¬ 91 + k < 12 by omega)]
  rw [if_neg (show ¬ 91 + k < 18 by omega)]
  rw [if_neg (show ¬ 91 + k < 24 by omega)]
  rw [if_neg (show ¬ 91 + k < 30 by omega)]
  rw [if_neg (show ¬ 91 + k < 36 by omega)]
  rw [if_neg (show ¬ 91 + k < 42 by omega)]
  rw [if_neg (show ¬ 91 + k < 66 by omega)]
  rw [if_neg (show ¬ 91 + k < 71 by omega)]
  rw [if_neg (show ¬ 91 + k < 76 by omega)]
  rw [if_neg (show ¬ 91 + k < 81 by omega)]
  rw [if_neg (show ¬ 91 + k < 91 by omega)]
  rw [if_pos (show 91 + k < 101 by omega), show 91 + k - 91 = k by omega]
theorem kpa_136 {k : Nat} (h : k < 8) : kpa (101 + k) = (136, k) := by
  unfold kpa
  rw [if_neg (show ¬ 101 + k < 6 by omega)]
  rw [if_neg (show ¬ 101 + k < 12 by omega)]
  rw [if_neg (show ¬ 101 + k < 18 by omega)]
  rw [if_neg (show ¬ 101 + k < 24 by omega)]
  rw [if_neg (show ¬ 101 + k < 30 by omega)]
  rw [if_neg (show ¬ 101 + k < 36 by omega)]
  rw [if_neg (show ¬ 101 + k < 42 by omega)]
  rw [if_neg (show ¬ 101 + k < 66 by omega)]
  rw [if_neg (show ¬ 101 + k < 71 by omega)]
  rw [if_neg (show ¬ 101 + k < 76 by omega)]
  rw [if_neg (show ¬ 101 + k < 81 by omega)]
  rw [if_neg (show ¬ 101 + k < 91 by omega)]
  rw [if_neg (show ¬ 101 + k < 101 by omega)]
  rw [if_pos (show 101 + k < 109 by omega), show 101 + k - 101 = k by omega]
theorem kpa_137 {k : Nat} (h : k < 8) : kpa (109 + k) = (137, k) := by
  unfold kpa
  rw [if_neg (show ¬ 109 + k < 6 by omega)]
  rw [if_neg (show ¬ 109 + k < 12 by omega)]
  rw [if_neg (show ¬ 109 + k < 18 by omega)]
  rw [if_neg (show ¬ 109 + k < 24 by omega)]
  rw [if_neg (show ¬ 109 + k < 30 by omega)]
  rw [if_neg (show ¬ 109 + k < 36 by omega)]
  rw [if_neg (show ¬ 109 + k < 42 by omega)]
  rw [if_neg (show ¬ 109 + k < 66 by omega)]
  rw [if_neg (show ¬ 109 + k < 71 by omega)]
  rw [if_neg (show ¬ 109 + k < 76 by omega)]
  rw [if_neg (show ¬ 109 + k < 81 by omega)]
  rw [if_neg (show ¬ 109 + k < 91 by omega)]
  rw [if_neg (show ¬ 109 + k < 101 by omega)]
  rw [if_neg (show ¬ 109 + k < 109 by omega)]
  rw [if_pos (show 109 + k < 117 by omega), show 109 + k - 109 = k by omega]
theorem kpa_f0 : kpa 117 = (114, 0) := by decide
theorem kpa_f8 : kpa 118 = (114, 8) := by decide
theorem kpa_f10 : kpa 119 = (114, 10) := by decide
theorem kpa_f27 : kpa 120 = (114, 27) := by decide
theorem kpa_f31 : kpa 121 = (114, 31) := by decide
theorem kpa_f34 : kpa 122 = (114, 34) := by decide
theorem kpa_f18 : kpa 123 = (114, 18) := by decide
theorem kp_115 {I : qI} {k : Nat} (h : k < 6) : kp I (0 + k) = I 115 k := by unfold kp; rw [kpa_115 h]
theorem kp_116 {I : qI} {k : Nat} (h : k < 6) : kp I (6 + k) = I 116 k := by unfold kp; rw [kpa_116 h]
theorem kp_117 {I : qI} {k : Nat} (h : k < 6) : kp I (12 + k) = I 117 k := by unfold kp; rw [kpa_117 h]
theorem kp_118 {I : qI} {k : Nat} (h : k < 6) : kp I (18 + k) = I 118 k := by unfold kp; rw [kpa_118 h]
theorem kp_119 {I : qI} {k : Nat} (h : k < 6) : kp I (24 + k) = I 119 k := by unfold kp; rw [kpa_119 h]
theorem kp_120 {I : qI} {k : Nat} (h : k < 6) : kp I (30 + k) = I 120 k := by unfold kp; rw [kpa_120 h]
theorem kp_122 {I : qI} {k : Nat} (h : k < 6) : kp I (36 + k) = I 122 k := by unfold kp; rw [kpa_122 h]
theorem kp_121 {I : qI} {k : Nat} (h : k < 24) : kp I (42 + k) = I 121 k := by unfold kp; rw [kpa_121 h]
theorem kp_131 {I : qI} {k : Nat} (h : k < 5) : kp I (66 + k) = I 131 k := by unfold kp; rw [kpa_131 h]
theorem kp_132 {I : qI} {k : Nat} (h : k < 5) : kp I (71 + k) = I 132 k := by unfold kp; rw [kpa_132 h]
theorem kp_133 {I : qI} {k : Nat} (h : k < 5) : kp I (76 + k) = I 133 k := by unfold kp; rw [kpa_133 h]
theorem kp_134 {I : qI} {k : Nat} (h : k < 10) : kp I (81 + k) = I 134 k := by unfold kp; rw [kpa_134 h]
theorem kp_135 {I : qI} {k : Nat} (h : k < 10) : kp I (91 + k) = I 135 k := by unfold kp; rw [kpa_135 h]
theorem kp_136 {I : qI} {k : Nat} (h : k < 8) : kp I (101 + k) = I 136 k := by unfold kp; rw [kpa_136 h]
theorem kp_137 {I : qI} {k : Nat} (h : k < 8) : kp I (109 + k) = I 137 k := by unfold kp; rw [kpa_137 h]
theorem kp_f0 {I : qI} : kp I 117 = I 114 0 := rfl
theorem kp_f8 {I : qI} : kp I 118 = I 114 8 := rfl
theorem kp_f10 {I : qI} : kp I 119 = I 114 10 := rfl
theorem kp_f27 {I : qI} : kp I 120 = I 114 27 := rfl
theorem kp_f31 {I : qI} : kp I 121 = I 114 31 := rfl
theorem kp_f34 {I : qI} : kp I 122 = I 114 34 := rfl
theorem kp_f18 {I : qI} : kp I 123 = I 114 18 := rfl
/-- the cells that hold the row -/
def kpc (a : Nat) : Prop := (114 ≤ a ∧ a ≤ 122) ∨ (131 ≤ a ∧ a ≤ 137)
theorem kpa_c {j : Nat} (h : j < 124) : kpc (kpa j).1 := by
  have : ∀ j, j < 124 → (114 ≤ (kpa j).1 ∧ (kpa j).1 ≤ 122) ∨ (131 ≤ (kpa j).1 ∧ (kpa j).1 ≤ 137) := by decide +kernel
  exact this j h
theorem kp_only {P : Nat → Prop} {I I' : qI} (h : qOnly P I I') (hP : ∀ a, P a → ¬ kpc a) {j : Nat} (hj : j < 124) : kp I' j = kp I j := by
  unfold kp
  rw [h _ (fun q => hP _ q (kpa_c hj))]
/-- a row being filled with what is kept -/
def qFill (o : Nat) (I : qI) (D : Nat → Prop) (I2 : qI) : Prop := qOnly (fun a => a = o) I I2 ∧ ∀ j, D j → I2 o j = kp I j
theorem qFill.st {o n : Nat} {I I2 : qI} {D : Nat → Prop} {x : Int32} (h : qFill o I D I2) (hx : x = kp I n) : qFill o I (fun j => D j ∨ j = n) (qup I2 o n x) := by
  refine ⟨h.1.up rfl, fun j hj => ?_⟩
  by_cases e : j = n
  · subst e; rw [qup_at, hx]
  · rw [qup_j e]; exact h.2 j (hj.resolve_right e)
theorem qFill.mo {o : Nat} {I I2 : qI} {D D' : Nat → Prop} (h : qFill o I D I2) (hd : ∀ j, D' j → D j) : qFill o I D' I2 := ⟨h.1, fun j hj => h.2 j (hd j hj)⟩
/-- what was kept being had again -/
def qBack (o : Nat) (I : qI) (D : Nat → Prop) (I2 : qI) : Prop := qOnly kpc I I2 ∧ (∀ j, j ≠ 0 → j ≠ 8 → j ≠ 10 → j ≠ 27 → j ≠ 31 → j ≠ 34 → j ≠ 18 → I2 114 j = I 114 j) ∧ ∀ j, j < 124 → D j → kp I2 j = I o j
theorem qBack.st {o n a i : Nat} {I I2 : qI} {D : Nat → Prop} {x : Int32} (h : qBack o I D I2) (hn : n < 124) (ha : kpa n = (a, i)) (hx : x = I o n) (h4 : a ≠ 114 ∨ (i = 0 ∨ i = 8 ∨ i = 10 ∨ i = 27 ∨ i = 31 ∨ i = 34 ∨ i = 18)) : qBack o I (fun j => D j ∨ j = n) (qup I2 a i x) := by
  have hc := kpa_c hn
  rw [ha] at hc
  refine ⟨h.1.up hc, fun j j0 j8 j10 j27 j31 j34 j18 => ?_, fun j hj hd => ?_⟩
  · rw [qup_ne (by omega)]; exact h.2.1 j j0 j8 j10 j27 j31 j34 j18
  · rw [kp_up ha hj hn]
    by_cases e : j = n
    · subst e; rw [if_pos rfl, hx]
    · rw [if_neg e]; exact h.2.2 j hj (hd.resolve_right e)
theorem qBack.mo {o : Nat} {I I2 : qI} {D D' : Nat → Prop} (h : qBack o I D I2) (hd : ∀ j, D' j → D j) : qBack o I D' I2 := ⟨h.1, h.2.1, fun j hj hj' => h.2.2 j hj (hd j hj')⟩
theorem qBack.at {o : Nat} {I I2 : qI} {D : Nat → Prop} (h : qBack o I D I2) (ho : ¬ kpc o) : I2 o = I o := h.1 o ho
theorem qad {c : Int32} {k : Nat} (m : Nat) (hc : c = nI m) (h : m + k < 2 ^ 31) : (c + nI k).toNatClampNeg = m + k := by
  rw [hc, nI_add]; exact qcl h
section G0
variable {E : qE} {S : qSh} {I : qI} {J : qJ}
theorem c_Md_keep {o : Nat} (hM : isMd S) (hA : qAr S o 11 125) (ho : ¬ kpc o) : qMet E y_Md_keep b_Md_keep 3 none 0 0 0 [.ref (qb E + 114), .ref (qb E + o)] S I J (fun v S' I' J' => v = none ∧ S = S' ∧ (qOnly (fun a => a = o) I I' ∧ ∀ j, j < 124 → I' o j = kp I j) ∧ J = J') := by
  have f1 := hM.r 0 rfl
  have g1 := hM.a 0 rfl
  have f2 := hM.r 1 rfl
  have g2 := hM.a 1 rfl
  have f3 := hM.r 2 rfl
  have g3 := hM.a 2 rfl
  have f4 := hM.r 3 rfl
  have g4 := hM.a 3 rfl
  have f5 := hM.r 4 rfl
  have g5 := hM.a 4 rfl
  have f6 := hM.r 5 rfl
  have g6 := hM.a 5 rfl
  have f7 := hM.r 6 rfl
  have g7 := hM.a 6 rfl
  have f9 := hM.r 7 rfl
  have g9 := hM.a 7 rfl
  have f28 := hM.r 16 rfl
  have g28 := hM.a 16 rfl
  have f29 := hM.r 17 rfl
  have g29 := hM.a 17 rfl
  have f30 := hM.r 18 rfl
  have g30 := hM.a 18 rfl
  have f32 := hM.r 19 rfl
  have g32 := hM.a 19 rfl
  have f33 := hM.r 20 rfl
  have g33 := hM.a 20 rfl
  have f35 := hM.r 21 rfl
  have g35 := hM.a 21 rfl
  have f36 := hM.r 22 rfl
  have g36 := hM.a 22 rfl
  have hT := hM.1
  refine qMet.of (L := [some (.ref (qb E + 114)), some (.ref (qb E + o)), none]) (by decide +kernel) (Nat.le_of_ble_eq_true rfl) rfl ?_
  refine r_iconst (pc := 0) (v := 0) d_Md_keep_0 rfl ?_
  refine sti_n_3_2 (pc := 1) d_Md_keep_1 rfl ?_
  rw [q0]
  have key4 : ∀ k, k ≤ 8 → ∀ I2, qFill o I (fun j => j < 101 ∨ (101 ≤ j ∧ j < 101 + k) ∨ (109 ≤ j ∧ j < 109 + k)) I2 → qW E y_Md_keep b_Md_keep none 0 0 0 (fun v S' I' J' => v = none ∧ S = S' ∧ (qOnly (fun a => a = o) I I' ∧ ∀ j, j < 124 → I' o j = kp I j) ∧ J = J') 0 0 210 [some (.ref (qb E + 114)), some (.ref (qb E + o)), some (.int (nI k))] [] S I2 J := by
    refine qfor 8 ?_ ?_
    · intro I2 h2
      refine ldi_n_3_2 (pc := 210) d_Md_keep_210 ?_
      refine r_bipush (pc := 211) (v := 8) d_Md_keep_211 rfl ?_
      refine r_icmp_ge (pc := 213) (tgt := 246) d_Md_keep_213 (by decide) (fun c => ?_) (fun c => ?_)
      · have s0 := h2
        refine lda_n_3_1 (pc := 246) d_Md_keep_246 ?_
        refine r_bipush (pc := 247) (v := 117) d_Md_keep_247 rfl ?_
        refine lda_n_3_0 (pc := 249) d_Md_keep_249 ?_
        refine g_Md_117 (pc := 250) rfl d_Md_keep_250 (by assumption) ?_
        refine r_iast (pc := 253) d_Md_keep_253 (by assumption) (by first | exact vp_in_nI (by omega) (by omega) | (unfold vp_in; decide) | exact vp_add 6 rfl (by omega) (by omega) | exact vp_add 12 rfl (by omega) (by omega) | exact vp_add 18 rfl (by omega) (by omega) | exact vp_add 24 rfl (by omega) (by omega) | exact vp_add 30 rfl (by omega) (by omega) | exact vp_add 36 rfl (by omega) (by omega) | exact vp_add 42 rfl (by omega) (by omega) | exact vp_add 66 rfl (by omega) (by omega) | exact vp_add 71 rfl (by omega) (by omega) | exact vp_add 76 rfl (by omega) (by omega) | exact vp_add 81 rfl (by omega) (by omega) | exact vp_add 91 rfl (by omega) (by omega) | exact vp_add 101 rfl (by omega) (by omega) | exact vp_add 109 rfl (by omega) (by omega)) ?_
        refine r_nmI (fun M1 hM1 => ?_)
        have s1 := s0.st (n := 117) (x := I2 114 0) (congrFun (s0.1 114 (by unfold kpc at ho; omega)) 0)
        change qFill _ _ _ (qup I2 o 117 _) at s1
        rw [show qup I2 o 117 (I2 114 0) = M1 from hM1.symm] at s1
        refine lda_n_3_1 (pc := 254) d_Md_keep_254 ?_
        refine r_bipush (pc := 255) (v := 118) d_Md_keep_255 rfl ?_
        refine lda_n_3_0 (pc := 257) d_Md_keep_257 ?_
        refine g_Md_124 (pc := 258) rfl d_Md_keep_258 (by assumption) ?_
        refine r_iast (pc := 261) d_Md_keep_261 (by assumption) (by first | exact vp_in_nI (by omega) (by omega) | (unfold vp_in; decide) | exact vp_add 6 rfl (by omega) (by omega) | exact vp_add 12 rfl (by omega) (by omega) | exact vp_add 18 rfl (by omega) (by omega) | exact vp_add 24 rfl (by omega) (by omega) | exact vp_add 30 rfl (by omega) (by omega) | exact vp_add 36 rfl (by omega) (by omega) | exact vp_add 42 rfl (by omega) (by omega) | exact vp_add 66 rfl (by omega) (by omega) | exact vp_add 71 rfl (by omega) (by omega) | exact vp_add 76 rfl (by omega) (by omega) | exact vp_add 81 rfl (by omega) (by omega) | exact vp_add 91 rfl (by omega) (by omega) | exact vp_add 101 rfl (by omega) (by omega) | exact vp_add 109 rfl (by omega) (by omega)) ?_
        refine r_nmI (fun M2 hM2 => ?_)
        have s2 := s1.st (n := 118) (x := M1 114 8) (congrFun (s1.1 114 (by unfold kpc at ho; omega)) 8)
        change qFill _ _ _ (qup M1 o 118 _) at s2
        rw [show qup M1 o 118 (M1 114 8) = M2 from hM2.symm] at s2
        refine lda_n_3_1 (pc := 262) d_Md_keep_262 ?_
        refine r_bipush (pc := 263) (v := 119) d_Md_keep_263 rfl ?_
        refine lda_n_3_0 (pc := 265) d_Md_keep_265 ?_
        refine g_Md_135 (pc := 266) rfl d_Md_keep_266 (by assumption) ?_
        refine r_iast (pc := 269) d_Md_keep_269 (by assumption) (by first | exact vp_in_nI (by omega) (by omega) | (unfold vp_in; decide) | exact vp_add 6 rfl (by omega) (by omega) | exact vp_add 12 rfl (by omega) (by omega) | exact vp_add 18 rfl (by omega) (by omega) | exact vp_add 24 rfl (by omega) (by omega) | exact vp_add 30 rfl (by omega) (by omega) | exact vp_add 36 rfl (by omega) (by omega) | exact vp_add 42 rfl (by omega) (by omega) | exact vp_add 66 rfl (by omega) (by omega) | exact vp_add 71 rfl (by omega) (by omega) | exact vp_add 76 rfl (by omega) (by omega) | exact vp_add 81 rfl (by omega) (by omega) | exact vp_add 91 rfl (by omega) (by omega) | exact vp_add 101 rfl (by omega) (by omega) | exact vp_add 109 rfl (by omega) (by omega)) ?_
        refine r_nmI (fun M3 hM3 => ?_)
        have s3 := s2.st (n := 119) (x := M2 114 10) (congrFun (s2.1 114 (by unfold kpc at ho; omega)) 10)
        change qFill _ _ _ (qup M2 o 119 _) at s3
        rw [show qup M2 o 119 (M2 114 10) = M3 from hM3.symm] at s3
        refine lda_n_3_1 (pc := 270) d_Md_keep_270 ?_
        refine r_bipush (pc := 271) (v := 120) d_Md_keep_271 rfl ?_
        refine lda_n_3_0 (pc := 273) d_Md_keep_273 ?_
        refine g_Md_314 (pc := 274) rfl d_Md_keep_274 (by assumption) ?_
        refine r_iast (pc := 277) d_Md_keep_277 (by assumption) (by first | exact vp_in_nI (by omega) (by omega) | (unfold vp_in; decide) | exact vp_add 6 rfl (by omega) (by omega) | exact vp_add 12 rfl (by omega) (by omega) | exact vp_add 18 rfl (by omega) (by omega) | exact vp_add 24 rfl (by omega) (by omega) | exact vp_add 30 rfl (by omega) (by omega) | exact vp_add 36 rfl (by omega) (by omega) | exact vp_add 42 rfl (by omega) (by omega) | exact vp_add 66 rfl (by omega) (by omega) | exact vp_add 71 rfl (by omega) (by omega) | exact vp_add 76 rfl (by omega) (by omega) | exact vp_add 81 rfl (by omega) (by omega) | exact vp_add 91 rfl (by omega) (by omega) | exact vp_add 101 rfl (by omega) (by omega) | exact vp_add 109 rfl (by omega) (by omega)) ?_
        refine r_nmI (fun M4 hM4 => ?_)
        have s4 := s3.st (n := 120) (x := M3 114 27) (congrFun (s3.1 114 (by unfold kpc at ho; omega)) 27)
        change qFill _ _ _ (qup M3 o 120 _) at s4
        rw [show qup M3 o 120 (M3 114 27) = M4 from hM4.symm] at s4
        refine lda_n_3_1 (pc := 278) d_Md_keep_278 ?_
        refine r_bipush (pc := 279) (v := 121) d_Md_keep_279 rfl ?_
        refine lda_n_3_0 (pc := 281) d_Md_keep_281 ?_
        refine g_Md_333 (pc := 282) rfl d_Md_keep_282 (by assumption) ?_
        refine r_iast (pc := 285) d_Md_keep_285 (by assumption) (by first | exact vp_in_nI (by omega) (by omega) | (unfold vp_in; decide) | exact vp_add 6 rfl (by omega) (by omega) | exact vp_add 12 rfl (by omega) (by omega) | exact vp_add 18 rfl (by omega) (by omega) | exact vp_add 24 rfl (by omega) (by omega) | exact vp_add 30 rfl (by omega) (by omega) | exact vp_add 36 rfl (by omega) (by omega) | exact vp_add 42 rfl (by omega) (by omega) | exact vp_add 66 rfl (by omega) (by omega) | exact vp_add 71 rfl (by omega) (by omega) | exact vp_add 76 rfl (by omega) (by omega) | exact vp_add 81 rfl (by omega) (by omega) | exact vp_add 91 rfl (by omega) (by omega) | exact vp_add 101 rfl (by omega) (by omega) | exact vp_add 109 rfl (by omega) (by omega)) ?_
        refine r_nmI (fun M5 hM5 => ?_)
        have s5 := s4.st (n := 121) (x := M4 114 31) (congrFun (s4.1 114 (by unfold kpc at ho; omega)) 31)
        change qFill _ _ _ (qup M4 o 121 _) at s5
        rw [show qup M4 o 121 (M4 114 31) = M5 from hM5.symm] at s5
        refine lda_n_3_1 (pc := 286) d_Md_keep_286 ?_
        refine r_bipush (pc := 287) (v := 122) d_Md_keep_287 rfl ?_
        refine lda_n_3_0 (pc := 289) d_Md_keep_289 ?_
        refine g_Md_336 (pc := 290) rfl d_Md_keep_290 (by assumption) ?_
        refine r_iast (pc := 293) d_Md_keep_293 (by assumption) (by first | exact vp_in_nI (by omega) (by omega) | (unfold vp_in; decide) | exact vp_add 6 rfl (by omega) (by omega) | exact vp_add 12 rfl (by omega) (by omega) | exact vp_add 18 rfl (by omega) (by omega) | exact vp_add 24 rfl (by omega) (by omega) | exact vp_add 30 rfl (by omega) (by omega) | exact vp_add 36 rfl (by omega) (by omega) | exact vp_add 42 rfl (by omega) (by omega) | exact vp_add 66 rfl (by omega) (by omega) | exact vp_add 71 rfl (by omega) (by omega) | exact vp_add 76 rfl (by omega) (by omega) | exact vp_add 81 rfl (by omega) (by omega) | exact vp_add 91 rfl (by omega) (by omega) | exact vp_add 101 rfl (by omega) (by omega) | exact vp_add 109 rfl (by omega) (by omega)) ?_
        refine r_nmI (fun M6 hM6 => ?_)
        have s6 := s5.st (n := 122) (x := M5 114 34) (congrFun (s5.1 114 (by unfold kpc at ho; omega)) 34)
        change qFill _ _ _ (qup M5 o 122 _) at s6
        rw [show qup M5 o 122 (M5 114 34) = M6 from hM6.symm] at s6
        refine lda_n_3_1 (pc := 294) d_Md_keep_294 ?_
        refine r_bipush (pc := 295) (v := 123) d_Md_keep_295 rfl ?_
        refine lda_n_3_0 (pc := 297) d_Md_keep_297 ?_
        refine g_Md_113 (pc := 298) rfl d_Md_keep_298 (by assumption) ?_
        refine r_iast (pc := 301) d_Md_keep_301 (by assumption) (by first | exact vp_in_nI (by omega) (by omega) | (unfold vp_in; decide) | exact vp_add 6 rfl (by omega) (by omega) | exact vp_add 12 rfl (by omega) (by omega) | exact vp_add 18 rfl (by omega) (by omega) | exact vp_add 24 rfl (by omega) (by omega) | exact vp_add 30 rfl (by omega) (by omega) | exact vp_add 36 rfl (by omega) (by omega) | exact vp_add 42 rfl (by omega) (by omega) | exact vp_add 66 rfl (by omega) (by omega) | exact vp_add 71 rfl (by omega) (by omega) | exact vp_add 76 rfl (by omega) (by omega) | exact vp_add 81 rfl (by omega) (by omega) | exact vp_add 91 rfl (by omega) (by omega) | exact vp_add 101 rfl (by omega) (by omega) | exact vp_add 109 rfl (by omega) (by omega)) ?_
        refine r_nmI (fun M7 hM7 => ?_)
        have s7 := s6.st (n := 123) (x := M6 114 18) (congrFun (s6.1 114 (by unfold kpc at ho; omega)) 18)
        change qFill _ _ _ (qup M6 o 123 _) at s7
        rw [show qup M6 o 123 (M6 114 18) = M7 from hM7.symm] at s7
        exact r_vret d_Md_keep_302 rfl (by omega) (by omega) (⟨rfl, rfl, ⟨s7.1, fun j hj => s7.2 j (by omega)⟩, rfl⟩)
      · exact absurd (show nI 8 ≤ nI 8 from by decide) c
    · intro k hk ih I2 h2
      refine ldi_n_3_2 (pc := 210) d_Md_keep_210 ?_
      refine r_bipush (pc := 211) (v := 8) d_Md_keep_211 rfl ?_
      refine r_icmp_ge (pc := 213) (tgt := 246) d_Md_keep_213 (by decide) (fun c => ?_) (fun c => ?_)
      · exact absurd (show nI 8 ≤ nI k from c) (nI_ge hk (by omega))
      · have s0 := h2
        refine lda_n_3_1 (pc := 216) d_Md_keep_216 ?_
        refine r_bipush (pc := 217) (v := 101) d_Md_keep_217 rfl ?_
        refine ldi_n_3_2 (pc := 219) d_Md_keep_219 ?_
        refine r_iadd (pc := 220) d_Md_keep_220 ?_
        refine lda_n_3_0 (pc := 221) d_Md_keep_221 ?_
        refine g_Md_76 (pc := 222) rfl d_Md_keep_222 (by assumption) (by assumption) ?_
        refine ldi_n_3_2 (pc := 225) d_Md_keep_225 ?_
        refine r_iald (pc := 226) d_Md_keep_226 (by assumption) (by first | exact vp_in_nI (by omega) (by omega) | (unfold vp_in; decide) | exact vp_add 6 rfl (by omega) (by omega) | exact vp_add 12 rfl (by omega) (by omega) | exact vp_add 18 rfl (by omega) (by omega) | exact vp_add 24 rfl (by omega) (by omega) | exact vp_add 30 rfl (by omega) (by omega) | exact vp_add 36 rfl (by omega) (by omega) | exact vp_add 42 rfl (by omega) (by omega) | exact vp_add 66 rfl (by omega) (by omega) | exact vp_add 71 rfl (by omega) (by omega) | exact vp_add 76 rfl (by omega) (by omega) | exact vp_add 81 rfl (by omega) (by omega) | exact vp_add 91 rfl (by omega) (by omega) | exact vp_add 101 rfl (by omega) (by omega) | exact vp_add 109 rfl (by omega) (by omega)) ?_
        refine r_iast (pc := 227) d_Md_keep_227 (by assumption) (by first | exact vp_in_nI (by omega) (by omega) | (unfold vp_in; decide) | exact vp_add 6 rfl (by omega) (by omega) | exact vp_add 12 rfl (by omega) (by omega) | exact vp_add 18 rfl (by omega) (by omega) | exact vp_add 24 rfl (by omega) (by omega) | exact vp_add 30 rfl (by omega) (by omega) | exact vp_add 36 rfl (by omega) (by omega) | exact vp_add 42 rfl (by omega) (by omega) | exact vp_add 66 rfl (by omega) (by omega) | exact vp_add 71 rfl (by omega) (by omega) | exact vp_add 76 rfl (by omega) (by omega) | exact vp_add 81 rfl (by omega) (by omega) | exact vp_add 91 rfl (by omega) (by omega) | exact vp_add 101 rfl (by omega) (by omega) | exact vp_add 109 rfl (by omega) (by omega)) ?_
        refine r_nmI (fun M1 hM1 => ?_)
        rw [qad (c := 101) (k := k) 101 rfl (by omega), qcl (n := k) (by omega)] at hM1
        have s1 := s0.st (n := 101 + k) (x := I2 136 k) (show _ = kp I (101 + k) from by rw [kp_136 (by omega)]; exact congrFun (s0.1 136 (by unfold kpc at ho; omega)) k)
        rw [← hM1] at s1
        refine lda_n_3_1 (pc := 228) d_Md_keep_228 ?_
        refine r_bipush (pc := 229) (v := 109) d_Md_keep_229 rfl ?_
        refine ldi_n_3_2 (pc := 231) d_Md_keep_231 ?_
        refine r_iadd (pc := 232) d_Md_keep_232 ?_
        refine lda_n_3_0 (pc := 233) d_Md_keep_233 ?_
        refine g_Md_79 (pc := 234) rfl d_Md_keep_234 (by assumption) (by assumption) ?_
        refine ldi_n_3_2 (pc := 237) d_Md_keep_237 ?_
        refine r_iald (pc := 238) d_Md_keep_238 (by assumption) (by first | exact vp_in_nI (by omega) (by omega) | (unfold vp_in; decide) | exact vp_add 6 rfl (by omega) (by omega) | exact vp_add 12 rfl (by omega) (by omega) | exact vp_add 18 rfl (by omega) (by omega) | exact vp_add 24 rfl (by omega) (by omega) | exact vp_add 30 rfl (by omega) (by omega) | exact vp_add 36 rfl (by omega) (by omega) | exact vp_add 42 rfl (by omega) (by omega) | exact vp_add 66 rfl (by omega) (by omega) | exact vp_add 71 rfl (by omega) (by omega) | exact vp_add 76 rfl (by omega) (by omega) | exact vp_add 81 rfl (by omega) (by omega) | exact vp_add 91 rfl (by omega) (by omega) | exact vp_add 101 rfl (by omega) (by omega) | exact vp_add 109 rfl (by omega) (by omega)) ?_
        refine r_iast (pc := 239) d_Md_keep_239 (by assumption) (by first | exact vp_in_nI (by omega) (by omega) | (unfold vp_in; decide) | exact vp_add 6 rfl (by omega) (by omega) | exact vp_add 12 rfl (by omega) (by omega) | exact vp_add 18 rfl (by omega) (by omega) | exact vp_add 24 rfl (by omega) (by omega) | exact vp_add 30 rfl (by omega) (by omega) | exact vp_add 36 rfl (by omega) (by omega) | exact vp_add 42 rfl (by omega) (by omega) | exact vp_add 66 rfl (by omega) (by omega) | exact vp_add 71 rfl (by omega) (by omega) | exact vp_add 76 rfl (by omega) (by omega) | exact vp_add 81 rfl (by omega) (by omega) | exact vp_add 91 rfl (by omega) (by omega) | exact vp_add 101 rfl (by omega) (by omega) | exact vp_add 109 rfl (by omega) (by omega)) ?_
        refine r_nmI (fun M2 hM2 => ?_)
        rw [qad (c := 109) (k := k) 109 rfl (by omega), qcl (n := k) (by omega)] at hM2
        have s2 := s1.st (n := 109 + k) (x := M1 137 k) (show _ = kp I (109 + k) from by rw [kp_137 (by omega)]; exact congrFun (s1.1 137 (by unfold kpc at ho; omega)) k)
        rw [← hM2] at s2
        refine inc_3_2 (pc := 240) (w := 1) d_Md_keep_240 rfl rfl ?_
        refine r_goto (pc := 243) (tgt := 210) d_Md_keep_243 (by decide) ?_
        rw [q1]
        exact ih _ (s2.mo (fun j hj => by omega))
  have key3 : ∀ k, k ≤ 10 → ∀ I2, qFill o I (fun j => j < 81 ∨ (81 ≤ j ∧ j < 81 + k) ∨ (91 ≤ j ∧ j < 91 + k)) I2 → qW E y_Md_keep b_Md_keep none 0 0 0 (fun v S' I' J' => v = none ∧ S = S' ∧ (qOnly (fun a => a = o) I I' ∧ ∀ j, j < 124 → I' o j = kp I j) ∧ J = J') 0 0 172 [some (.ref (qb E + 114)), some (.ref (qb E + o)), some (.int (nI k))] [] S I2 J := by
    refine qfor 10 ?_ ?_
    · intro I2 h2
      refine ldi_n_3_2 (pc := 172) d_Md_keep_172 ?_
      refine r_bipush (pc := 173) (v := 10) d_Md_keep_173 rfl ?_
      refine r_icmp_ge (pc := 175) (tgt := 208) d_Md_keep_175 (by decide) (fun c => ?_) (fun c => ?_)
      · refine r_iconst (pc := 208) (v := 0) d_Md_keep_208 rfl ?_
        refine sti_n_3_2 (pc := 209) d_Md_keep_209 rfl ?_
        rw [q0]
        exact key4 0 (by omega) I2 (h2.mo (fun j hj => by omega))
      · exact absurd (show nI 10 ≤ nI 10 from by decide) c
    · intro k hk ih I2 h2
      refine ldi_n_3_2 (pc := 172) d_Md_keep_172 ?_
      refine r_bipush (pc := 173) (v := 10) d_Md_keep_173 rfl ?_
      refine r_icmp_ge (pc := 175) (tgt := 208) d_Md_keep_175 (by decide) (fun c => ?_) (fun c => ?_)
      · exact absurd (show nI 10 ≤ nI k from c) (nI_ge hk (by omega))
      · have s0 := h2
        refine lda_n_3_1 (pc := 178) d_Md_keep_178 ?_
        refine r_bipush (pc := 179) (v := 81) d_Md_keep_179 rfl ?_
        refine ldi_n_3_2 (pc := 181) d_Md_keep_181 ?_
        refine r_iadd (pc := 182) d_Md_keep_182 ?_
        refine lda_n_3_0 (pc := 183) d_Md_keep_183 ?_
        refine g_Md_70 (pc := 184) rfl d_Md_keep_184 (by assumption) (by assumption) ?_
        refine ldi_n_3_2 (pc := 187) d_Md_keep_187 ?_
        refine r_iald (pc := 188) d_Md_keep_188 (by assumption) (by first | exact vp_in_nI (by omega) (by omega) | (unfold vp_in; decide) | exact vp_add 6 rfl (by omega) (by omega) | exact vp_add 12 rfl (by omega) (by omega) | exact vp_add 18 rfl (by omega) (by omega) | exact vp_add 24 rfl (by omega) (by omega) | exact vp_add 30 rfl (by omega) (by omega) | exact vp_add 36 rfl (by omega) (by omega) | exact vp_add 42 rfl (by omega) (by omega) | exact vp_add 66 rfl (by omega) (by omega) | exact vp_add 71 rfl (by omega) (by omega) | exact vp_add 76 rfl (by omega) (by omega) | exact vp_add 81 rfl (by omega) (by omega) | exact vp_add 91 rfl (by omega) (by omega) | exact vp_add 101 rfl (by omega) (by omega) | exact vp_add 109 rfl (by omega) (by omega)) ?_
        refine r_iast (pc := 189) d_Md_keep_189 (by assumption) (by first | exact vp_in_nI (by omega) (by omega) | (unfold vp_in; decide) | exact vp_add 6 rfl (by omega) (by omega) | exact vp_add 12 rfl (by omega) (by omega) | exact vp_add 18 rfl (by omega) (by omega) | exact vp_add 24 rfl (by omega) (by omega) | exact vp_add 30 rfl (by omega) (by omega) | exact vp_add 36 rfl (by omega) (by omega) | exact vp_add 42 rfl (by omega) (by omega) | exact vp_add 66 rfl (by omega) (by omega) | exact vp_add 71 rfl (by omega) (by omega) | exact vp_add 76 rfl (by omega) (by omega) | exact vp_add 81 rfl (by omega) (by omega) | exact vp_add 91 rfl (by omega) (by omega) | exact vp_add 101 rfl (by omega) (by omega) | exact vp_add 109 rfl (by omega) (by omega)) ?_
        refine r_nmI (fun M1 hM1 => ?_)
        rw [qad (c := 81) (k := k) 81 rfl (by omega), qcl (n := k) (by omega)] at hM1
        have s1 := s0.st (n := 81 + k) (x := I2 134 k) (show _ = kp I (81 + k) from by rw [kp_134 (by omega)]; exact congrFun (s0.1 134 (by unfold kpc at ho; omega)) k)
        rw [← hM1] at s1
        refine lda_n_3_1 (pc := 190) d_Md_keep_190 ?_
        refine r_bipush (pc := 191) (v := 91) d_Md_keep_191 rfl ?_
        refine ldi_n_3_2 (pc := 193) d_Md_keep_193 ?_
        refine r_iadd (pc := 194) d_Md_keep_194 ?_
        refine lda_n_3_0 (pc := 195) d_Md_keep_195 ?_
        refine g_Md_73 (pc := 196) rfl d_Md_keep_196 (by assumption) (by assumption) ?_
        refine ldi_n_3_2 (pc := 199) d_Md_keep_199 ?_
        refine r_iald (pc := 200) d_Md_keep_200 (by assumption) (by first | exact vp_in_nI (by omega) (by omega) | (unfold vp_in; decide) | exact vp_add 6 rfl (by omega) (by omega) | exact vp_add 12 rfl (by omega) (by omega) | exact vp_add 18 rfl (by omega) (by omega) | exact vp_add 24 rfl (by omega) (by omega) | exact vp_add 30 rfl (by omega) (by omega) | exact vp_add 36 rfl (by omega) (by omega) | exact vp_add 42 rfl (by omega) (by omega) | exact vp_add 66 rfl (by omega) (by omega) | exact vp_add 71 rfl (by omega) (by omega) | exact vp_add 76 rfl (by omega) (by omega) | exact vp_add 81 rfl (by omega) (by omega) | exact vp_add 91 rfl (by omega) (by omega) | exact vp_add 101 rfl (by omega) (by omega) | exact vp_add 109 rfl (by omega) (by omega)) ?_
        refine r_iast (pc := 201) d_Md_keep_201 (by assumption) (by first | exact vp_in_nI (by omega) (by omega) | (unfold vp_in; decide) | exact vp_add 6 rfl (by omega) (by omega) | exact vp_add 12 rfl (by omega) (by omega) | exact vp_add 18 rfl (by omega) (by omega) | exact vp_add 24 rfl (by omega) (by omega) | exact vp_add 30 rfl (by omega) (by omega) | exact vp_add 36 rfl (by omega) (by omega) | exact vp_add 42 rfl (by omega) (by omega) | exact vp_add 66 rfl (by omega) (by omega) | exact vp_add 71 rfl (by omega) (by omega) | exact vp_add 76 rfl (by omega) (by omega) | exact vp_add 81 rfl (by omega) (by omega) | exact vp_add 91 rfl (by omega) (by omega) | exact vp_add 101 rfl (by omega) (by omega) | exact vp_add 109 rfl (by omega) (by omega)) ?_
        refine r_nmI (fun M2 hM2 => ?_)
        rw [qad (c := 91) (k := k) 91 rfl (by omega), qcl (n := k) (by omega)] at hM2
        have s2 := s1.st (n := 91 + k) (x := M1 135 k) (show _ = kp I (91 + k) from by rw [kp_135 (by omega)]; exact congrFun (s1.1 135 (by unfold kpc at ho; omega)) k)
        rw [← hM2] at s2
        refine inc_3_2 (pc := 202) (w := 1) d_Md_keep_202 rfl rfl ?_
        refine r_goto (pc := 205) (tgt := 172) d_Md_keep_205 (by decide) ?_
        rw [q1]
        exact ih _ (s2.mo (fun j hj => by omega))
  have key2 : ∀ k, k ≤ 5 → ∀ I2, qFill o I (fun j => j < 66 ∨ (66 ≤ j ∧ j < 66 + k) ∨ (71 ≤ j ∧ j < 71 + k) ∨ (76 ≤ j ∧ j < 76 + k)) I2 → qW E y_Md_keep b_Md_keep none 0 0 0 (fun v S' I' J' => v = none ∧ S = S' ∧ (qOnly (fun a => a = o) I I' ∧ ∀ j, j < 124 → I' o j = kp I j) ∧ J = J') 0 0 123 [some (.ref (qb E + 114)), some (.ref (qb E + o)), some (.int (nI k))] [] S I2 J := by
    refine qfor 5 ?_ ?_
    · intro I2 h2
      refine ldi_n_3_2 (pc := 123) d_Md_keep_123 ?_
      refine r_iconst (pc := 124) (v := 5) d_Md_keep_124 rfl ?_
      refine r_icmp_ge (pc := 125) (tgt := 170) d_Md_keep_125 (by decide) (fun c => ?_) (fun c => ?_)
      · refine r_iconst (pc := 170) (v := 0) d_Md_keep_170 rfl ?_
        refine sti_n_3_2 (pc := 171) d_Md_keep_171 rfl ?_
        rw [q0]
        exact key3 0 (by omega) I2 (h2.mo (fun j hj => by omega))
      · exact absurd (show nI 5 ≤ nI 5 from by decide) c
    · intro k hk ih I2 h2
      refine ldi_n_3_2 (pc := 123) d_Md_keep_123 ?_
      refine r_iconst (pc := 124) (v := 5) d_Md_keep_124 rfl ?_
      refine r_icmp_ge (pc := 125) (tgt := 170) d_Md_keep_125 (by decide) (fun c => ?_) (fun c => ?_)
      · exact absurd (show nI 5 ≤ nI k from c) (nI_ge hk (by omega))
      · have s0 := h2
        refine lda_n_3_1 (pc := 128) d_Md_keep_128 ?_
        refine r_bipush (pc := 129) (v := 66) d_Md_keep_129 rfl ?_
        refine ldi_n_3_2 (pc := 131) d_Md_keep_131 ?_
        refine r_iadd (pc := 132) d_Md_keep_132 ?_
        refine lda_n_3_0 (pc := 133) d_Md_keep_133 ?_
        refine g_Md_61 (pc := 134) rfl d_Md_keep_134 (by assumption) (by assumption) ?_
        refine ldi_n_3_2 (pc := 137) d_Md_keep_137 ?_
        refine r_iald (pc := 138) d_Md_keep_138 (by assumption) (by first | exact vp_in_nI (by omega) (by omega) | (unfold vp_in; decide) | exact vp_add 6 rfl (by omega) (by omega) | exact vp_add 12 rfl (by omega) (by omega) | exact vp_add 18 rfl (by omega) (by omega) | exact vp_add 24 rfl (by omega) (by omega) | exact vp_add 30 rfl (by omega) (by omega) | exact vp_add 36 rfl (by omega) (by omega) | exact vp_add 42 rfl (by omega) (by omega) | exact vp_add 66 rfl (by omega) (by omega) | exact vp_add 71 rfl (by omega) (by omega) | exact vp_add 76 rfl (by omega) (by omega) | exact vp_add 81 rfl (by omega) (by omega) | exact vp_add 91 rfl (by omega) (by omega) | exact vp_add 101 rfl (by omega) (by omega) | exact vp_add 109 rfl (by omega) (by omega)) ?_
        refine r_iast (pc := 139) d_Md_keep_139 (by assumption) (by first | exact vp_in_nI (by omega) (by omega) | (unfold vp_in; decide) | exact vp_add 6 rfl (by omega) (by omega) | exact vp_add 12 rfl (by omega) (by omega) | exact vp_add 18 rfl (by omega) (by omega) | exact vp_add 24 rfl (by omega) (by omega) | exact vp_add 30 rfl (by omega) (by omega) | exact vp_add 36 rfl (by omega) (by omega) | exact vp_add 42 rfl (by omega) (by omega) | exact vp_add 66 rfl (by omega) (by omega) | exact vp_add 71 rfl (by omega) (by omega) | exact vp_add 76 rfl (by omega) (by omega) | exact vp_add 81 rfl (by omega) (by omega) | exact vp_add 91 rfl (by omega) (by omega) | exact vp_add 101 rfl (by omega) (by omega) | exact vp_add 109 rfl (by omega) (by omega)) ?_
        refine r_nmI (fun M1 hM1 => ?_)
        rw [qad (c := 66) (k := k) 66 rfl (by omega), qcl (n := k) (by omega)] at hM1
        have s1 := s0.st (n := 66 + k) (x := I2 131 k) (show _ = kp I (66 + k) from by rw [kp_131 (by omega)]; exact congrFun (s0.1 131 (by unfold kpc at ho; omega)) k)
        rw [← hM1] at s1
        refine lda_n_3_1 (pc := 140) d_Md_keep_140 ?_
        refine r_bipush (pc := 141) (v := 71) d_Md_keep_141 rfl ?_
        refine ldi_n_3_2 (pc := 143) d_Md_keep_143 ?_
        refine r_iadd (pc := 144) d_Md_keep_144 ?_
        refine lda_n_3_0 (pc := 145) d_Md_keep_145 ?_
        refine g_Md_64 (pc := 146) rfl d_Md_keep_146 (by assumption) (by assumption) ?_
        refine ldi_n_3_2 (pc := 149) d_Md_keep_149 ?_
        refine r_iald (pc := 150) d_Md_keep_150 (by assumption) (by first | exact vp_in_nI (by omega) (by omega) | (unfold vp_in; decide) | exact vp_add 6 rfl (by omega) (by omega) | exact vp_add 12 rfl (by omega) (by omega) | exact vp_add 18 rfl (by omega) (by omega) | exact vp_add 24 rfl (by omega) (by omega) | exact vp_add 30 rfl (by omega) (by omega) | exact vp_add 36 rfl (by omega) (by omega) | exact vp_add 42 rfl (by omega) (by omega) | exact vp_add 66 rfl (by omega) (by omega) | exact vp_add 71 rfl (by omega) (by omega) | exact vp_add 76 rfl (by omega) (by omega) | exact vp_add 81 rfl (by omega) (by omega) | exact vp_add 91 rfl (by omega) (by omega) | exact vp_add 101 rfl (by omega) (by omega) | exact vp_add 109 rfl (by omega) (by omega)) ?_
        refine r_iast (pc := 151) d_Md_keep_151 (by assumption) (by first | exact vp_in_nI (by omega) (by omega) | (unfold vp_in; decide) | exact vp_add 6 rfl (by omega) (by omega) | exact vp_add 12 rfl (by omega) (by omega) | exact vp_add 18 rfl (by omega) (by omega) | exact vp_add 24 rfl (by omega) (by omega) | exact vp_add 30 rfl (by omega) (by omega) | exact vp_add 36 rfl (by omega) (by omega) | exact vp_add 42 rfl (by omega) (by omega) | exact vp_add 66 rfl (by omega) (by omega) | exact vp_add 71 rfl (by omega) (by omega) | exact vp_add 76 rfl (by omega) (by omega) | exact vp_add 81 rfl (by omega) (by omega) | exact vp_add 91 rfl (by omega) (by omega) | exact vp_add 101 rfl (by omega) (by omega) | exact vp_add 109 rfl (by omega) (by omega)) ?_
        refine r_nmI (fun M2 hM2 => ?_)
        rw [qad (c := 71) (k := k) 71 rfl (by omega), qcl (n := k) (by omega)] at hM2
        have s2 := s1.st (n := 71 + k) (x := M1 132 k) (show _ = kp I (71 + k) from by rw [kp_132 (by omega)]; exact congrFun (s1.1 132 (by unfold kpc at ho; omega)) k)
        rw [← hM2] at s2
        refine lda_n_3_1 (pc := 152) d_Md_keep_152 ?_
        refine r_bipush (pc := 153) (v := 76) d_Md_keep_153 rfl ?_
        refine ldi_n_3_2 (pc := 155) d_Md_keep_155 ?_
        refine r_iadd (pc := 156) d_Md_keep_156 ?_
        refine lda_n_3_0 (pc := 157) d_Md_keep_157 ?_
        refine g_Md_67 (pc := 158) rfl d_Md_keep_158 (by assumption) (by assumption) ?_
        refine ldi_n_3_2 (pc := 161) d_Md_keep_161 ?_
        refine r_iald (pc := 162) d_Md_keep_162 (by assumption) (by first | exact vp_in_nI (by omega) (by omega) | (unfold vp_in; decide) | exact vp_add 6 rfl (by omega) (by omega) | exact vp_add 12 rfl (by omega) (by omega) | exact vp_add 18 rfl (by omega) (by omega) | exact vp_add 24 rfl (by omega) (by omega) | exact vp_add 30 rfl (by omega) (by omega) | exact vp_add 36 rfl (by omega) (by omega) | exact vp_add 42 rfl (by omega) (by omega) | exact vp_add 66 rfl (by omega) (by omega) | exact vp_add 71 rfl (by omega) (by omega) | exact vp_add 76 rfl (by omega) (by omega) | exact vp_add 81 rfl (by omega) (by omega) | exact vp_add 91 rfl (by omega) (by omega) | exact vp_add 101 rfl (by omega) (by omega) | exact vp_add 109 rfl (by omega) (by omega)) ?_
        refine r_iast (pc := 163) d_Md_keep_163 (by assumption) (by first | exact vp_in_nI (by omega) (by omega) | (unfold vp_in; decide) | exact vp_add 6 rfl (by omega) (by omega) | exact vp_add 12 rfl (by omega) (by omega) | exact vp_add 18 rfl (by omega) (by omega) | exact vp_add 24 rfl (by omega) (by omega) | exact vp_add 30 rfl (by omega) (by omega) | exact vp_add 36 rfl (by omega) (by omega) | exact vp_add 42 rfl (by omega) (by omega) | exact vp_add 66 rfl (by omega) (by omega) | exact vp_add 71 rfl (by omega) (by omega) | exact vp_add 76 rfl (by omega) (by omega) | exact vp_add 81 rfl (by omega) (by omega) | exact vp_add 91 rfl (by omega) (by omega) | exact vp_add 101 rfl (by omega) (by omega) | exact vp_add 109 rfl (by omega) (by omega)) ?_
        refine r_nmI (fun M3 hM3 => ?_)
        rw [qad (c := 76) (k := k) 76 rfl (by omega), qcl (n := k) (by omega)] at hM3
        have s3 := s2.st (n := 76 + k) (x := M2 133 k) (show _ = kp I (76 + k) from by rw [kp_133 (by omega)]; exact congrFun (s2.1 133 (by unfold kpc at ho; omega)) k)
        rw [← hM3] at s3
        refine inc_3_2 (pc := 164) (w := 1) d_Md_keep_164 rfl rfl ?_
        refine r_goto (pc := 167) (tgt := 123) d_Md_keep_167 (by decide) ?_
        rw [q1]
        exact ih _ (s3.mo (fun j hj => by omega))
  have key1 : ∀ k, k ≤ 24 → ∀ I2, qFill o I (fun j => j < 42 ∨ (42 ≤ j ∧ j < 42 + k)) I2 → qW E y_Md_keep b_Md_keep none 0 0 0 (fun v S' I' J' => v = none ∧ S = S' ∧ (qOnly (fun a => a = o) I I' ∧ ∀ j, j < 124 → I' o j = kp I j) ∧ J = J') 0 0 97 [some (.ref (qb E + 114)), some (.ref (qb E + o)), some (.int (nI k))] [] S I2 J := by
    refine qfor 24 ?_ ?_
    · intro I2 h2
      refine ldi_n_3_2 (pc := 97) d_Md_keep_97 ?_
      refine r_bipush (pc := 98) (v := 24) d_Md_keep_98 rfl ?_
      refine r_icmp_ge (pc := 100) (tgt := 121) d_Md_keep_100 (by decide) (fun c => ?_) (fun c => ?_)
      · refine r_iconst (pc := 121) (v := 0) d_Md_keep_121 rfl ?_
        refine sti_n_3_2 (pc := 122) d_Md_keep_122 rfl ?_
        rw [q0]
        exact key2 0 (by omega) I2 (h2.mo (fun j hj => by omega))
      · exact absurd (show nI 24 ≤ nI 24 from by decide) c
    · intro k hk ih I2 h2
      refine ldi_n_3_2 (pc := 97) d_Md_keep_97 ?_
      refine r_bipush (pc := 98) (v := 24) d_Md_keep_98 rfl ?_
      refine r_icmp_ge (pc := 100) (tgt := 121) d_Md_keep_100 (by decide) (fun c => ?_) (fun c => ?_)
      · exact absurd (show nI 24 ≤ nI k from c) (nI_ge hk (by omega))
      · have s0 := h2
        refine lda_n_3_1 (pc := 103) d_Md_keep_103 ?_
        refine r_bipush (pc := 104) (v := 42) d_Md_keep_104 rfl ?_
        refine ldi_n_3_2 (pc := 106) d_Md_keep_106 ?_
        refine r_iadd (pc := 107) d_Md_keep_107 ?_
        refine lda_n_3_0 (pc := 108) d_Md_keep_108 ?_
        refine g_Md_30 (pc := 109) rfl d_Md_keep_109 (by assumption) (by assumption) ?_
        refine ldi_n_3_2 (pc := 112) d_Md_keep_112 ?_
        refine r_iald (pc := 113) d_Md_keep_113 (by assumption) (by first | exact vp_in_nI (by omega) (by omega) | (unfold vp_in; decide) | exact vp_add 6 rfl (by omega) (by omega) | exact vp_add 12 rfl (by omega) (by omega) | exact vp_add 18 rfl (by omega) (by omega) | exact vp_add 24 rfl (by omega) (by omega) | exact vp_add 30 rfl (by omega) (by omega) | exact vp_add 36 rfl (by omega) (by omega) | exact vp_add 42 rfl (by omega) (by omega) | exact vp_add 66 rfl (by omega) (by omega) | exact vp_add 71 rfl (by omega) (by omega) | exact vp_add 76 rfl (by omega) (by omega) | exact vp_add 81 rfl (by omega) (by omega) | exact vp_add 91 rfl (by omega) (by omega) | exact vp_add 101 rfl (by omega) (by omega) | exact vp_add 109 rfl (by omega) (by omega)) ?_
        refine r_iast (pc := 114) d_Md_keep_114 (by assumption) (by first | exact vp_in_nI (by omega) (by omega) | (unfold vp_in; decide) | exact vp_add 6 rfl (by omega) (by omega) | exact vp_add 12 rfl (by omega) (by omega) | exact vp_add 18 rfl (by omega) (by omega) | exact vp_add 24 rfl (by omega) (by omega) | exact vp_add 30 rfl (by omega) (by omega) | exact vp_add 36 rfl (by omega) (by omega) | exact vp_add 42 rfl (by omega) (by omega) | exact vp_add 66 rfl (by omega) (by omega) | exact vp_add 71 rfl (by omega) (by omega) | exact vp_add 76 rfl (by omega) (by omega) | exact vp_add 81 rfl (by omega) (by omega) | exact vp_add 91 rfl (by omega) (by omega) | exact vp_add 101 rfl (by omega) (by omega) | exact vp_add 109 rfl (by omega) (by omega)) ?_
        refine r_nmI (fun M1 hM1 => ?_)
        rw [qad (c := 42) (k := k) 42 rfl (by omega), qcl (n := k) (by omega)] at hM1
        have s1 := s0.st (n := 42 + k) (x := I2 121 k) (show _ = kp I (42 + k) from by rw [kp_121 (by omega)]; exact congrFun (s0.1 121 (by unfold kpc at ho; omega)) k)
        rw [← hM1] at s1
        refine inc_3_2 (pc := 115) (w := 1) d_Md_keep_115 rfl rfl ?_
        refine r_goto (pc := 118) (tgt := 97) d_Md_keep_118 (by decide) ?_
        rw [q1]
        exact ih _ (s1.mo (fun j hj => by omega))
  have key0 : ∀ k, k ≤ 6 → ∀ I2, qFill o I (fun j => (j < 42 ∧ j % 6 < k)) I2 → qW E y_Md_keep b_Md_keep none 0 0 0 (fun v S' I' J' => v = none ∧ S = S' ∧ (qOnly (fun a => a = o) I I' ∧ ∀ j, j < 124 → I' o j = kp I j) ∧ J = J') 0 0 2 [some (.ref (qb E + 114)), some (.ref (qb E + o)), some (.int (nI k))] [] S I2 J := by
    refine qfor 6 ?_ ?_
    · intro I2 h2
      refine ldi_n_3_2 (pc := 2) d_Md_keep_2 ?_
      refine r_bipush (pc := 3) (v := 6) d_Md_keep_3 rfl ?_
      refine r_icmp_ge (pc := 5) (tgt := 95) d_Md_keep_5 (by decide) (fun c => ?_) (fun c => ?_)
      · refine r_iconst (pc := 95) (v := 0) d_Md_keep_95 rfl ?_
        refine sti_n_3_2 (pc := 96) d_Md_keep_96 rfl ?_
        rw [q0]
        exact key1 0 (by omega) I2 (h2.mo (fun j hj => by omega))
      · exact absurd (show nI 6 ≤ nI 6 from by decide) c
    · intro k hk ih I2 h2
      refine ldi_n_3_2 (pc := 2) d_Md_keep_2 ?_
      refine r_bipush (pc := 3) (v := 6) d_Md_keep_3 rfl ?_
      refine r_icmp_ge (pc := 5) (tgt := 95) d_Md_keep_5 (by decide) (fun c => ?_) (fun c => ?_)
      · exact absurd (show nI 6 ≤ nI k from c) (nI_ge hk (by omega))
      · have s0 := h2
        refine lda_n_3_1 (pc := 8) d_Md_keep_8 ?_
        refine ldi_n_3_2 (pc := 9) d_Md_keep_9 ?_
        refine lda_n_3_0 (pc := 10) d_Md_keep_10 ?_
        refine g_Md_9 (pc := 11) rfl d_Md_keep_11 (by assumption) (by assumption) ?_
        refine ldi_n_3_2 (pc := 14) d_Md_keep_14 ?_
        refine r_iald (pc := 15) d_Md_keep_15 (by assumption) (by first | exact vp_in_nI (by omega) (by omega) | (unfold vp_in; decide) | exact vp_add 6 rfl (by omega) (by omega) | exact vp_add 12 rfl (by omega) (by omega) | exact vp_add 18 rfl (by omega) (by omega) | exact vp_add 24 rfl (by omega) (by omega) | exact vp_add 30 rfl (by omega) (by omega) | exact vp_add 36 rfl (by omega) (by omega) | exact vp_add 42 rfl (by omega) (by omega) | exact vp_add 66 rfl (by omega) (by omega) | exact vp_add 71 rfl (by omega) (by omega) | exact vp_add 76 rfl (by omega) (by omega) | exact vp_add 81 rfl (by omega) (by omega) | exact vp_add 91 rfl (by omega) (by omega) | exact vp_add 101 rfl (by omega) (by omega) | exact vp_add 109 rfl (by omega) (by omega)) ?_
        refine r_iast (pc := 16) d_Md_keep_16 (by assumption) (by first | exact vp_in_nI (by omega) (by omega) | (unfold vp_in; decide) | exact vp_add 6 rfl (by omega) (by omega) | exact vp_add 12 rfl (by omega) (by omega) | exact vp_add 18 rfl (by omega) (by omega) | exact vp_add 24 rfl (by omega) (by omega) | exact vp_add 30 rfl (by omega) (by omega) | exact vp_add 36 rfl (by omega) (by omega) | exact vp_add 42 rfl (by omega) (by omega) | exact vp_add 66 rfl (by omega) (by omega) | exact vp_add 71 rfl (by omega) (by omega) | exact vp_add 76 rfl (by omega) (by omega) | exact vp_add 81 rfl (by omega) (by omega) | exact vp_add 91 rfl (by omega) (by omega) | exact vp_add 101 rfl (by omega) (by omega) | exact vp_add 109 rfl (by omega) (by omega)) ?_
        refine r_nmI (fun M1 hM1 => ?_)
        rw [qcl (n := k) (by omega)] at hM1
        have s1 := s0.st (n := k) (x := I2 115 k) (show _ = kp I (k) from by have e := kp_115 (I := I) (k := k) (by omega); rw [Nat.zero_add] at e; rw [e]; exact congrFun (s0.1 115 (by unfold kpc at ho; omega)) k)
        rw [← hM1] at s1
        refine lda_n_3_1 (pc := 17) d_Md_keep_17 ?_
        refine r_bipush (pc := 18) (v := 6) d_Md_keep_18 rfl ?_
        refine ldi_n_3_2 (pc := 20) d_Md_keep_20 ?_
        refine r_iadd (pc := 21) d_Md_keep_21 ?_
        refine lda_n_3_0 (pc := 22) d_Md_keep_22 ?_
        refine g_Md_15 (pc := 23) rfl d_Md_keep_23 (by assumption) (by assumption) ?_
        refine ldi_n_3_2 (pc := 26) d_Md_keep_26 ?_
        refine r_iald (pc := 27) d_Md_keep_27 (by assumption) (by first | exact vp_in_nI (by omega) (by omega) | (unfold vp_in; decide) | exact vp_add 6 rfl (by omega) (by omega) | exact vp_add 12 rfl (by omega) (by omega) | exact vp_add 18 rfl (by omega) (by omega) | exact vp_add 24 rfl (by omega) (by omega) | exact vp_add 30 rfl (by omega) (by omega) | exact vp_add 36 rfl (by omega) (by omega) | exact vp_add 42 rfl (by omega) (by omega) | exact vp_add 66 rfl (by omega) (by omega) | exact vp_add 71 rfl (by omega) (by omega) | exact vp_add 76 rfl (by omega) (by omega) | exact vp_add 81 rfl (by omega) (by omega) | exact vp_add 91 rfl (by omega) (by omega) | exact vp_add 101 rfl (by omega) (by omega) | exact vp_add 109 rfl (by omega) (by omega)) ?_
        refine r_iast (pc := 28) d_Md_keep_28 (by assumption) (by first | exact vp_in_nI (by omega) (by omega) | (unfold vp_in; decide) | exact vp_add 6 rfl (by omega) (by omega) | exact vp_add 12 rfl (by omega) (by omega) | exact vp_add 18 rfl (by omega) (by omega) | exact vp_add 24 rfl (by omega) (by omega) | exact vp_add 30 rfl (by omega) (by omega) | exact vp_add 36 rfl (by omega) (by omega) | exact vp_add 42 rfl (by omega) (by omega) | exact vp_add 66 rfl (by omega) (by omega) | exact vp_add 71 rfl (by omega) (by omega) | exact vp_add 76 rfl (by omega) (by omega) | exact vp_add 81 rfl (by omega) (by omega) | exact vp_add 91 rfl (by omega) (by omega) | exact vp_add 101 rfl (by omega) (by omega) | exact vp_add 109 rfl (by omega) (by omega)) ?_
        refine r_nmI (fun M2 hM2 => ?_)
        rw [qad (c := 6) (k := k) 6 rfl (by omega), qcl (n := k) (by omega)] at hM2
        have s2 := s1.st (n := 6 + k) (x := M1 116 k) (show _ = kp I (6 + k) from by rw [kp_116 (by omega)]; exact congrFun (s1.1 116 (by unfold kpc at ho; omega)) k)
        rw [← hM2] at s2
        refine lda_n_3_1 (pc := 29) d_Md_keep_29 ?_
        refine r_bipush (pc := 30) (v := 12) d_Md_keep_30 rfl ?_
        refine ldi_n_3_2 (pc := 32) d_Md_keep_32 ?_
        refine r_iadd (pc := 33) d_Md_keep_33 ?_
        refine lda_n_3_0 (pc := 34) d_Md_keep_34 ?_
        refine g_Md_18 (pc := 35) rfl d_Md_keep_35 (by assumption) (by assumption) ?_
        refine ldi_n_3_2 (pc := 38) d_Md_keep_38 ?_
        refine r_iald (pc := 39) d_Md_keep_39 (by assumption) (by first | exact vp_in_nI (by omega) (by omega) | (unfold vp_in; decide) | exact vp_add 6 rfl (by omega) (by omega) | exact vp_add 12 rfl (by omega) (by omega) | exact vp_add 18 rfl (by omega) (by omega) | exact vp_add 24 rfl (by omega) (by omega) | exact vp_add 30 rfl (by omega) (by omega) | exact vp_add 36 rfl (by omega) (by omega) | exact vp_add 42 rfl (by omega) (by omega) | exact vp_add 66 rfl (by omega) (by omega) | exact vp_add 71 rfl (by omega) (by omega) | exact vp_add 76 rfl (by omega) (by omega) | exact vp_add 81 rfl (by omega) (by omega) | exact vp_add 91 rfl (by omega) (by omega) | exact vp_add 101 rfl (by omega) (by omega) | exact vp_add 109 rfl (by omega) (by omega)) ?_
        refine r_iast (pc := 40) d_Md_keep_40 (by assumption) (by first | exact vp_in_nI (by omega) (by omega) | (unfold vp_in; decide) | exact vp_add 6 rfl (by omega) (by omega) | exact vp_add 12 rfl (by omega) (by omega) | exact vp_add 18 rfl (by omega) (by omega) | exact vp_add 24 rfl (by omega) (by omega) | exact vp_add 30 rfl (by omega) (by omega) | exact vp_add 36 rfl (by omega) (by omega) | exact vp_add 42 rfl (by omega) (by omega) | exact vp_add 66 rfl (by omega) (by omega) | exact vp_add 71 rfl (by omega) (by omega) | exact vp_add 76 rfl (by omega) (by omega) | exact vp_add 81 rfl (by omega) (by omega) | exact vp_add 91 rfl (by omega) (by omega) | exact vp_add 101 rfl (by omega) (by omega) | exact vp_add 109 rfl (by omega) (by omega)) ?_
        refine r_nmI (fun M3 hM3 => ?_)
        rw [qad (c := 12) (k := k) 12 rfl (by omega), qcl (n := k) (by omega)] at hM3
        have s3 := s2.st (n := 12 + k) (x := M2 117 k) (show _ = kp I (12 + k) from by rw [kp_117 (by omega)]; exact congrFun (s2.1 117 (by unfold kpc at ho; omega)) k)
        rw [← hM3] at s3
        refine lda_n_3_1 (pc := 41) d_Md_keep_41 ?_
        refine r_bipush (pc := 42) (v := 18) d_Md_keep_42 rfl ?_
        refine ldi_n_3_2 (pc := 44) d_Md_keep_44 ?_
        refine r_iadd (pc := 45) d_Md_keep_45 ?_
        refine lda_n_3_0 (pc := 46) d_Md_keep_46 ?_
        refine g_Md_21 (pc := 47) rfl d_Md_keep_47 (by assumption) (by assumption) ?_
        refine ldi_n_3_2 (pc := 50) d_Md_keep_50 ?_
        refine r_iald (pc := 51) d_Md_keep_51 (by assumption) (by first | exact vp_in_nI (by omega) (by omega) | (unfold vp_in; decide) | exact vp_add 6 rfl (by omega) (by omega) | exact vp_add 12 rfl (by omega) (by omega) | exact vp_add 18 rfl (by omega) (by omega) | exact vp_add 24 rfl (by omega) (by omega) | exact vp_add 30 rfl (by omega) (by omega) | exact vp_add 36 rfl (by omega) (by omega) | exact vp_add 42 rfl (by omega) (by omega) | exact vp_add 66 rfl (by omega) (by omega) | exact vp_add 71 rfl (by omega) (by omega) | exact vp_add 76 rfl (by omega) (by omega) | exact vp_add 81 rfl (by omega) (by omega) | exact vp_add 91 rfl (by omega) (by omega) | exact vp_add 101 rfl (by omega) (by omega) | exact vp_add 109 rfl (by omega) (by omega)) ?_
        refine r_iast (pc := 52) d_Md_keep_52 (by assumption) (by first | exact vp_in_nI (by omega) (by omega) | (unfold vp_in; decide) | exact vp_add 6 rfl (by omega) (by omega) | exact vp_add 12 rfl (by omega) (by omega) | exact vp_add 18 rfl (by omega) (by omega) | exact vp_add 24 rfl (by omega) (by omega) | exact vp_add 30 rfl (by omega) (by omega) | exact vp_add 36 rfl (by omega) (by omega) | exact vp_add 42 rfl (by omega) (by omega) | exact vp_add 66 rfl (by omega) (by omega) | exact vp_add 71 rfl (by omega) (by omega) | exact vp_add 76 rfl (by omega) (by omega) | exact vp_add 81 rfl (by omega) (by omega) | exact vp_add 91 rfl (by omega) (by omega) | exact vp_add 101 rfl (by omega) (by omega) | exact vp_add 109 rfl (by omega) (by omega)) ?_
        refine r_nmI (fun M4 hM4 => ?_)
        rw [qad (c := 18) (k := k) 18 rfl (by omega), qcl (n := k) (by omega)] at hM4
        have s4 := s3.st (n := 18 + k) (x := M3 118 k) (show _ = kp I (18 + k) from by rw [kp_118 (by omega)]; exact congrFun (s3.1 118 (by unfold kpc at ho; omega)) k)
        rw [← hM4] at s4
        refine lda_n_3_1 (pc := 53) d_Md_keep_53 ?_
        refine r_bipush (pc := 54) (v := 24) d_Md_keep_54 rfl ?_
        refine ldi_n_3_2 (pc := 56) d_Md_keep_56 ?_
        refine r_iadd (pc := 57) d_Md_keep_57 ?_
        refine lda_n_3_0 (pc := 58) d_Md_keep_58 ?_
        refine g_Md_24 (pc := 59) rfl d_Md_keep_59 (by assumption) (by assumption) ?_
        refine ldi_n_3_2 (pc := 62) d_Md_keep_62 ?_
        refine r_iald (pc := 63) d_Md_keep_63 (by assumption) (by first | exact vp_in_nI (by omega) (by omega) | (unfold vp_in; decide) | exact vp_add 6 rfl (by omega) (by omega) | exact vp_add 12 rfl (by omega) (by omega) | exact vp_add 18 rfl (by omega) (by omega) | exact vp_add 24 rfl (by omega) (by omega) | exact vp_add 30 rfl (by omega) (by omega) | exact vp_add 36 rfl (by omega) (by omega) | exact vp_add 42 rfl (by omega) (by omega) | exact vp_add 66 rfl (by omega) (by omega) | exact vp_add 71 rfl (by omega) (by omega) | exact vp_add 76 rfl (by omega) (by omega) | exact vp_add 81 rfl (by omega) (by omega) | exact vp_add 91 rfl (by omega) (by omega) | exact vp_add 101 rfl (by omega) (by omega) | exact vp_add 109 rfl (by omega) (by omega)) ?_
        refine r_iast (pc := 64) d_Md_keep_64 (by assumption) (by first | exact vp_in_nI (by omega) (by omega) | (unfold vp_in; decide) | exact vp_add 6 rfl (by omega) (by omega) | exact vp_add 12 rfl (by omega) (by omega) | exact vp_add 18 rfl (by omega) (by omega) | exact vp_add 24 rfl (by omega) (by omega) | exact vp_add 30 rfl (by omega) (by omega) | exact vp_add 36 rfl (by omega) (by omega) | exact vp_add 42 rfl (by omega) (by omega) | exact vp_add 66 rfl (by omega) (by omega) | exact vp_add 71 rfl (by omega) (by omega) | exact vp_add 76 rfl (by omega) (by omega) | exact vp_add 81 rfl (by omega) (by omega) | exact vp_add 91 rfl (by omega) (by omega) | exact vp_add 101 rfl (by omega) (by omega) | exact vp_add 109 rfl (by omega) (by omega)) ?_
        refine r_nmI (fun M5 hM5 => ?_)
        rw [qad (c := 24) (k := k) 24 rfl (by omega), qcl (n := k) (by omega)] at hM5
        have s5 := s4.st (n := 24 + k) (x := M4 119 k) (show _ = kp I (24 + k) from by rw [kp_119 (by omega)]; exact congrFun (s4.1 119 (by unfold kpc at ho; omega)) k)
        rw [← hM5] at s5
        refine lda_n_3_1 (pc := 65) d_Md_keep_65 ?_
        refine r_bipush (pc := 66) (v := 30) d_Md_keep_66 rfl ?_
        refine ldi_n_3_2 (pc := 68) d_Md_keep_68 ?_
        refine r_iadd (pc := 69) d_Md_keep_69 ?_
        refine lda_n_3_0 (pc := 70) d_Md_keep_70 ?_
        refine g_Md_27 (pc := 71) rfl d_Md_keep_71 (by assumption) (by assumption) ?_
        refine ldi_n_3_2 (pc := 74) d_Md_keep_74 ?_
        refine r_iald (pc := 75) d_Md_keep_75 (by assumption) (by first | exact vp_in_nI (by omega) (by omega) | (unfold vp_in; decide) | exact vp_add 6 rfl (by omega) (by omega) | exact vp_add 12 rfl (by omega) (by omega) | exact vp_add 18 rfl (by omega) (by omega) | exact vp_add 24 rfl (by omega) (by omega) | exact vp_add 30 rfl (by omega) (by omega) | exact vp_add 36 rfl (by omega) (by omega) | exact vp_add 42 rfl (by omega) (by omega) | exact vp_add 66 rfl (by omega) (by omega) | exact vp_add 71 rfl (by omega) (by omega) | exact vp_add 76 rfl (by omega) (by omega) | exact vp_add 81 rfl (by omega) (by omega) | exact vp_add 91 rfl (by omega) (by omega) | exact vp_add 101 rfl (by omega) (by omega) | exact vp_add 109 rfl (by omega) (by omega)) ?_
        refine r_iast (pc := 76) d_Md_keep_76 (by assumption) (by first | exact vp_in_nI (by omega) (by omega) | (unfold vp_in; decide) | exact vp_add 6 rfl (by omega) (by omega) | exact vp_add 12 rfl (by omega) (by omega) | exact vp_add 18 rfl (by omega) (by omega) | exact vp_add 24 rfl (by omega) (by omega) | exact vp_add 30 rfl (by omega) (by omega) | exact vp_add 36 rfl (by omega) (by omega) | exact vp_add 42 rfl (by omega) (by omega) | exact vp_add 66 rfl (by omega) (by omega) | exact vp_add 71 rfl (by omega) (by omega) | exact vp_add 76 rfl (by omega) (by omega) | exact vp_add 81 rfl (by omega) (by omega) | exact vp_add 91 rfl (by omega) (by omega) | exact vp_add 101 rfl (by omega) (by omega) | exact vp_add 109 rfl (by omega) (by omega)) ?_
        refine r_nmI (fun M6 hM6 => ?_)
        rw [qad (c := 30) (k := k) 30 rfl (by omega), qcl (n := k) (by omega)] at hM6
        have s6 := s5.st (n := 30 + k) (x := M5 120 k) (show _ = kp I (30 + k) from by rw [kp_120 (by omega)]; exact congrFun (s5.1 120 (by unfold kpc at ho; omega)) k)
        rw [← hM6] at s6
        refine lda_n_3_1 (pc := 77) d_Md_keep_77 ?_
        refine r_bipush (pc := 78) (v := 36) d_Md_keep_78 rfl ?_
        refine ldi_n_3_2 (pc := 80) d_Md_keep_80 ?_
        refine r_iadd (pc := 81) d_Md_keep_81 ?_
        refine lda_n_3_0 (pc := 82) d_Md_keep_82 ?_
        refine g_Md_33 (pc := 83) rfl d_Md_keep_83 (by assumption) (by assumption) ?_
        refine ldi_n_3_2 (pc := 86) d_Md_keep_86 ?_
        refine r_iald (pc := 87) d_Md_keep_87 (by assumption) (by first | exact vp_in_nI (by omega) (by omega) | (unfold vp_in; decide) | exact vp_add 6 rfl (by omega) (by omega) | exact vp_add 12 rfl (by omega) (by omega) | exact vp_add 18 rfl (by omega) (by omega) | exact vp_add 24 rfl (by omega) (by omega) | exact vp_add 30 rfl (by omega) (by omega) | exact vp_add 36 rfl (by omega) (by omega) | exact vp_add 42 rfl (by omega) (by omega) | exact vp_add 66 rfl (by omega) (by omega) | exact vp_add 71 rfl (by omega) (by omega) | exact vp_add 76 rfl (by omega) (by omega) | exact vp_add 81 rfl (by omega) (by omega) | exact vp_add 91 rfl (by omega) (by omega) | exact vp_add 101 rfl (by omega) (by omega) | exact vp_add 109 rfl (by omega) (by omega)) ?_
        refine r_iast (pc := 88) d_Md_keep_88 (by assumption) (by first | exact vp_in_nI (by omega) (by omega) | (unfold vp_in; decide) | exact vp_add 6 rfl (by omega) (by omega) | exact vp_add 12 rfl (by omega) (by omega) | exact vp_add 18 rfl (by omega) (by omega) | exact vp_add 24 rfl (by omega) (by omega) | exact vp_add 30 rfl (by omega) (by omega) | exact vp_add 36 rfl (by omega) (by omega) | exact vp_add 42 rfl (by omega) (by omega) | exact vp_add 66 rfl (by omega) (by omega) | exact vp_add 71 rfl (by omega) (by omega) | exact vp_add 76 rfl (by omega) (by omega) | exact vp_add 81 rfl (by omega) (by omega) | exact vp_add 91 rfl (by omega) (by omega) | exact vp_add 101 rfl (by omega) (by omega) | exact vp_add 109 rfl (by omega) (by omega)) ?_
        refine r_nmI (fun M7 hM7 => ?_)
        rw [qad (c := 36) (k := k) 36 rfl (by omega), qcl (n := k) (by omega)] at hM7
        have s7 := s6.st (n := 36 + k) (x := M6 122 k) (show _ = kp I (36 + k) from by rw [kp_122 (by omega)]; exact congrFun (s6.1 122 (by unfold kpc at ho; omega)) k)
        rw [← hM7] at s7
        refine inc_3_2 (pc := 89) (w := 1) d_Md_keep_89 rfl rfl ?_
        refine r_goto (pc := 92) (tgt := 2) d_Md_keep_92 (by decide) ?_
        rw [q1]
        exact ih _ (s7.mo (fun j hj => by omega))
  exact key0 0 (by omega) I ⟨qOnly.rf, fun j hj => by omega⟩
theorem c_Md_again {o : Nat} (hM : isMd S) (hA : qAr S o 11 125) (ho : ¬ kpc o) : qMet E y_Md_again b_Md_again 3 none 0 0 0 [.ref (qb E + 114), .ref (qb E + o)] S I J (fun v S' I' J' => v = none ∧ S = S' ∧ (qOnly kpc I I' ∧ (∀ j, j ≠ 0 → j ≠ 8 → j ≠ 10 → j ≠ 27 → j ≠ 31 → j ≠ 34 → j ≠ 18 → I' 114 j = I 114 j) ∧ ∀ j, j < 124 → kp I' j = I o j) ∧ J = J') := by
  have f1 := hM.r 0 rfl
  have g1 := hM.a 0 rfl
  have f2 := hM.r 1 rfl
  have g2 := hM.a 1 rfl
  have f3 := hM.r 2 rfl
  have g3 := hM.a 2 rfl
  have f4 := hM.r 3 rfl
  have g4 := hM.a 3 rfl
  have f5 := hM.r 4 rfl
  have g5 := hM.a 4 rfl
  have f6 := hM.r 5 rfl
  have g6 := hM.a 5 rfl
  have f7 := hM.r 6 rfl
  have g7 := hM.a 6 rfl
  have f9 := hM.r 7 rfl
  have g9 := hM.a 7 rfl
  have f28 := hM.r 16 rfl
  have g28 := hM.a 16 rfl
  have f29 := hM.r 17 rfl
  have g29 := hM.a 17 rfl
  have f30 := hM.r 18 rfl
  have g30 := hM.a 18 rfl
  have f32 := hM.r 19 rfl
  have g32 := hM.a 19 rfl
  have f33 := hM.r 20 rfl
  have g33 := hM.a 20 rfl
  have f35 := hM.r 21 rfl
  have g35 := hM.a 21 rfl
  have f36 := hM.r 22 rfl
  have g36 := hM.a 22 rfl
  have hT := hM.1
  refine qMet.of (L := [some (.ref (qb E + 114)), some (.ref (qb E + o)), none]) (by decide +kernel) (Nat.le_of_ble_eq_true rfl) rfl ?_
  refine r_iconst (pc := 0) (v := 0) d_Md_again_0 rfl ?_
  refine sti_n_3_2 (pc := 1) d_Md_again_1 rfl ?_
  rw [q0]
  have key4 : ∀ k, k ≤ 8 → ∀ I2, qBack o I (fun j => j < 101 ∨ (101 ≤ j ∧ j < 101 + k) ∨ (109 ≤ j ∧ j < 109 + k)) I2 → qW E y_Md_again b_Md_again none 0 0 0 (fun v S' I' J' => v = none ∧ S = S' ∧ (qOnly kpc I I' ∧ (∀ j, j ≠ 0 → j ≠ 8 → j ≠ 10 → j ≠ 27 → j ≠ 31 → j ≠ 34 → j ≠ 18 → I' 114 j = I 114 j) ∧ ∀ j, j < 124 → kp I' j = I o j) ∧ J = J') 0 0 210 [some (.ref (qb E + 114)), some (.ref (qb E + o)), some (.int (nI k))] [] S I2 J := by
    refine qfor 8 ?_ ?_
    · intro I2 h2
      refine ldi_n_3_2 (pc := 210) d_Md_again_210 ?_
      refine r_bipush (pc := 211) (v := 8) d_Md_again_211 rfl ?_
      refine r_icmp_ge (pc := 213) (tgt := 246) d_Md_again_213 (by decide) (fun c => ?_) (fun c => ?_)
      · have s0 := h2
        refine lda_n_3_0 (pc := 246) d_Md_again_246 ?_
        refine lda_n_3_1 (pc := 247) d_Md_again_247 ?_
        refine r_bipush (pc := 248) (v := 117) d_Md_again_248 rfl ?_
        refine r_iald (pc := 250) d_Md_again_250 (by assumption) (by first | exact vp_in_nI (by omega) (by omega) | (unfold vp_in; decide) | exact vp_add 6 rfl (by omega) (by omega) | exact vp_add 12 rfl (by omega) (by omega) | exact vp_add 18 rfl (by omega) (by omega) | exact vp_add 24 rfl (by omega) (by omega) | exact vp_add 30 rfl (by omega) (by omega) | exact vp_add 36 rfl (by omega) (by omega) | exact vp_add 42 rfl (by omega) (by omega) | exact vp_add 66 rfl (by omega) (by omega) | exact vp_add 71 rfl (by omega) (by omega) | exact vp_add 76 rfl (by omega) (by omega) | exact vp_add 81 rfl (by omega) (by omega) | exact vp_add 91 rfl (by omega) (by omega) | exact vp_add 101 rfl (by omega) (by omega) | exact vp_add 109 rfl (by omega) (by omega)) ?_
        refine p_Md_117 (pc := 251) rfl d_Md_again_251 (by assumption) ?_
        refine r_nmI (fun M1 hM1 => ?_)
        have s1 := s0.st (n := 117) (x := I2 o 117) (by decide) kpa_f0 (congrFun (s0.at ho) 117) (Or.inr (by decide))
        rw [show qup I2 114 0 (I2 o 117) = M1 from hM1.symm] at s1
        refine lda_n_3_0 (pc := 254) d_Md_again_254 ?_
        refine lda_n_3_1 (pc := 255) d_Md_again_255 ?_
        refine r_bipush (pc := 256) (v := 118) d_Md_again_256 rfl ?_
        refine r_iald (pc := 258) d_Md_again_258 (by assumption) (by first | exact vp_in_nI (by omega) (by omega) | (unfold vp_in; decide) | exact vp_add 6 rfl (by omega) (by omega) | exact vp_add 12 rfl (by omega) (by omega) | exact vp_add 18 rfl (by omega) (by omega) | exact vp_add 24 rfl (by omega) (by omega) | exact vp_add 30 rfl (by omega) (by omega) | exact vp_add 36 rfl (by omega) (by omega) | exact vp_add 42 rfl (by omega) (by omega) | exact vp_add 66 rfl (by omega) (by omega) | exact vp_add 71 rfl (by omega) (by omega) | exact vp_add 76 rfl (by omega) (by omega) | exact vp_add 81 rfl (by omega) (by omega) | exact vp_add 91 rfl (by omega) (by omega) | exact vp_add 101 rfl (by omega) (by omega) | exact vp_add 109 rfl (by omega) (by omega)) ?_
        refine p_Md_124 (pc := 259) rfl d_Md_again_259 (by assumption) ?_
        refine r_nmI (fun M2 hM2 => ?_)
        have s2 := s1.st (n := 118) (x := M1 o 118) (by decide) kpa_f8 (congrFun (s1.at ho) 118) (Or.inr (by decide))
        rw [show qup M1 114 8 (M1 o 118) = M2 from hM2.symm] at s2
        refine lda_n_3_0 (pc := 262) d_Md_again_262 ?_
        refine lda_n_3_1 (pc := 263) d_Md_again_263 ?_
        refine r_bipush (pc := 264) (v := 119) d_Md_again_264 rfl ?_
        refine r_iald (pc := 266) d_Md_again_266 (by assumption) (by first | exact vp_in_nI (by omega) (by omega) | (unfold vp_in; decide) | exact vp_add 6 rfl (by omega) (by omega) | exact vp_add 12 rfl (by omega) (by omega) | exact vp_add 18 rfl (by omega) (by omega) | exact vp_add 24 rfl (by omega) (by omega) | exact vp_add 30 rfl (by omega) (by omega) | exact vp_add 36 rfl (by omega) (by omega) | exact vp_add 42 rfl (by omega) (by omega) | exact vp_add 66 rfl (by omega) (by omega) | exact vp_add 71 rfl (by omega) (by omega) | exact vp_add 76 rfl (by omega) (by omega) | exact vp_add 81 rfl (by omega) (by omega) | exact vp_add 91 rfl (by omega) (by omega) | exact vp_add 101 rfl (by omega) (by omega) | exact vp_add 109 rfl (by omega) (by omega)) ?_
        refine p_Md_135 (pc := 267) rfl d_Md_again_267 (by assumption) ?_
        refine r_nmI (fun M3 hM3 => ?_)
        have s3 := s2.st (n := 119) (x := M2 o 119) (by decide) kpa_f10 (congrFun (s2.at ho) 119) (Or.inr (by decide))
        rw [show qup M2 114 10 (M2 o 119) = M3 from hM3.symm] at s3
        refine lda_n_3_0 (pc := 270) d_Md_again_270 ?_
        refine lda_n_3_1 (pc := 271) d_Md_again_271 ?_
        refine r_bipush (pc := 272) (v := 120) d_Md_again_272 rfl ?_
        refine r_iald (pc := 274) d_Md_again_274 (by assumption) (by first | exact vp_in_nI (by omega) (by omega) | (unfold vp_in; decide) | exact vp_add 6 rfl (by omega) (by omega) | exact vp_add 12 rfl (by omega) (by omega) | exact vp_add 18 rfl (by omega) (by omega) | exact vp_add 24 rfl (by omega) (by omega) | exact vp_add 30 rfl (by omega) (by omega) | exact vp_add 36 rfl (by omega) (by omega) | exact vp_add 42 rfl (by omega) (by omega) | exact vp_add 66 rfl (by omega) (by omega) | exact vp_add 71 rfl (by omega) (by omega) | exact vp_add 76 rfl (by omega) (by omega) | exact vp_add 81 rfl (by omega) (by omega) | exact vp_add 91 rfl (by omega) (by omega) | exact vp_add 101 rfl (by omega) (by omega) | exact vp_add 109 rfl (by omega) (by omega)) ?_
        refine p_Md_314 (pc := 275) rfl d_Md_again_275 (by assumption) ?_
        refine r_nmI (fun M4 hM4 => ?_)
        have s4 := s3.st (n := 120) (x := M3 o 120) (by decide) kpa_f27 (congrFun (s3.at ho) 120) (Or.inr (by decide))
        rw [show qup M3 114 27 (M3 o 120) = M4 from hM4.symm] at s4
        refine lda_n_3_0 (pc := 278) d_Md_again_278 ?_
        refine lda_n_3_1 (pc := 279) d_Md_again_279 ?_
        refine r_bipush (pc := 280) (v := 121) d_Md_again_280 rfl ?_
        refine r_iald (pc := 282) d_Md_again_282 (by assumption) (by first | exact vp_in_nI (by omega) (by omega) | (unfold vp_in; decide) | exact vp_add 6 rfl (by omega) (by omega) | exact vp_add 12 rfl (by omega) (by omega) | exact vp_add 18 rfl (by omega) (by omega) | exact vp_add 24 rfl (by omega) (by omega) | exact vp_add 30 rfl (by omega) (by omega) | exact vp_add 36 rfl (by omega) (by omega) | exact vp_add 42 rfl (by omega) (by omega) | exact vp_add 66 rfl (by omega) (by omega) | exact vp_add 71 rfl (by omega) (by omega) | exact vp_add 76 rfl (by omega) (by omega) | exact vp_add 81 rfl (by omega) (by omega) | exact vp_add 91 rfl (by omega) (by omega) | exact vp_add 101 rfl (by omega) (by omega) | exact vp_add 109 rfl (by omega) (by omega)) ?_
        refine p_Md_333 (pc := 283) rfl d_Md_again_283 (by assumption) ?_
        refine r_nmI (fun M5 hM5 => ?_)
        have s5 := s4.st (n := 121) (x := M4 o 121) (by decide) kpa_f31 (congrFun (s4.at ho) 121) (Or.inr (by decide))
        rw [show qup M4 114 31 (M4 o 121) = M5 from hM5.symm] at s5
        refine lda_n_3_0 (pc := 286) d_Md_again_286 ?_
        refine lda_n_3_1 (pc := 287) d_Md_again_287 ?_
        refine r_bipush (pc := 288) (v := 122) d_Md_again_288 rfl ?_
        refine r_iald (pc := 290) d_Md_again_290 (by assumption) (by first | exact vp_in_nI (by omega) (by omega) | (unfold vp_in; decide) | exact vp_add 6 rfl (by omega) (by omega) | exact vp_add 12 rfl (by omega) (by omega) | exact vp_add 18 rfl (by omega) (by omega) | exact vp_add 24 rfl (by omega) (by omega) | exact vp_add 30 rfl (by omega) (by omega) | exact vp_add 36 rfl (by omega) (by omega) | exact vp_add 42 rfl (by omega) (by omega) | exact vp_add 66 rfl (by omega) (by omega) | exact vp_add 71 rfl (by omega) (by omega) | exact vp_add 76 rfl (by omega) (by omega) | exact vp_add 81 rfl (by omega) (by omega) | exact vp_add 91 rfl (by omega) (by omega) | exact vp_add 101 rfl (by omega) (by omega) | exact vp_add 109 rfl (by omega) (by omega)) ?_
        refine p_Md_336 (pc := 291) rfl d_Md_again_291 (by assumption) ?_
        refine r_nmI (fun M6 hM6 => ?_)
        have s6 := s5.st (n := 122) (x := M5 o 122) (by decide) kpa_f34 (congrFun (s5.at ho) 122) (Or.inr (by decide))
        rw [show qup M5 114 34 (M5 o 122) = M6 from hM6.symm] at s6
        refine lda_n_3_0 (pc := 294) d_Md_again_294 ?_
        refine lda_n_3_1 (pc := 295) d_Md_again_295 ?_
        refine r_bipush (pc := 296) (v := 123) d_Md_again_296 rfl ?_
        refine r_iald (pc := 298) d_Md_again_298 (by assumption) (by first | exact vp_in_nI (by omega) (by omega) | (unfold vp_in; decide) | exact vp_add 6 rfl (by omega) (by omega) | exact vp_add 12 rfl (by omega) (by omega) | exact vp_add 18 rfl (by omega) (by omega) | exact vp_add 24 rfl (by omega) (by omega) | exact vp_add 30 rfl (by omega) (by omega) | exact vp_add 36 rfl (by omega) (by omega) | exact vp_add 42 rfl (by omega) (by omega) | exact vp_add 66 rfl (by omega) (by omega) | exact vp_add 71 rfl (by omega) (by omega) | exact vp_add 76 rfl (by omega) (by omega) | exact vp_add 81 rfl (by omega) (by omega) | exact vp_add 91 rfl (by omega) (by omega) | exact vp_add 101 rfl (by omega) (by omega) | exact vp_add 109 rfl (by omega) (by omega)) ?_
        refine p_Md_113 (pc := 299) rfl d_Md_again_299 (by assumption) ?_
        refine r_nmI (fun M7 hM7 => ?_)
        have s7 := s6.st (n := 123) (x := M6 o 123) (by decide) kpa_f18 (congrFun (s6.at ho) 123) (Or.inr (by decide))
        rw [show qup M6 114 18 (M6 o 123) = M7 from hM7.symm] at s7
        exact r_vret d_Md_again_302 rfl (by omega) (by omega) (⟨rfl, rfl, ⟨s7.1, s7.2.1, fun j hj => s7.2.2 j hj (by omega)⟩, rfl⟩)
      · exact absurd (show nI 8 ≤ nI 8 from by decide) c
    · intro k hk ih I2 h2
      refine ldi_n_3_2 (pc := 210) d_Md_again_210 ?_
      refine r_bipush (pc := 211) (v := 8) d_Md_again_211 rfl ?_
      refine r_icmp_ge (pc := 213) (tgt := 246) d_Md_again_213 (by decide) (fun c => ?_) (fun c => ?_)
      · exact absurd (show nI 8 ≤ nI k from c) (nI_ge hk (by omega))
      · have s0 := h2
        refine lda_n_3_0 (pc := 216) d_Md_again_216 ?_
        refine g_Md_76 (pc := 217) rfl d_Md_again_217 (by assumption) (by assumption) ?_
        refine ldi_n_3_2 (pc := 220) d_Md_again_220 ?_
        refine lda_n_3_1 (pc := 221) d_Md_again_221 ?_
        refine r_bipush (pc := 222) (v := 101) d_Md_again_222 rfl ?_
        refine ldi_n_3_2 (pc := 224) d_Md_again_224 ?_
        refine r_iadd (pc := 225) d_Md_again_225 ?_
        refine r_iald (pc := 226) d_Md_again_226 (by assumption) (by first | exact vp_in_nI (by omega) (by omega) | (unfold vp_in; decide) | exact vp_add 6 rfl (by omega) (by omega) | exact vp_add 12 rfl (by omega) (by omega) | exact vp_add 18 rfl (by omega) (by omega) | exact vp_add 24 rfl (by omega) (by omega) | exact vp_add 30 rfl (by omega) (by omega) | exact vp_add 36 rfl (by omega) (by omega) | exact vp_add 42 rfl (by omega) (by omega) | exact vp_add 66 rfl (by omega) (by omega) | exact vp_add 71 rfl (by omega) (by omega) | exact vp_add 76 rfl (by omega) (by omega) | exact vp_add 81 rfl (by omega) (by omega) | exact vp_add 91 rfl (by omega) (by omega) | exact vp_add 101 rfl (by omega) (by omega) | exact vp_add 109 rfl (by omega) (by omega)) ?_
        refine r_iast (pc := 227) d_Md_again_227 (by assumption) (by first | exact vp_in_nI (by omega) (by omega) | (unfold vp_in; decide) | exact vp_add 6 rfl (by omega) (by omega) | exact vp_add 12 rfl (by omega) (by omega) | exact vp_add 18 rfl (by omega) (by omega) | exact vp_add 24 rfl (by omega) (by omega) | exact vp_add 30 rfl (by omega) (by omega) | exact vp_add 36 rfl (by omega) (by omega) | exact vp_add 42 rfl (by omega) (by omega) | exact vp_add 66 rfl (by omega) (by omega) | exact vp_add 71 rfl (by omega) (by omega) | exact vp_add 76 rfl (by omega) (by omega) | exact vp_add 81 rfl (by omega) (by omega) | exact vp_add 91 rfl (by omega) (by omega) | exact vp_add 101 rfl (by omega) (by omega) | exact vp_add 109 rfl (by omega) (by omega)) ?_
        refine r_nmI (fun M1 hM1 => ?_)
        rw [qad (c := 101) (k := k) 101 rfl (by omega), qcl (n := k) (by omega)] at hM1
        have s1 := s0.st (n := 101 + k) (a := 136) (i := k) (x := I2 o (101 + k)) (by omega) (kpa_136 (by omega)) (congrFun (s0.at ho) (101 + k)) (Or.inl (by decide))
        rw [← hM1] at s1
        refine lda_n_3_0 (pc := 228) d_Md_again_228 ?_
        refine g_Md_79 (pc := 229) rfl d_Md_again_229 (by assumption) (by assumption) ?_
        refine ldi_n_3_2 (pc := 232) d_Md_again_232 ?_
        refine lda_n_3_1 (pc := 233) d_Md_again_233 ?_
        refine r_bipush (pc := 234) (v := 109) d_Md_again_234 rfl ?_
        refine ldi_n_3_2 (pc := 236) d_Md_again_236 ?_
        refine r_iadd (pc := 237) d_Md_again_237 ?_
        refine r_iald (pc := 238) d_Md_again_238 (by assumption) (by first | exact vp_in_nI (by omega) (by omega) | (unfold vp_in; decide) | exact vp_add 6 rfl (by omega) (by omega) | exact vp_add 12 rfl (by omega) (by omega) | exact vp_add 18 rfl (by omega) (by omega) | exact vp_add 24 rfl (by omega) (by omega) | exact vp_add 30 rfl (by omega) (by omega) | exact vp_add 36 rfl (by omega) (by omega) | exact vp_add 42 rfl (by omega) (by omega) | exact vp_add 66 rfl (by omega) (by omega) | exact vp_add 71 rfl (by omega) (by omega) | exact vp_add 76 rfl (by omega) (by omega) | exact vp_add 81 rfl (by omega) (by omega) | exact vp_add 91 rfl (by omega) (by omega) | exact vp_add 101 rfl (by omega) (by omega) | exact vp_add 109 rfl (by omega) (by omega)) ?_
        refine r_iast (pc := 239) d_Md_again_239 (by assumption) (by first | exact vp_in_nI (by omega) (by omega) | (unfold vp_in; decide) | exact vp_add 6 rfl (by omega) (by omega) | exact vp_add 12 rfl (by omega) (by omega) | exact vp_add 18 rfl (by omega) (by omega) | exact vp_add 24 rfl (by omega) (by omega) | exact vp_add 30 rfl (by omega) (by omega) | exact vp_add 36 rfl (by omega) (by omega) | exact vp_add 42 rfl (by omega) (by omega) | exact vp_add 66 rfl (by omega) (by omega) | exact vp_add 71 rfl (by omega) (by omega) | exact vp_add 76 rfl (by omega) (by omega) | exact vp_add 81 rfl (by omega) (by omega) | exact vp_add 91 rfl (by omega) (by omega) | exact vp_add 101 rfl (by omega) (by omega) | exact vp_add 109 rfl (by omega) (by omega)) ?_
        refine r_nmI (fun M2 hM2 => ?_)
        rw [qad (c := 109) (k := k) 109 rfl (by omega), qcl (n := k) (by omega)] at hM2
        have s2 := s1.st (n := 109 + k) (a := 137) (i := k) (x := M1 o (109 + k)) (by omega) (kpa_137 (by omega)) (congrFun (s1.at ho) (109 + k)) (Or.inl (by decide))
        rw [← hM2] at s2
        refine inc_3_2 (pc := 240) (w := 1) d_Md_again_240 rfl rfl ?_
        refine r_goto (pc := 243) (tgt := 210) d_Md_again_243 (by decide) ?_
        rw [q1]
        exact ih _ (s2.mo (fun j hj => by omega))
  have key3 : ∀ k, k ≤ 10 → ∀ I2, qBack o I (fun j => j < 81 ∨ (81 ≤ j ∧ j < 81 + k) ∨ (91 ≤ j ∧ j < 91 + k)) I2 → qW E y_Md_again b_Md_again none 0 0 0 (fun v S' I' J' => v = none ∧ S = S' ∧ (qOnly kpc I I' ∧ (∀ j, j ≠ 0 → j ≠ 8 → j ≠ 10 → j ≠ 27 → j ≠ 31 → j ≠ 34 → j ≠ 18 → I' 114 j = I 114 j) ∧ ∀ j, j < 124 → kp I' j = I o j) ∧ J = J') 0 0 172 [some (.ref (qb E + 114)), some (.ref (qb E + o)), some (.int (nI k))] [] S I2 J := by
    refine qfor 10 ?_ ?_
    · intro I2 h2
      refine ldi_n_3_2 (pc := 172) d_Md_again_172 ?_
      refine r_bipush (pc := 173) (v := 10) d_Md_again_173 rfl ?_
      refine r_icmp_ge (pc := 175) (tgt := 208) d_Md_again_175 (by decide) (fun c => ?_) (fun c => ?_)
      · refine r_iconst (pc := 208) (v := 0) d_Md_again_208 rfl ?_
        refine sti_n_3_2 (pc := 209) d_Md_again_209 rfl ?_
        rw [q0]
        exact key4 0 (by omega) I2 (h2.mo (fun j hj => by omega))
      · exact absurd (show nI 10 ≤ nI 10 from by decide) c
    · intro k hk ih I2 h2
      refine ldi_n_3_2 (pc := 172) d_Md_again_172 ?_
      refine r_bipush (pc := 173) (v := 10) d_Md_again_173 rfl ?_
      refine r_icmp_ge (pc := 175) (tgt := 208) d_Md_again_175 (by decide) (fun c => ?_) (fun c => ?_)
      · exact absurd (show nI 10 ≤ nI k from c) (nI_ge hk (by omega))
      · have s0 := h2
        refine lda_n_3_0 (pc := 178) d_Md_again_178 ?_
        refine g_Md_70 (pc := 179) rfl d_Md_again_179 (by assumption) (by assumption) ?_
        refine ldi_n_3_2 (pc := 182) d_Md_again_182 ?_
        refine lda_n_3_1 (pc := 183) d_Md_again_183 ?_
        refine r_bipush (pc := 184) (v := 81) d_Md_again_184 rfl ?_
        refine ldi_n_3_2 (pc := 186) d_Md_again_186 ?_
        refine r_iadd (pc := 187) d_Md_again_187 ?_
        refine r_iald (pc := 188) d_Md_again_188 (by assumption) (by first | exact vp_in_nI (by omega) (by omega) | (unfold vp_in; decide) | exact vp_add 6 rfl (by omega) (by omega) | exact vp_add 12 rfl (by omega) (by omega) | exact vp_add 18 rfl (by omega) (by omega) | exact vp_add 24 rfl (by omega) (by omega) | exact vp_add 30 rfl (by omega) (by omega) | exact vp_add 36 rfl (by omega) (by omega) | exact vp_add 42 rfl (by omega) (by omega) | exact vp_add 66 rfl (by omega) (by omega) | exact vp_add 71 rfl (by omega) (by omega) | exact vp_add 76 rfl (by omega) (by omega) | exact vp_add 81 rfl (by omega) (by omega) | exact vp_add 91 rfl (by omega) (by omega) | exact vp_add 101 rfl (by omega) (by omega) | exact vp_add 109 rfl (by omega) (by omega)) ?_
        refine r_iast (pc := 189) d_Md_again_189 (by assumption) (by first | exact vp_in_nI (by omega) (by omega) | (unfold vp_in; decide) | exact vp_add 6 rfl (by omega) (by omega) | exact vp_add 12 rfl (by omega) (by omega) | exact vp_add 18 rfl (by omega) (by omega) | exact vp_add 24 rfl (by omega) (by omega) | exact vp_add 30 rfl (by omega) (by omega) | exact vp_add 36 rfl (by omega) (by omega) | exact vp_add 42 rfl (by omega) (by omega) | exact vp_add 66 rfl (by omega) (by omega) | exact vp_add 71 rfl (by omega) (by omega) | exact vp_add 76 rfl (by omega) (by omega) | exact vp_add 81 rfl (by omega) (by omega) | exact vp_add 91 rfl (by omega) (by omega) | exact vp_add 101 rfl (by omega) (by omega) | exact vp_add 109 rfl (by omega) (by omega)) ?_
        refine r_nmI (fun M1 hM1 => ?_)
        rw [qad (c := 81) (k := k) 81 rfl (by omega), qcl (n := k) (by omega)] at hM1
        have s1 := s0.st (n := 81 + k) (a := 134) (i := k) (x := I2 o (81 + k)) (by omega) (kpa_134 (by omega)) (congrFun (s0.at ho) (81 + k)) (Or.inl (by decide))
        rw [← hM1] at s1
        refine lda_n_3_0 (pc := 190) d_Md_again_190 ?_
        refine g_Md_73 (pc := 191) rfl d_Md_again_191 (by assumption) (by assumption) ?_
        refine ldi_n_3_2 (pc := 194) d_Md_again_194 ?_
        refine lda_n_3_1 (pc := 195) d_Md_again_195 ?_
        refine r_bipush (pc := 196) (v := 91) d_Md_again_196 rfl ?_
        refine ldi_n_3_2 (pc := 198) d_Md_again_198 ?_
        refine r_iadd (pc := 199) d_Md_again_199 ?_
        refine r_iald (pc := 200) d_Md_again_200 (by assumption) (by first | exact vp_in_nI (by omega) (by omega) | (unfold vp_in; decide) | exact vp_add 6 rfl (by omega) (by omega) | exact vp_add 12 rfl (by omega) (by omega) | exact vp_add 18 rfl (by omega) (by omega) | exact vp_add 24 rfl (by omega) (by omega) | exact vp_add 30 rfl (by omega) (by omega) | exact vp_add 36 rfl (by omega) (by omega) | exact vp_add 42 rfl (by omega) (by omega) | exact vp_add 66 rfl (by omega) (by omega) | exact vp_add 71 rfl (by omega) (by omega) | exact vp_add 76 rfl (by omega) (by omega) | exact vp_add 81 rfl (by omega) (by omega) | exact vp_add 91 rfl (by omega) (by omega) | exact vp_add 101 rfl (by omega) (by omega) | exact vp_add 109 rfl (by omega) (by omega)) ?_
        refine r_iast (pc := 201) d_Md_again_201 (by assumption) (by first | exact vp_in_nI (by omega) (by omega) | (unfold vp_in; decide) | exact vp_add 6 rfl (by omega) (by omega) | exact vp_add 12 rfl (by omega) (by omega) | exact vp_add 18 rfl (by omega) (by omega) | exact vp_add 24 rfl (by omega) (by omega) | exact vp_add 30 rfl (by omega) (by omega) | exact vp_add 36 rfl (by omega) (by omega) | exact vp_add 42 rfl (by omega) (by omega) | exact vp_add 66 rfl (by omega) (by omega) | exact vp_add 71 rfl (by omega) (by omega) | exact vp_add 76 rfl (by omega) (by omega) | exact vp_add 81 rfl (by omega) (by omega) | exact vp_add 91 rfl (by omega) (by omega) | exact vp_add 101 rfl (by omega) (by omega) | exact vp_add 109 rfl (by omega) (by omega)) ?_
        refine r_nmI (fun M2 hM2 => ?_)
        rw [qad (c := 91) (k := k) 91 rfl (by omega), qcl (n := k) (by omega)] at hM2
        have s2 := s1.st (n := 91 + k) (a := 135) (i := k) (x := M1 o (91 + k)) (by omega) (kpa_135 (by omega)) (congrFun (s1.at ho) (91 + k)) (Or.inl (by decide))
        rw [← hM2] at s2
        refine inc_3_2 (pc := 202) (w := 1) d_Md_again_202 rfl rfl ?_
        refine r_goto (pc := 205) (tgt := 172) d_Md_again_205 (by decide) ?_
        rw [q1]
        exact ih _ (s2.mo (fun j hj => by omega))
  have key2 : ∀ k, k ≤ 5 → ∀ I2, qBack o I (fun j => j < 66 ∨ (66 ≤ j ∧ j < 66 + k) ∨ (71 ≤ j ∧ j < 71 + k) ∨ (76 ≤ j ∧ j < 76 + k)) I2 → qW E y_Md_again b_Md_again none 0 0 0 (fun v S' I' J' => v = none ∧ S = S' ∧ (qOnly kpc I I' ∧ (∀ j, j ≠ 0 → j ≠ 8 → j ≠ 10 → j ≠ 27 → j ≠ 31 → j ≠ 34 → j ≠ 18 → I' 114 j = I 114 j) ∧ ∀ j, j < 124 → kp I' j = I o j) ∧ J = J') 0 0 123 [some (.ref (qb E + 114)), some (.ref (qb E + o)), some (.int (nI k))] [] S I2 J := by
    refine qfor 5 ?_ ?_
    · intro I2 h2
      refine ldi_n_3_2 (pc := 123) d_Md_again_123 ?_
      refine r_iconst (pc := 124) (v := 5) d_Md_again_124 rfl ?_
      refine r_icmp_ge (pc := 125) (tgt := 170) d_Md_again_125 (by decide) (fun c => ?_) (fun c => ?_)
      · refine r_iconst (pc := 170) (v := 0) d_Md_again_170 rfl ?_
        refine sti_n_3_2 (pc := 171) d_Md_again_171 rfl ?_
        rw [q0]
        exact key3 0 (by omega) I2 (h2.mo (fun j hj => by omega))
      · exact absurd (show nI 5 ≤ nI 5 from by decide) c
    · intro k hk ih I2 h2
      refine ldi_n_3_2 (pc := 123) d_Md_again_123 ?_
      refine r_iconst (pc := 124) (v := 5) d_Md_again_124 rfl ?_
      refine r_icmp_ge (pc := 125) (tgt := 170) d_Md_again_125 (by decide) (fun c => ?_) (fun c => ?_)
      · exact absurd (show nI 5 ≤ nI k from c) (nI_ge hk (by omega))
      · have s0 := h2
        refine lda_n_3_0 (pc := 128) d_Md_again_128 ?_
        refine g_Md_61 (pc := 129) rfl d_Md_again_129 (by assumption) (by assumption) ?_
        refine ldi_n_3_2 (pc := 132) d_Md_again_132 ?_
        refine lda_n_3_1 (pc := 133) d_Md_again_133 ?_
        refine r_bipush (pc := 134) (v := 66) d_Md_again_134 rfl ?_
        refine ldi_n_3_2 (pc := 136) d_Md_again_136 ?_
        refine r_iadd (pc := 137) d_Md_again_137 ?_
        refine r_iald (pc := 138) d_Md_again_138 (by assumption) (by first | exact vp_in_nI (by omega) (by omega) | (unfold vp_in; decide) | exact vp_add 6 rfl (by omega) (by omega) | exact vp_add 12 rfl (by omega) (by omega) | exact vp_add 18 rfl (by omega) (by omega) | exact vp_add 24 rfl (by omega) (by omega) | exact vp_add 30 rfl (by omega) (by omega) | exact vp_add 36 rfl (by omega) (by omega) | exact vp_add 42 rfl (by omega) (by omega) | exact vp_add 66 rfl (by omega) (by omega) | exact vp_add 71 rfl (by omega) (by omega) | exact vp_add 76 rfl (by omega) (by omega) | exact vp_add 81 rfl (by omega) (by omega) | exact vp_add 91 rfl (by omega) (by omega) | exact vp_add 101 rfl (by omega) (by omega) | exact vp_add 109 rfl (by omega) (by omega)) ?_
        refine r_iast (pc := 139) d_Md_again_139 (by assumption) (by first | exact vp_in_nI (by omega) (by omega) | (unfold vp_in; decide) | exact vp_add 6 rfl (by omega) (by omega) | exact vp_add 12 rfl (by omega) (by omega) | exact vp_add 18 rfl (by omega) (by omega) | exact vp_add 24 rfl (by omega) (by omega) | exact vp_add 30 rfl (by omega) (by omega) | exact vp_add 36 rfl (by omega) (by omega) | exact vp_add 42 rfl (by omega) (by omega) | exact vp_add 66 rfl (by omega) (by omega) | exact vp_add 71 rfl (by omega) (by omega) | exact vp_add 76 rfl (by omega) (by omega) | exact vp_add 81 rfl (by omega) (by omega) | exact vp_add 91 rfl (by omega) (by omega) | exact vp_add 101 rfl (by omega) (by omega) | exact vp_add 109 rfl (by omega) (by omega)) ?_
        refine r_nmI (fun M1 hM1 => ?_)
        rw [qad (c := 66) (k := k) 66 rfl (by omega), qcl (n := k) (by omega)] at hM1
        have s1 := s0.st (n := 66 + k) (a := 131) (i := k) (x := I2 o (66 + k)) (by omega) (kpa_131 (by omega)) (congrFun (s0.at ho) (66 + k)) (Or.inl (by decide))
        rw [← hM1] at s1
        refine lda_n_3_0 (pc := 140) d_Md_again_140 ?_
        refine g_Md_64 (pc := 141) rfl d_Md_again_141 (by assumption) (by assumption) ?_
        refine ldi_n_3_2 (pc := 144) d_Md_again_144 ?_
        refine lda_n_3_1 (pc := 145) d_Md_again_145 ?_
        refine r_bipush (pc := 146) (v := 71) d_Md_again_146 rfl ?_
        refine ldi_n_3_2 (pc := 148) d_Md_again_148 ?_
        refine r_iadd (pc := 149) d_Md_again_149 ?_
        refine r_iald (pc := 150) d_Md_again_150 (by assumption) (by first | exact vp_in_nI (by omega) (by omega) | (unfold vp_in; decide) | exact vp_add 6 rfl (by omega) (by omega) | exact vp_add 12 rfl (by omega) (by omega) | exact vp_add 18 rfl (by omega) (by omega) | exact vp_add 24 rfl (by omega) (by omega) | exact vp_add 30 rfl (by omega) (by omega) | exact vp_add 36 rfl (by omega) (by omega) | exact vp_add 42 rfl (by omega) (by omega) | exact vp_add 66 rfl (by omega) (by omega) | exact vp_add 71 rfl (by omega) (by omega) | exact vp_add 76 rfl (by omega) (by omega) | exact vp_add 81 rfl (by omega) (by omega) | exact vp_add 91 rfl (by omega) (by omega) | exact vp_add 101 rfl (by omega) (by omega) | exact vp_add 109 rfl (by omega) (by omega)) ?_
        refine r_iast (pc := 151) d_Md_again_151 (by assumption) (by first | exact vp_in_nI (by omega) (by omega) | (unfold vp_in; decide) | exact vp_add 6 rfl (by omega) (by omega) | exact vp_add 12 rfl (by omega) (by omega) | exact vp_add 18 rfl (by omega) (by omega) | exact vp_add 24 rfl (by omega) (by omega) | exact vp_add 30 rfl (by omega) (by omega) | exact vp_add 36 rfl (by omega) (by omega) | exact vp_add 42 rfl (by omega) (by omega) | exact vp_add 66 rfl (by omega) (by omega) | exact vp_add 71 rfl (by omega) (by omega) | exact vp_add 76 rfl (by omega) (by omega) | exact vp_add 81 rfl (by omega) (by omega) | exact vp_add 91 rfl (by omega) (by omega) | exact vp_add 101 rfl (by omega) (by omega) | exact vp_add 109 rfl (by omega) (by omega)) ?_
        refine r_nmI (fun M2 hM2 => ?_)
        rw [qad (c := 71) (k := k) 71 rfl (by omega), qcl (n := k) (by omega)] at hM2
        have s2 := s1.st (n := 71 + k) (a := 132) (i := k) (x := M1 o (71 + k)) (by omega) (kpa_132 (by omega)) (congrFun (s1.at ho) (71 + k)) (Or.inl (by decide))
        rw [← hM2] at s2
        refine lda_n_3_0 (pc := 152) d_Md_again_152 ?_
        refine g_Md_67 (pc := 153) rfl d_Md_again_153 (by assumption) (by assumption) ?_
        refine ldi_n_3_2 (pc := 156) d_Md_again_156 ?_
        refine lda_n_3_1 (pc := 157) d_Md_again_157 ?_
        refine r_bipush (pc := 158) (v := 76) d_Md_again_158 rfl ?_
        refine ldi_n_3_2 (pc := 160) d_Md_again_160 ?_
        refine r_iadd (pc := 161) d_Md_again_161 ?_
        refine r_iald (pc := 162) d_Md_again_162 (by assumption) (by first | exact vp_in_nI (by omega) (by omega) | (unfold vp_in; decide) | exact vp_add 6 rfl (by omega) (by omega) | exact vp_add 12 rfl (by omega) (by omega) | exact vp_add 18 rfl (by omega) (by omega) | exact vp_add 24 rfl (by omega) (by omega) | exact vp_add 30 rfl (by omega) (by omega) | exact vp_add 36 rfl (by omega) (by omega) | exact vp_add 42 rfl (by omega) (by omega) | exact vp_add 66 rfl (by omega) (by omega) | exact vp_add 71 rfl (by omega) (by omega) | exact vp_add 76 rfl (by omega) (by omega) | exact vp_add 81 rfl (by omega) (by omega) | exact vp_add 91 rfl (by omega) (by omega) | exact vp_add 101 rfl (by omega) (by omega) | exact vp_add 109 rfl (by omega) (by omega)) ?_
        refine r_iast (pc := 163) d_Md_again_163 (by assumption) (by first | exact vp_in_nI (by omega) (by omega) | (unfold vp_in; decide) | exact vp_add 6 rfl (by omega) (by omega) | exact vp_add 12 rfl (by omega) (by omega) | exact vp_add 18 rfl (by omega) (by omega) | exact vp_add 24 rfl (by omega) (by omega) | exact vp_add 30 rfl (by omega) (by omega) | exact vp_add 36 rfl (by omega) (by omega) | exact vp_add 42 rfl (by omega) (by omega) | exact vp_add 66 rfl (by omega) (by omega) | exact vp_add 71 rfl (by omega) (by omega) | exact vp_add 76 rfl (by omega) (by omega) | exact vp_add 81 rfl (by omega) (by omega) | exact vp_add 91 rfl (by omega) (by omega) | exact vp_add 101 rfl (by omega) (by omega) | exact vp_add 109 rfl (by omega) (by omega)) ?_
        refine r_nmI (fun M3 hM3 => ?_)
        rw [qad (c := 76) (k := k) 76 rfl (by omega), qcl (n := k) (by omega)] at hM3
        have s3 := s2.st (n := 76 + k) (a := 133) (i := k) (x := M2 o (76 + k)) (by omega) (kpa_133 (by omega)) (congrFun (s2.at ho) (76 + k)) (Or.inl (by decide))
        rw [← hM3] at s3
        refine inc_3_2 (pc := 164) (w := 1) d_Md_again_164 rfl rfl ?_
        refine r_goto (pc := 167) (tgt := 123) d_Md_again_167 (by decide) ?_
        rw [q1]
        exact ih _ (s3.mo (fun j hj => by omega))
  have key1 : ∀ k, k ≤ 24 → ∀ I2, qBack o I (fun j => j < 42 ∨ (42 ≤ j ∧ j < 42 + k)) I2 → qW E y_Md_again b_Md_again none 0 0 0 (fun v S' I' J' => v = none ∧ S = S' ∧ (qOnly kpc I I' ∧ (∀ j, j ≠ 0 → j ≠ 8 → j ≠ 10 → j ≠ 27 → j ≠ 31 → j ≠ 34 → j ≠ 18 → I' 114 j = I 114 j) ∧ ∀ j, j < 124 → kp I' j = I o j) ∧ J = J') 0 0 97 [some (.ref (qb E + 114)), some (.ref (qb E + o)), some (.int (nI k))] [] S I2 J := by
    refine qfor 24 ?_ ?_
    · intro I2 h2
      refine ldi_n_3_2 (pc := 97) d_Md_again_97 ?_
      refine r_bipush (pc := 98) (v := 24) d_Md_again_98 rfl ?_
      refine r_icmp_ge (pc := 100) (tgt := 121) d_Md_again_100 (by decide) (fun c => ?_) (fun c => ?_)
      · refine r_iconst (pc := 121) (v := 0) d_Md_again_121 rfl ?_
        refine sti_n_3_2 (pc := 122) d_Md_again_122 rfl ?_
        rw [q0]
        exact key2 0 (by omega) I2 (h2.mo (fun j hj => by omega))
      · exact absurd (show nI 24 ≤ nI 24 from by decide) c
    · intro k hk ih I2 h2
      refine ldi_n_3_2 (pc := 97) d_Md_again_97 ?_
      refine r_bipush (pc := 98) (v := 24) d_Md_again_98 rfl ?_
      refine r_icmp_ge (pc := 100) (tgt := 121) d_Md_again_100 (by decide) (fun c => ?_) (fun c => ?_)
      · exact absurd (show nI 24 ≤ nI k from c) (nI_ge hk (by omega))
      · have s0 := h2
        refine lda_n_3_0 (pc := 103) d_Md_again_103 ?_
        refine g_Md_30 (pc := 104) rfl d_Md_again_104 (by assumption) (by assumption) ?_
        refine ldi_n_3_2 (pc := 107) d_Md_again_107 ?_
        refine lda_n_3_1 (pc := 108) d_Md_again_108 ?_
        refine r_bipush (pc := 109) (v := 42) d_Md_again_109 rfl ?_
        refine ldi_n_3_2 (pc := 111) d_Md_again_111 ?_
        refine r_iadd (pc := 112) d_Md_again_112 ?_
        refine r_iald (pc := 113) d_Md_again_113 (by assumption) (by first | exact vp_in_nI (by omega) (by omega) | (unfold vp_in; decide) | exact vp_add 6 rfl (by omega) (by omega) | exact vp_add 12 rfl (by omega) (by omega) | exact vp_add 18 rfl (by omega) (by omega) | exact vp_add 24 rfl (by omega) (by omega) | exact vp_add 30 rfl (by omega) (by omega) | exact vp_add 36 rfl (by omega) (by omega) | exact vp_add 42 rfl (by omega) (by omega) | exact vp_add 66 rfl (by omega) (by omega) | exact vp_add 71 rfl (by omega) (by omega) | exact vp_add 76 rfl (by omega) (by omega) | exact vp_add 81 rfl (by omega) (by omega) | exact vp_add 91 rfl (by omega) (by omega) | exact vp_add 101 rfl (by omega) (by omega) | exact vp_add 109 rfl (by omega) (by omega)) ?_
        refine r_iast (pc := 114) d_Md_again_114 (by assumption) (by first | exact vp_in_nI (by omega) (by omega) | (unfold vp_in; decide) | exact vp_add 6 rfl (by omega) (by omega) | exact vp_add 12 rfl (by omega) (by omega) | exact vp_add 18 rfl (by omega) (by omega) | exact vp_add 24 rfl (by omega) (by omega) | exact vp_add 30 rfl (by omega) (by omega) | exact vp_add 36 rfl (by omega) (by omega) | exact vp_add 42 rfl (by omega) (by omega) | exact vp_add 66 rfl (by omega) (by omega) | exact vp_add 71 rfl (by omega) (by omega) | exact vp_add 76 rfl (by omega) (by omega) | exact vp_add 81 rfl (by omega) (by omega) | exact vp_add 91 rfl (by omega) (by omega) | exact vp_add 101 rfl (by omega) (by omega) | exact vp_add 109 rfl (by omega) (by omega)) ?_
        refine r_nmI (fun M1 hM1 => ?_)
        rw [qad (c := 42) (k := k) 42 rfl (by omega), qcl (n := k) (by omega)] at hM1
        have s1 := s0.st (n := 42 + k) (a := 121) (i := k) (x := I2 o (42 + k)) (by omega) (kpa_121 (by omega)) (congrFun (s0.at ho) (42 + k)) (Or.inl (by decide))
        rw [← hM1] at s1
        refine inc_3_2 (pc := 115) (w := 1) d_Md_again_115 rfl rfl ?_
        refine r_goto (pc := 118) (tgt := 97) d_Md_again_118 (by decide) ?_
        rw [q1]
        exact ih _ (s1.mo (fun j hj => by omega))
  have key0 : ∀ k, k ≤ 6 → ∀ I2, qBack o I (fun j => (j < 42 ∧ j % 6 < k)) I2 → qW E y_Md_again b_Md_again none 0 0 0 (fun v S' I' J' => v = none ∧ S = S' ∧ (qOnly kpc I I' ∧ (∀ j, j ≠ 0 → j ≠ 8 → j ≠ 10 → j ≠ 27 → j ≠ 31 → j ≠ 34 → j ≠ 18 → I' 114 j = I 114 j) ∧ ∀ j, j < 124 → kp I' j = I o j) ∧ J = J') 0 0 2 [some (.ref (qb E + 114)), some (.ref (qb E + o)), some (.int (nI k))] [] S I2 J := by
    refine qfor 6 ?_ ?_
    · intro I2 h2
      refine ldi_n_3_2 (pc := 2) d_Md_again_2 ?_
      refine r_bipush (pc := 3) (v := 6) d_Md_again_3 rfl ?_
      refine r_icmp_ge (pc := 5) (tgt := 95) d_Md_again_5 (by decide) (fun c => ?_) (fun c => ?_)
      · refine r_iconst (pc := 95) (v := 0) d_Md_again_95 rfl ?_
        refine sti_n_3_2 (pc := 96) d_Md_again_96 rfl ?_
        rw [q0]
        exact key1 0 (by omega) I2 (h2.mo (fun j hj => by omega))
      · exact absurd (show nI 6 ≤ nI 6 from by decide) c
    · intro k hk ih I2 h2
      refine ldi_n_3_2 (pc := 2) d_Md_again_2 ?_
      refine r_bipush (pc := 3) (v := 6) d_Md_again_3 rfl ?_
      refine r_icmp_ge (pc := 5) (tgt := 95) d_Md_again_5 (by decide) (fun c => ?_) (fun c => ?_)
      · exact absurd (show nI 6 ≤ nI k from c) (nI_ge hk (by omega))
      · have s0 := h2
        refine lda_n_3_0 (pc := 8) d_Md_again_8 ?_
        refine g_Md_9 (pc := 9) rfl d_Md_again_9 (by assumption) (by assumption) ?_
        refine ldi_n_3_2 (pc := 12) d_Md_again_12 ?_
        refine lda_n_3_1 (pc := 13) d_Md_again_13 ?_
        refine ldi_n_3_2 (pc := 14) d_Md_again_14 ?_
        refine r_iald (pc := 15) d_Md_again_15 (by assumption) (by first | exact vp_in_nI (by omega) (by omega) | (unfold vp_in; decide) | exact vp_add 6 rfl (by omega) (by omega) | exact vp_add 12 rfl (by omega) (by omega) | exact vp_add 18 rfl (by omega) (by omega) | exact vp_add 24 rfl (by omega) (by omega) | exact vp_add 30 rfl (by omega) (by omega) | exact vp_add 36 rfl (by omega) (by omega) | exact vp_add 42 rfl (by omega) (by omega) | exact vp_add 66 rfl (by omega) (by omega) | exact vp_add 71 rfl (by omega) (by omega) | exact vp_add 76 rfl (by omega) (by omega) | exact vp_add 81 rfl (by omega) (by omega) | exact vp_add 91 rfl (by omega) (by omega) | exact vp_add 101 rfl (by omega) (by omega) | exact vp_add 109 rfl (by omega) (by omega)) ?_
        refine r_iast (pc := 16) d_Md_again_16 (by assumption) (by first | exact vp_in_nI (by omega) (by omega) | (unfold vp_in; decide) | exact vp_add 6 rfl (by omega) (by omega) | exact vp_add 12 rfl (by omega) (by omega) | exact vp_add 18 rfl (by omega) (by omega) | exact vp_add 24 rfl (by omega) (by omega) | exact vp_add 30 rfl (by omega) (by omega) | exact vp_add 36 rfl (by omega) (by omega) | exact vp_add 42 rfl (by omega) (by omega) | exact vp_add 66 rfl (by omega) (by omega) | exact vp_add 71 rfl (by omega) (by omega) | exact vp_add 76 rfl (by omega) (by omega) | exact vp_add 81 rfl (by omega) (by omega) | exact vp_add 91 rfl (by omega) (by omega) | exact vp_add 101 rfl (by omega) (by omega) | exact vp_add 109 rfl (by omega) (by omega)) ?_
        refine r_nmI (fun M1 hM1 => ?_)
        rw [qcl (n := k) (by omega)] at hM1
        have s1 := s0.st (n := k) (a := 115) (i := k) (x := I2 o (k)) (by omega) (by have e := kpa_115 (k := k) (by omega); rw [Nat.zero_add] at e; exact e) (congrFun (s0.at ho) (k)) (Or.inl (by decide))
        rw [← hM1] at s1
        refine lda_n_3_0 (pc := 17) d_Md_again_17 ?_
        refine g_Md_15 (pc := 18) rfl d_Md_again_18 (by assumption) (by assumption) ?_
        refine ldi_n_3_2 (pc := 21) d_Md_again_21 ?_
        refine lda_n_3_1 (pc := 22) d_Md_again_22 ?_
        refine r_bipush (pc := 23) (v := 6) d_Md_again_23 rfl ?_
        refine ldi_n_3_2 (pc := 25) d_Md_again_25 ?_
        refine r_iadd (pc := 26) d_Md_again_26 ?_
        refine r_iald (pc := 27) d_Md_again_27 (by assumption) (by first | exact vp_in_nI (by omega) (by omega) | (unfold vp_in; decide) | exact vp_add 6 rfl (by omega) (by omega) | exact vp_add 12 rfl (by omega) (by omega) | exact vp_add 18 rfl (by omega) (by omega) | exact vp_add 24 rfl (by omega) (by omega) | exact vp_add 30 rfl (by omega) (by omega) | exact vp_add 36 rfl (by omega) (by omega) | exact vp_add 42 rfl (by omega) (by omega) | exact vp_add 66 rfl (by omega) (by omega) | exact vp_add 71 rfl (by omega) (by omega) | exact vp_add 76 rfl (by omega) (by omega) | exact vp_add 81 rfl (by omega) (by omega) | exact vp_add 91 rfl (by omega) (by omega) | exact vp_add 101 rfl (by omega) (by omega) | exact vp_add 109 rfl (by omega) (by omega)) ?_
        refine r_iast (pc := 28) d_Md_again_28 (by assumption) (by first | exact vp_in_nI (by omega) (by omega) | (unfold vp_in; decide) | exact vp_add 6 rfl (by omega) (by omega) | exact vp_add 12 rfl (by omega) (by omega) | exact vp_add 18 rfl (by omega) (by omega) | exact vp_add 24 rfl (by omega) (by omega) | exact vp_add 30 rfl (by omega) (by omega) | exact vp_add 36 rfl (by omega) (by omega) | exact vp_add 42 rfl (by omega) (by omega) | exact vp_add 66 rfl (by omega) (by omega) | exact vp_add 71 rfl (by omega) (by omega) | exact vp_add 76 rfl (by omega) (by omega) | exact vp_add 81 rfl (by omega) (by omega) | exact vp_add 91 rfl (by omega) (by omega) | exact vp_add 101 rfl (by omega) (by omega) | exact vp_add 109 rfl (by omega) (by omega)) ?_
        refine r_nmI (fun M2 hM2 => ?_)
        rw [qad (c := 6) (k := k) 6 rfl (by omega), qcl (n := k) (by omega)] at hM2
        have s2 := s1.st (n := 6 + k) (a := 116) (i := k) (x := M1 o (6 + k)) (by omega) (kpa_116 (by omega)) (congrFun (s1.at ho) (6 + k)) (Or.inl (by decide))
        rw [← hM2] at s2
        refine lda_n_3_0 (pc := 29) d_Md_again_29 ?_
        refine g_Md_18 (pc := 30) rfl d_Md_again_30 (by assumption) (by assumption) ?_
        refine ldi_n_3_2 (pc := 33) d_Md_again_33 ?_
        refine lda_n_3_1 (pc := 34) d_Md_again_34 ?_
        refine r_bipush (pc := 35) (v := 12) d_Md_again_35 rfl ?_
        refine ldi_n_3_2 (pc := 37) d_Md_again_37 ?_
        refine r_iadd (pc := 38) d_Md_again_38 ?_
        refine r_iald (pc := 39) d_Md_again_39 (by assumption) (by first | exact vp_in_nI (by omega) (by omega) | (unfold vp_in; decide) | exact vp_add 6 rfl (by omega) (by omega) | exact vp_add 12 rfl (by omega) (by omega) | exact vp_add 18 rfl (by omega) (by omega) | exact vp_add 24 rfl (by omega) (by omega) | exact vp_add 30 rfl (by omega) (by omega) | exact vp_add 36 rfl (by omega) (by omega) | exact vp_add 42 rfl (by omega) (by omega) | exact vp_add 66 rfl (by omega) (by omega) | exact vp_add 71 rfl (by omega) (by omega) | exact vp_add 76 rfl (by omega) (by omega) | exact vp_add 81 rfl (by omega) (by omega) | exact vp_add 91 rfl (by omega) (by omega) | exact vp_add 101 rfl (by omega) (by omega) | exact vp_add 109 rfl (by omega) (by omega)) ?_
        refine r_iast (pc := 40) d_Md_again_40 (by assumption) (by first | exact vp_in_nI (by omega) (by omega) | (unfold vp_in; decide) | exact vp_add 6 rfl (by omega) (by omega) | exact vp_add 12 rfl (by omega) (by omega) | exact vp_add 18 rfl (by omega) (by omega) | exact vp_add 24 rfl (by omega) (by omega) | exact vp_add 30 rfl (by omega) (by omega) | exact vp_add 36 rfl (by omega) (by omega) | exact vp_add 42 rfl (by omega) (by omega) | exact vp_add 66 rfl (by omega) (by omega) | exact vp_add 71 rfl (by omega) (by omega) | exact vp_add 76 rfl (by omega) (by omega) | exact vp_add 81 rfl (by omega) (by omega) | exact vp_add 91 rfl (by omega) (by omega) | exact vp_add 101 rfl (by omega) (by omega) | exact vp_add 109 rfl (by omega) (by omega)) ?_
        refine r_nmI (fun M3 hM3 => ?_)
        rw [qad (c := 12) (k := k) 12 rfl (by omega), qcl (n := k) (by omega)] at hM3
        have s3 := s2.st (n := 12 + k) (a := 117) (i := k) (x := M2 o (12 + k)) (by omega) (kpa_117 (by omega)) (congrFun (s2.at ho) (12 + k)) (Or.inl (by decide))
        rw [← hM3] at s3
        refine lda_n_3_0 (pc := 41) d_Md_again_41 ?_
        refine g_Md_21 (pc := 42) rfl d_Md_again_42 (by assumption) (by assumption) ?_
        refine ldi_n_3_2 (pc := 45) d_Md_again_45 ?_
        refine lda_n_3_1 (pc := 46) d_Md_again_46 ?_
        refine r_bipush (pc := 47) (v := 18) d_Md_again_47 rfl ?_
        refine ldi_n_3_2 (pc := 49) d_Md_again_49 ?_
        refine r_iadd (pc := 50) d_Md_again_50 ?_
        refine r_iald (pc := 51) d_Md_again_51 (by assumption) (by first | exact vp_in_nI (by omega) (by omega) | (unfold vp_in; decide) | exact vp_add 6 rfl (by omega) (by omega) | exact vp_add 12 rfl (by omega) (by omega) | exact vp_add 18 rfl (by omega) (by omega) | exact vp_add 24 rfl (by omega) (by omega) | exact vp_add 30 rfl (by omega) (by omega) | exact vp_add 36 rfl (by omega) (by omega) | exact vp_add 42 rfl (by omega) (by omega) | exact vp_add 66 rfl (by omega) (by omega) | exact vp_add 71 rfl (by omega) (by omega) | exact vp_add 76 rfl (by omega) (by omega) | exact vp_add 81 rfl (by omega) (by omega) | exact vp_add 91 rfl (by omega) (by omega) | exact vp_add 101 rfl (by omega) (by omega) | exact vp_add 109 rfl (by omega) (by omega)) ?_
        refine r_iast (pc := 52) d_Md_again_52 (by assumption) (by first | exact vp_in_nI (by omega) (by omega) | (unfold vp_in; decide) | exact vp_add 6 rfl (by omega) (by omega) | exact vp_add 12 rfl (by omega) (by omega) | exact vp_add 18 rfl (by omega) (by omega) | exact vp_add 24 rfl (by omega) (by omega) | exact vp_add 30 rfl (by omega) (by omega) | exact vp_add 36 rfl (by omega) (by omega) | exact vp_add 42 rfl (by omega) (by omega) | exact vp_add 66 rfl (by omega) (by omega) | exact vp_add 71 rfl (by omega) (by omega) | exact vp_add 76 rfl (by omega) (by omega) | exact vp_add 81 rfl (by omega) (by omega) | exact vp_add 91 rfl (by omega) (by omega) | exact vp_add 101 rfl (by omega) (by omega) | exact vp_add 109 rfl (by omega) (by omega)) ?_
        refine r_nmI (fun M4 hM4 => ?_)
        rw [qad (c := 18) (k := k) 18 rfl (by omega), qcl (n := k) (by omega)] at hM4
        have s4 := s3.st (n := 18 + k) (a := 118) (i := k) (x := M3 o (18 + k)) (by omega) (kpa_118 (by omega)) (congrFun (s3.at ho) (18 + k)) (Or.inl (by decide))
        rw [← hM4] at s4
        refine lda_n_3_0 (pc := 53) d_Md_again_53 ?_
        refine g_Md_24 (pc := 54) rfl d_Md_again_54 (by assumption) (by assumption) ?_
        refine ldi_n_3_2 (pc := 57) d_Md_again_57 ?_
        refine lda_n_3_1 (pc := 58) d_Md_again_58 ?_
        refine r_bipush (pc := 59) (v := 24) d_Md_again_59 rfl ?_
        refine ldi_n_3_2 (pc := 61) d_Md_again_61 ?_
        refine r_iadd (pc := 62) d_Md_again_62 ?_
        refine r_iald (pc := 63) d_Md_again_63 (by assumption) (by first | exact vp_in_nI (by omega) (by omega) | (unfold vp_in; decide) | exact vp_add 6 rfl (by omega) (by omega) | exact vp_add 12 rfl (by omega) (by omega) | exact vp_add 18 rfl (by omega) (by omega) | exact vp_add 24 rfl (by omega) (by omega) | exact vp_add 30 rfl (by omega) (by omega) | exact vp_add 36 rfl (by omega) (by omega) | exact vp_add 42 rfl (by omega) (by omega) | exact vp_add 66 rfl (by omega) (by omega) | exact vp_add 71 rfl (by omega) (by omega) | exact vp_add 76 rfl (by omega) (by omega) | exact vp_add 81 rfl (by omega) (by omega) | exact vp_add 91 rfl (by omega) (by omega) | exact vp_add 101 rfl (by omega) (by omega) | exact vp_add 109 rfl (by omega) (by omega)) ?_
        refine r_iast (pc := 64) d_Md_again_64 (by assumption) (by first | exact vp_in_nI (by omega) (by omega) | (unfold vp_in; decide) | exact vp_add 6 rfl (by omega) (by omega) | exact vp_add 12 rfl (by omega) (by omega) | exact vp_add 18 rfl (by omega) (by omega) | exact vp_add 24 rfl (by omega) (by omega) | exact vp_add 30 rfl (by omega) (by omega) | exact vp_add 36 rfl (by omega) (by omega) | exact vp_add 42 rfl (by omega) (by omega) | exact vp_add 66 rfl (by omega) (by omega) | exact vp_add 71 rfl (by omega) (by omega) | exact vp_add 76 rfl (by omega) (by omega) | exact vp_add 81 rfl (by omega) (by omega) | exact vp_add 91 rfl (by omega) (by omega) | exact vp_add 101 rfl (by omega) (by omega) | exact vp_add 109 rfl (by omega) (by omega)) ?_
        refine r_nmI (fun M5 hM5 => ?_)
        rw [qad (c := 24) (k := k) 24 rfl (by omega), qcl (n := k) (by omega)] at hM5
        have s5 := s4.st (n := 24 + k) (a := 119) (i := k) (x := M4 o (24 + k)) (by omega) (kpa_119 (by omega)) (congrFun (s4.at ho) (24 + k)) (Or.inl (by decide))
        rw [← hM5] at s5
        refine lda_n_3_0 (pc := 65) d_Md_again_65 ?_
        refine g_Md_27 (pc := 66) rfl d_Md_again_66 (by assumption) (by assumption) ?_
        refine ldi_n_3_2 (pc := 69) d_Md_again_69 ?_
        refine lda_n_3_1 (pc := 70) d_Md_again_70 ?_
        refine r_bipush (pc := 71) (v := 30) d_Md_again_71 rfl ?_
        refine ldi_n_3_2 (pc := 73) d_Md_again_73 ?_
        refine r_iadd (pc := 74) d_Md_again_74 ?_
        refine r_iald (pc := 75) d_Md_again_75 (by assumption) (by first | exact vp_in_nI (by omega) (by omega) | (unfold vp_in; decide) | exact vp_add 6 rfl (by omega) (by omega) | exact vp_add 12 rfl (by omega) (by omega) | exact vp_add 18 rfl (by omega) (by omega) | exact vp_add 24 rfl (by omega) (by omega) | exact vp_add 30 rfl (by omega) (by omega) | exact vp_add 36 rfl (by omega) (by omega) | exact vp_add 42 rfl (by omega) (by omega) | exact vp_add 66 rfl (by omega) (by omega) | exact vp_add 71 rfl (by omega) (by omega) | exact vp_add 76 rfl (by omega) (by omega) | exact vp_add 81 rfl (by omega) (by omega) | exact vp_add 91 rfl (by omega) (by omega) | exact vp_add 101 rfl (by omega) (by omega) | exact vp_add 109 rfl (by omega) (by omega)) ?_
        refine r_iast (pc := 76) d_Md_again_76 (by assumption) (by first | exact vp_in_nI (by omega) (by omega) | (unfold vp_in; decide) | exact vp_add 6 rfl (by omega) (by omega) | exact vp_add 12 rfl (by omega) (by omega) | exact vp_add 18 rfl (by omega) (by omega) | exact vp_add 24 rfl (by omega) (by omega) | exact vp_add 30 rfl (by omega) (by omega) | exact vp_add 36 rfl (by omega) (by omega) | exact vp_add 42 rfl (by omega) (by omega) | exact vp_add 66 rfl (by omega) (by omega) | exact vp_add 71 rfl (by omega) (by omega) | exact vp_add 76 rfl (by omega) (by omega) | exact vp_add 81 rfl (by omega) (by omega) | exact vp_add 91 rfl (by omega) (by omega) | exact vp_add 101 rfl (by omega) (by omega) | exact vp_add 109 rfl (by omega) (by omega)) ?_
        refine r_nmI (fun M6 hM6 => ?_)
        rw [qad (c := 30) (k := k) 30 rfl (by omega), qcl (n := k) (by omega)] at hM6
        have s6 := s5.st (n := 30 + k) (a := 120) (i := k) (x := M5 o (30 + k)) (by omega) (kpa_120 (by omega)) (congrFun (s5.at ho) (30 + k)) (Or.inl (by decide))
        rw [← hM6] at s6
        refine lda_n_3_0 (pc := 77) d_Md_again_77 ?_
        refine g_Md_33 (pc := 78) rfl d_Md_again_78 (by assumption) (by assumption) ?_
        refine ldi_n_3_2 (pc := 81) d_Md_again_81 ?_
        refine lda_n_3_1 (pc := 82) d_Md_again_82 ?_
        refine r_bipush (pc := 83) (v := 36) d_Md_again_83 rfl ?_
        refine ldi_n_3_2 (pc := 85) d_Md_again_85 ?_
        refine r_iadd (pc := 86) d_Md_again_86 ?_
        refine r_iald (pc := 87) d_Md_again_87 (by assumption) (by first | exact vp_in_nI (by omega) (by omega) | (unfold vp_in; decide) | exact vp_add 6 rfl (by omega) (by omega) | exact vp_add 12 rfl (by omega) (by omega) | exact vp_add 18 rfl (by omega) (by omega) | exact vp_add 24 rfl (by omega) (by omega) | exact vp_add 30 rfl (by omega) (by omega) | exact vp_add 36 rfl (by omega) (by omega) | exact vp_add 42 rfl (by omega) (by omega) | exact vp_add 66 rfl (by omega) (by omega) | exact vp_add 71 rfl (by omega) (by omega) | exact vp_add 76 rfl (by omega) (by omega) | exact vp_add 81 rfl (by omega) (by omega) | exact vp_add 91 rfl (by omega) (by omega) | exact vp_add 101 rfl (by omega) (by omega) | exact vp_add 109 rfl (by omega) (by omega)) ?_
        refine r_iast (pc := 88) d_Md_again_88 (by assumption) (by first | exact vp_in_nI (by omega) (by omega) | (unfold vp_in; decide) | exact vp_add 6 rfl (by omega) (by omega) | exact vp_add 12 rfl (by omega) (by omega) | exact vp_add 18 rfl (by omega) (by omega) | exact vp_add 24 rfl (by omega) (by omega) | exact vp_add 30 rfl (by omega) (by omega) | exact vp_add 36 rfl (by omega) (by omega) | exact vp_add 42 rfl (by omega) (by omega) | exact vp_add 66 rfl (by omega) (by omega) | exact vp_add 71 rfl (by omega) (by omega) | exact vp_add 76 rfl (by omega) (by omega) | exact vp_add 81 rfl (by omega) (by omega) | exact vp_add 91 rfl (by omega) (by omega) | exact vp_add 101 rfl (by omega) (by omega) | exact vp_add 109 rfl (by omega) (by omega)) ?_
        refine r_nmI (fun M7 hM7 => ?_)
        rw [qad (c := 36) (k := k) 36 rfl (by omega), qcl (n := k) (by omega)] at hM7
        have s7 := s6.st (n := 36 + k) (a := 122) (i := k) (x := M6 o (36 + k)) (by omega) (kpa_122 (by omega)) (congrFun (s6.at ho) (36 + k)) (Or.inl (by decide))
        rw [← hM7] at s7
        refine inc_3_2 (pc := 89) (w := 1) d_Md_again_89 rfl rfl ?_
        refine r_goto (pc := 92) (tgt := 2) d_Md_again_92 (by decide) ?_
        rw [q1]
        exact ih _ (s7.mo (fun j hj => by omega))
  exact key0 0 (by omega) I ⟨qOnly.rf, fun _ _ _ _ _ _ _ _ => rfl, fun j _ hj => by omega⟩
end G0
