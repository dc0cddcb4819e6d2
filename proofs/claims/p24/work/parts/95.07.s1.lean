/-! bounds: what one hurts a day is some thousands at most -/
def bN (x : Int32) (A : Nat) : Prop := ∃ n : Nat, n ≤ A ∧ x = nI n
def ib (x : Int32) (A : Nat) : Prop := x.toInt.natAbs ≤ A
theorem bN.ib {x : Int32} {A : Nat} (h : bN x A) (hA : A < 2 ^ 30) : ib x A := by
  obtain ⟨n, hn, rfl⟩ := h
  unfold ib
  rw [nI_toInt (by omega)]
  omega
theorem bN.mono {x : Int32} {A B : Nat} (h : bN x A) (hA : A ≤ B) : bN x B := by
  obtain ⟨n, hn, e⟩ := h
  exact ⟨n, by omega, e⟩
theorem bN.z {A : Nat} : bN 0 A := ⟨0, Nat.zero_le _, rfl⟩
theorem ib.mono {x : Int32} {A B : Nat} (h : ib x A) (hA : A ≤ B) : ib x B := by
  unfold ib at *
  omega
theorem ib.add {x y : Int32} {A B : Nat} (hx : ib x A) (hy : ib y B) (h : A + B < 2 ^ 30) : ib (x + y) (A + B) := by
  unfold ib at *
  rw [Int32.toInt_add, Int.bmod_eq_of_le (by omega) (by omega)]
  omega
theorem ib.sub {x y : Int32} {A B : Nat} (hx : ib x A) (hy : ib y B) (h : A + B < 2 ^ 30) : ib (x - y) (A + B) := by
  unfold ib at *
  rw [Int32.toInt_sub, Int.bmod_eq_of_le (by omega) (by omega)]
  omega
theorem ib.neg {x : Int32} {A : Nat} (hx : ib x A) (h : A < 2 ^ 30) : ib (-x) A := by
  unfold ib at *
  rw [Int32.toInt_neg, Int.bmod_eq_of_le (by omega) (by omega)]
  omega
theorem ib.dbl {x : Int32} {A : Nat} (hx : ib x A) (h : A < 2 ^ 29) : ib (x * 2) (2 * A) := by
  unfold ib at *
  have e : (2 : Int32).toInt = 2 := rfl
  rw [Int32.toInt_mul, e, Int.bmod_eq_of_le (by omega) (by omega)]
  omega
theorem ib.half {x : Int32} {A : Nat} (hx : ib x A) (h : A < 2 ^ 30) : ib (x / 2) A := by
  unfold ib at *
  have e : (2 : Int32).toInt = 2 := rfl
  have e2 : (x.toInt.tdiv 2).natAbs = x.toInt.natAbs / 2 := Int.natAbs_tdiv _ _
  rw [Int32.toInt_div, e]
  generalize x.toInt.tdiv 2 = y at *
  rw [Int.bmod_eq_of_le (by omega) (by omega)]
  omega
theorem ib.max0 {x : Int32} {A : Nat} (hx : ib x A) : bN (qmax 0 x) A := by
  unfold qmax
  by_cases q : (0 : Int32) < x
  · rw [if_pos q]
    have e0 : (0 : Int32).toInt = 0 := rfl
    obtain ⟨j, j1, rfl⟩ := nI_of (x := x) (fun w => by
      rw [Int32.lt_iff_toInt_lt, e0] at w q
      omega)
    unfold ib at hx
    rw [nI_toInt j1] at hx
    exact ⟨j, by omega, rfl⟩
  · rw [if_neg q]; exact bN.z
theorem bN_min {x : Int32} {A B : Nat} (hx : bN x B) (hB : B < 2 ^ 31) (hA : A < 2 ^ 31) : bN (qmin (nI A) x) A := by
  obtain ⟨n, hn, rfl⟩ := hx
  unfold qmin
  by_cases q : nI n < nI A
  · rw [if_pos q]
    have := (nI_ltI (by omega) hA).mp q
    exact ⟨n, by omega, rfl⟩
  · rw [if_neg q]; exact ⟨A, Nat.le_refl _, rfl⟩
theorem bN.wit {x A : Int32} {n : Nat} (hA : A.toInt = n) (h : ¬ qwithin x 0 A = 0) : bN x n := by
  obtain ⟨h1, h2⟩ := qwithin_y h
  exact nI_of2 hA (Int32.not_lt.mpr h1) h2
theorem qsumN_ib {I : qI} {o : Nat} {vs : Nat → Int32} {g : Int32} (hg : ib g 99) : ∀ j, j ≤ 10 → (∀ i, i < j → ib (I (o + 2) i) 99) → ib (qsumN I o vs g j) (99 + 99 * j) := by
  intro j
  induction j with
  | zero => intro _ _; exact hg
  | succ j ih =>
    intro hj hi
    have h1 := ih (by omega) (fun i hi' => hi i (by omega))
    rw [qsumN]
    split
    · exact h1.mono (by omega)
    · exact (h1.add (hi j (by omega)) (by omega)).mono (by omega)
/-- what an island's clauses add -/
def bIs (I : qI) (w : Nat) : Prop := ∀ z, z ≤ 10 → I w 4 = nI z → ∀ j, j < z → ib (I (w + 2) j) 99
/-- one's numbers -/
def bMo (I : qI) (m : Nat) : Prop := bN (I m 2) 9 ∧ bN (I m 3) 99 ∧ bN (I m 4) 99 ∧ ∀ r, r < 4 → bN (I (m + 1) r) 9
theorem qpain_b {I : qI} {i m dd : Nat} {w : Int32} (hI : qIsOK I i) (hb : bIs I i) (hm : bMo I m) (hw : bN w 99) (hdd : dd < 2 ^ 31) : bN (qpain I i m (nI dd) w) 4000 := by
  obtain ⟨⟨c, c10, hc, -⟩, -⟩ := hI
  obtain ⟨m2, m3, m4, mr⟩ := hm
  have hs : ib (qsum I i (qvals I m (nI dd) w) (I m 3)) 1089 := by
    unfold qsum
    rw [hc, qcl (by omega)]
    exact (qsumN_ib (m3.ib (by omega)) c c10 (hb c c10 hc)).mono (by omega)
  have hw' := hw.ib (by omega)
  have h2 := m2.ib (by omega)
  unfold qpain
  generalize qsum I i (qvals I m (nI dd) w) (I m 3) = s at *
  refine ib.max0 ?_
  have hsv : ib (qsaved I m s w) 2178 := by
    unfold qsaved
    split
    · exact (hs.half (by omega)).mono (by omega)
    · exact (hs.dbl (by omega)).mono (by omega)
  unfold qpainBy
  split
  · exact (hs.add hw' (by omega)).mono (by omega)
  split
  · exact (hs.sub hw' (by omega)).mono (by omega)
  split
  · exact hsv.mono (by omega)
  split
  · exact ((hs.add hw' (by omega)).add h2 (by omega)).mono (by omega)
  split
  · split
    · exact (hs.sub hw' (by omega)).mono (by omega)
    · exact (bN.z (A := 0)).ib (by omega) |>.mono (by omega)
  split
  · have r4 := Nat.mod_lt dd (show 4 > 0 by decide)
    rw [qmod4 hdd, qcl (by omega)]
    exact (hsv.add ((mr _ r4).ib (by omega)) (by omega)).mono (by omega)
  · exact hs.mono (by omega)
theorem bN.sum {f : Nat → Int32} {A : Nat} (n : Nat) (hA : n * A < 2 ^ 30) (h : ∀ t, t < n → bN (f t) A) : bN (qsumP f n) (n * A) := by
  induction n with
  | zero => exact bN.z
  | succ n ih =>
    rw [Nat.succ_mul] at hA ⊢
    obtain ⟨a, a1, e1⟩ := ih (by omega) (fun t ht => h t (by omega))
    obtain ⟨b, b1, e2⟩ := h n (by omega)
    exact ⟨a + b, by omega, by rw [qsumP, e1, e2, nI_add]⟩
theorem wH_b {lost pn : Nat → Int32} (h : ∀ t, t ≤ 11 → bN (pn t) 4000) (j : Nat) (hj : j < 6) : bN (wH lost pn j) 44000 := by
  have ht := wT_le (lost := lost) j
  unfold wH
  have e : wT lost j * 4000 ≤ 11 * 4000 := Nat.mul_le_mul_right _ (by omega)
  exact (bN.sum (wT lost j) (by omega) (fun t h2 => h t (by omega))).mono (by omega)
