/-! bounds: what one hurts a day is some thousands at most -/
def bN (x : Int32) (A : Nat) : Prop := ∃ n : Nat, n ≤ A ∧ x = nI n
def ib (x : Int32) (A : Nat) : Prop := x.toInt.natAbs ≤ A
theorem bN.toib {x : Int32} {A : Nat} (h : bN x A) (hA : A < 2 ^ 30) : ib x A := by
  obtain ⟨n, hn, rfl⟩ := h
  unfold ib
  rw [nI_toInt (by omega)]
  omega
theorem bN.mono {x : Int32} {A B : Nat} (h : bN x A) (hA : A ≤ B) : bN x B := by
  obtain ⟨n, hn, e⟩ := h
  exact ⟨n, by omega, e⟩
theorem bN.z {A : Nat} : bN 0 A := ⟨0, Nat.zero_le _, rfl⟩
theorem ib.mono {x : Int32} {A B : Nat} (h : ib x A) (hA : A ≤ B) : ib x B := by
  unfold ib at *
  omega
theorem ib.add {x y : Int32} {A B : Nat} (hx : ib x A) (hy : ib y B) (h : A + B < 2 ^ 30) : ib (x + y) (A + B) := by
  unfold ib at *
  rw [Int32.toInt_add, Int.bmod_eq_of_le (by omega) (by omega)]
  omega
theorem ib.sub {x y : Int32} {A B : Nat} (hx : ib x A) (hy : ib y B) (h : A + B < 2 ^ 30) : ib (x - y) (A + B) := by
  unfold ib at *
  rw [Int32.toInt_sub, Int.bmod_eq_of_le (by omega) (by omega)]
  omega
theorem ib.neg {x : Int32} {A : Nat} (hx : ib x A) (h : A < 2 ^ 30) : ib (-x) A := by
  unfold ib at *
  rw [Int32.toInt_neg, Int.bmod_eq_of_le (by omega) (by omega)]
  omega
theorem ib.dbl {x : Int32} {A : Nat} (hx : ib x A) (h : A < 2 ^ 29) : ib (x * 2) (2 * A) := by
  unfold ib at *
  have e : (2 : Int32).toInt = 2 := rfl
  rw [Int32.toInt_mul, e, Int.bmod_eq_of_le (by omega) (by omega)]
  omega
theorem ib.half {x : Int32} {A : Nat} (hx : ib x A) (h : A < 2 ^ 30) : ib (x / 2) A := by
  unfold ib at *
  have e : (2 : Int32).toInt = 2 := rfl
  have e2 : (x.toInt.tdiv 2).natAbs = x.toInt.natAbs / 2 := Int.natAbs_tdiv _ _
  rw [Int32.toInt_div, e]
  generalize x.toInt.tdiv 2 = y at *
  rw [Int.bmod_eq_of_le (by omega) (by omega)]
  omega
theorem ib.max0 {x : Int32} {A : Nat} (hx : ib x A) : bN (qmax 0 x) A := by
  unfold qmax
  by_cases q : (0 : Int32) < x
  · rw [if_pos q]
    have e0 : (0 : Int32).toInt = 0 := rfl
    obtain ⟨j, j1, rfl⟩ := nI_of (x := x) (fun w => by
      rw [Int32.lt_iff_toInt_lt, e0] at w q
      omega)
    unfold ib at hx
    rw [nI_toInt j1] at hx
    exact ⟨j, by omega, rfl⟩
  · rw [if_neg q]; exact bN.z
theorem bN_min {x : Int32} {A B : Nat} (hx : bN x B) (hB : B < 2 ^ 31) (hA : A < 2 ^ 31) : bN (qmin (nI A) x) A := by
  obtain ⟨n, hn, rfl⟩ := hx
  unfold qmin
  by_cases q : nI n < nI A
  · rw [if_pos q]
    have := (nI_ltI (by omega) hA).mp q
    exact ⟨n, by omega, rfl⟩
  · rw [if_neg q]; exact ⟨A, Nat.le_refl _, rfl⟩
theorem bN.wit {x A : Int32} {n : Nat} (hA : A.toInt = n) (h : ¬ qwithin x 0 A = 0) : bN x n := by
  obtain ⟨h1, h2⟩ := qwithin_y h
  exact nI_of2 hA (Int32.not_lt.mpr h1) h2
theorem qsumN_ib {I : qI} {o : Nat} {vs : Nat → Int32} {g : Int32} (hg : ib g 99) : ∀ j, j ≤ 10 → (∀ i, i < j → ib (I (o + 2) i) 99) → ib (qsumN I o vs g j) (99 + 99 * j) := by
  intro j
  induction j with
  | zero => intro _ _; exact hg
  | succ j ih =>
    intro hj hi
    have h1 := ih (by omega) (fun i hi' => hi i (by omega))
    rw [qsumN]
    split
    · exact h1.mono (by omega)
    · exact (h1.add (hi j (by omega)) (by omega)).mono (by omega)
/-- what an island's clauses add -/
def bIs (I : qI) (w : Nat) : Prop := ∀ z, z ≤ 10 → I w 4 = nI z → ∀ j, j < z → ib (I (w + 2) j) 99
/-- one's numbers -/
def bMo (I : qI) (m : Nat) : Prop := bN (I m 2) 9 ∧ bN (I m 3) 99 ∧ bN (I m 4) 99 ∧ ∀ r, r < 4 → bN (I (m + 1) r) 9
theorem qpain_b {I : qI} {i m dd : Nat} {w : Int32} (hI : qIsOK I i) (hb : bIs I i) (hm : bMo I m) (hw : bN w 99) (hdd : dd < 2 ^ 31) : bN (qpain I i m (nI dd) w) 4000 := by
  obtain ⟨⟨c, c10, hc, -⟩, -⟩ := hI
  obtain ⟨m2, m3, m4, mr⟩ := hm
  have hs : ib (qsum I i (qvals I m (nI dd) w) (I m 3)) 1089 := by
    unfold qsum
    rw [hc, qcl (by omega)]
    exact (qsumN_ib (m3.toib (by omega)) c c10 (hb c c10 hc)).mono (by omega)
  have hw' := hw.toib (by omega)
  have h2 := m2.toib (by omega)
  unfold qpain
  generalize qsum I i (qvals I m (nI dd) w) (I m 3) = s at *
  refine ib.max0 ?_
  have hsv : ib (qsaved I m s w) 2178 := by
    unfold qsaved
    split
    · exact (hs.half (by omega)).mono (by omega)
    · exact (hs.dbl (by omega)).mono (by omega)
  unfold qpainBy
  split
  · exact (hs.add hw' (by omega)).mono (by omega)
  split
  · exact (hs.sub hw' (by omega)).mono (by omega)
  split
  · exact hsv.mono (by omega)
  split
  · exact ((hs.add hw' (by omega)).add h2 (by omega)).mono (by omega)
  split
  · split
    · exact (hs.sub hw' (by omega)).mono (by omega)
    · exact (bN.z (A := 0)).toib (by omega) |>.mono (by omega)
  split
  · have r4 := Nat.mod_lt dd (show 4 > 0 by decide)
    rw [qmod4 hdd, qcl (by omega)]
    exact (hsv.add ((mr _ r4).toib (by omega)) (by omega)).mono (by omega)
  · exact hs.mono (by omega)
theorem bN.sum {f : Nat → Int32} {A : Nat} (n : Nat) (hA : n * A < 2 ^ 30) (h : ∀ t, t < n → bN (f t) A) : bN (qsumP f n) (n * A) := by
  induction n with
  | zero => exact bN.z
  | succ n ih =>
    rw [Nat.succ_mul] at hA ⊢
    obtain ⟨a, a1, e1⟩ := ih (by omega) (fun t ht => h t (by omega))
    obtain ⟨b, b1, e2⟩ := h n (by omega)
    exact ⟨a + b, by omega, by rw [qsumP, e1, e2, nI_add]⟩
theorem wH_b {lost pn : Nat → Int32} (h : ∀ t, t ≤ 11 → bN (pn t) 4000) (j : Nat) (hj : j < 6) : bN (wH lost pn j) 44000 := by
  have ht := wT_le (lost := lost) j
  unfold wH
  have e : wT lost j * 4000 ≤ 11 * 4000 := Nat.mul_le_mul_right _ (by omega)
  exact (bN.sum (wT lost j) (by omega) (fun t h2 => h t (by omega))).mono (by omega)
/-! the numbers that make hurts stay in their bounds, over every call -/
def bD (j : Nat) : Prop := (6 ≤ j ∧ j < 24) ∨ (42 ≤ j ∧ j < 66)
def bT (j : Nat) : Nat := if j < 12 then 9 else if j < 24 then 99 else 9
def bP (f : Nat → Int32) : Prop := ∀ j, j < 66 → bD j → bN (f j) (bT j)
theorem kpa_t : ∀ j, j < 66 → 115 ≤ (kpa j).1 ∧ (kpa j).1 ≤ 122 := by decide +kernel
theorem kb0 : ∀ j, j < 66 → ((6 ≤ j ∧ j < 24) ∨ (42 ≤ j ∧ j < 66)) → ((kpa j).1 = 116 ∧ bT j = 9) ∨ ((kpa j).1 = 117 ∧ bT j = 99) ∨ ((kpa j).1 = 118 ∧ bT j = 99) ∨ ((kpa j).1 = 121 ∧ bT j = 9) := by decide +kernel
theorem kb {j : Nat} (hj : j < 66) (h : bD j) : ((kpa j).1 = 116 ∧ bT j = 9) ∨ ((kpa j).1 = 117 ∧ bT j = 99) ∨ ((kpa j).1 = 118 ∧ bT j = 99) ∨ ((kpa j).1 = 121 ∧ bT j = 9) := kb0 j hj h
theorem bP.cg {f g : Nat → Int32} (h : bP f) (e : ∀ j, j < 66 → g j = f j) : bP g := fun j hj hd => by
  rw [e j hj]
  exact h j hj hd
theorem bP.up {I : qI} {a i : Nat} {x : Int32} (h : bP (kp I)) (hx : (a = 116 → bN x 9) ∧ (a = 117 → bN x 99) ∧ (a = 118 → bN x 99) ∧ (a = 121 → bN x 9)) : bP (kp (qup I a i x)) := fun j hj hd => by
  by_cases q : (kpa j).1 = a ∧ (kpa j).2 = i
  · have e : kp (qup I a i x) j = x := by
      show qup I a i x (kpa j).1 (kpa j).2 = x
      rw [q.1, q.2, qup_at]
    rw [e]
    rcases kb hj hd with ⟨e, b⟩ | ⟨e, b⟩ | ⟨e, b⟩ | ⟨e, b⟩
    · rw [b]; exact hx.1 (q.1.symm.trans e)
    · rw [b]; exact hx.2.1 (q.1.symm.trans e)
    · rw [b]; exact hx.2.2.1 (q.1.symm.trans e)
    · rw [b]; exact hx.2.2.2 (q.1.symm.trans e)
  · rw [kp_up0 q]
    exact h j hj hd
/-- the reference's calls: what they leave of this -/
def tFr (I I' : qI) : Prop := I' 139 = I 139 ∧ (bP (kp I) → bP (kp I'))
theorem tFr.rf {I : qI} : tFr I I := ⟨rfl, id⟩
theorem tFr.up {I I' : qI} {a j : Nat} {x : Int32} (h : tFr I I') (ha : a ≠ 139) (hx : (a = 116 → bN x 9) ∧ (a = 117 → bN x 99) ∧ (a = 118 → bN x 99) ∧ (a = 121 → bN x 9)) : tFr I (qup I' a j x) := ⟨by rw [qup_row (Ne.symm ha)]; exact h.1, fun b => (h.2 b).up hx⟩
theorem tFr.oth {I I' : qI} {a j : Nat} {x : Int32} (h : tFr I I') (ha : a ≠ 116 ∧ a ≠ 117 ∧ a ≠ 118 ∧ a ≠ 121 ∧ a ≠ 139) : tFr I (qup I' a j x) := h.up (by omega) ⟨fun e => absurd e (by omega), fun e => absurd e (by omega), fun e => absurd e (by omega), fun e => absurd e (by omega)⟩
theorem tFr.up6 {I I' : qI} {j : Nat} {x : Int32} (h : tFr I I') (hx : bN x 9) : tFr I (qup I' 116 j x) := h.up (by omega) ⟨fun _ => hx, fun e => absurd e (by omega), fun e => absurd e (by omega), fun e => absurd e (by omega)⟩
theorem tFr.up7 {I I' : qI} {j : Nat} {x : Int32} (h : tFr I I') (hx : bN x 99) : tFr I (qup I' 117 j x) := h.up (by omega) ⟨fun e => absurd e (by omega), fun _ => hx, fun e => absurd e (by omega), fun e => absurd e (by omega)⟩
theorem tFr.up8 {I I' : qI} {j : Nat} {x : Int32} (h : tFr I I') (hx : bN x 99) : tFr I (qup I' 118 j x) := h.up (by omega) ⟨fun e => absurd e (by omega), fun e => absurd e (by omega), fun _ => hx, fun e => absurd e (by omega)⟩
theorem tFr.up1 {I I' : qI} {j : Nat} {x : Int32} (h : tFr I I') (hx : bN x 9) : tFr I (qup I' 121 j x) := h.up (by omega) ⟨fun e => absurd e (by omega), fun e => absurd e (by omega), fun e => absurd e (by omega), fun _ => hx⟩
theorem tFr.trc {I0 I : qI} (l : List Int32) (h : tFr I0 I) : tFr I0 (mtrace I l) := ⟨by rw [mtrace_row (by omega) (by omega)]; exact h.1, fun b => (h.2 b).cg (fun j hj => by
  unfold kp
  rw [mtrace_row (by have := kpa_t j hj; omega) (by have := kpa_t j hj; omega)])⟩
/-- days -/
theorem bP_goPs {I : qI} {one : Int32} (h : bP (kp I)) : ∀ n, n ≤ 6 → bP (kp (mgoPs I one n)) := by
  intro n
  induction n with
  | zero => intro _; exact h
  | succ n ih =>
    intro hn
    have hK := ih (by omega)
    rw [mgoPs]
    generalize mgoPs I one n = K at *
    unfold mgoP
    split
    · exact hK
    split
    · exact hK
    have b8 : bN (K 118 n) 99 := by
      have b := hK (18 + n) (by omega) (Or.inl (by omega))
      have e : bT (18 + n) = 99 := by unfold bT; rw [if_neg (by omega), if_pos (by omega)]
      rw [kp_118 (by omega), e] at b
      exact b
    obtain ⟨m, m1, em⟩ := b8
    refine (hK.up (a := 119) ⟨fun e => absurd e (by omega), fun e => absurd e (by omega), fun e => absurd e (by omega), fun e => absurd e (by omega)⟩).up ⟨fun e => absurd e (by omega), fun e => absurd e (by omega), fun _ => ?_, fun e => absurd e (by omega)⟩
    rw [em, q1]
    exact bN_min (A := 99) (B := 100) ⟨m + 1, by omega, rfl⟩ (by omega) (by omega)
theorem bP_go1 {I : qI} (h : bP (kp I)) (hn : (I 114 0).toNatClampNeg ≤ 6) : bP (kp (mgo1 I)) := by
  have n4 : ∀ a : Nat, (a = 114 ∨ a = 120) → (a = 116 → bN (0 : Int32) 9) ∧ (a = 117 → bN (0 : Int32) 99) ∧ (a = 118 → bN (0 : Int32) 99) ∧ (a = 121 → bN (0 : Int32) 9) := fun a ha => ⟨fun _ => bN.z, fun _ => bN.z, fun _ => bN.z, fun _ => bN.z⟩
  unfold mgo1
  refine bP.up ?_ ⟨fun e => absurd e (by omega), fun e => absurd e (by omega), fun e => absurd e (by omega), fun e => absurd e (by omega)⟩
  split
  · exact bP_goPs h _ hn
  · exact (bP_goPs h _ hn).up ⟨fun e => absurd e (by omega), fun e => absurd e (by omega), fun e => absurd e (by omega), fun e => absurd e (by omega)⟩
theorem bP_passN {I : qI} {c : Nat} (h : bP (kp I)) (hc : I 114 0 = nI c) (c6 : c ≤ 6) : ∀ n, bP (kp (mpassN I n)) := by
  intro n
  induction n with
  | zero => exact h
  | succ n ih =>
    have hg : bP (kp (mgo1 (mpassN I n))) := bP_go1 ih (by rw [mpassN_f (by decide), hc, qcl (by omega)]; exact c6)
    rw [mpassN]
    intro j hj hd
    have e : kp (mclN (mgo1 (mpassN I n)) (I 114 0).toNatClampNeg) j = kp (mgo1 (mpassN I n)) j := by
      unfold kp
      rw [mclN_row (by have := kb hj hd; omega)]
    rw [e]
    exact hg j hj hd
/-- numbers of the text -/
theorem dig_b {x v : Int32} {A : Nat} (hv : bN v A) (hA : A ≤ 9) (h1 : 48 ≤ x) (h2 : x ≤ 57) : bN (10 * v + x - 48) (10 * A + 9) := by
  obtain ⟨a, a1, rfl⟩ := hv
  obtain ⟨d, d1, rfl⟩ := nI_of2 (x := x) (M := 57) (n := 57) rfl (fun w => absurd (Int32.lt_of_le_of_lt h1 w) (by decide)) h2
  have d48 : 48 ≤ d := (nI_leI (a := 48) (b := d) (by omega) (by omega)).mp h1
  obtain ⟨k, rfl⟩ : ∃ k, d = k + 48 := ⟨d - 48, by omega⟩
  refine ⟨10 * a + k, by omega, ?_⟩
  rw [show (10 : Int32) = nI 10 from rfl, pk_mul, ← nI_add k 48, ← Int32.add_assoc, show (48 : Int32) = nI 48 from rfl, Int32.add_sub_cancel, nI_add]
theorem rnum_b {f : Nat → Int32} {n : Nat} {s : qSt} : bN (rnum f n s).1 99 := by
  have key : bN (rnumL f n 2 0 0 s).1 99 := by
    rw [rnumL]
    split
    · rename_i h
      have b1 := dig_b (A := 0) bN.z (by omega) h.1 h.2
      rw [rnumL]
      split
      · rename_i h2
        exact dig_b (A := 9) b1 (by omega) h2.1 h2.2
      · exact b1.mono (by omega)
    · exact bN.z
  unfold rnum
  split
  · exact key
  · exact key
def rcB (c : qCl) : Prop := ∀ e, e ∈ c.2.1 → ib e.1 99
theorem rcB.clause {f : Nat → Int32} {n : Nat} {c : qCl} (h : rcB c) : rcB (rclause f n c) := by
  unfold rclause
  split
  · intro e he
    replace he : e ∈ rendc _ _ c.2.1 := he
    unfold rendc at he
    split at he
    · rw [List.mem_append] at he
      rcases he with he | he
      · exact h e he
      · rw [List.mem_singleton] at he
        subst he
        show ib (if _ then _ else _) 99
        split
        · exact rnum_b.toib (by omega)
        · exact (rnum_b.toib (by omega)).neg (by omega)
    · exact h e he
  · exact h
theorem rcB.readN {f : Nat → Int32} {n : Nat} : ∀ m (c : qCl), rcB c → rcB (rreadN f n m c) := by
  intro m
  induction m with
  | zero => intro c h; exact h
  | succ m ih =>
    intro c h
    rw [rreadN]
    split
    · exact ih _ (rcB.clause (c := (radv c.1, c.2.1, c.2.2)) h)
    · exact h
theorem rread_b {f : Nat → Int32} {n : Nat} : rcB (rread f n) := rcB.readN 9 _ (rcB.clause (c := ((0, false, []), [], 0)) (fun e he => absurd he (List.not_mem_nil)))
/-- the islands -/
def bIl (S : qSh) (I : qI) : Prop := (∀ w, qR S 6 5 = some w → bIs I w) ∧ (I 0 4 = 1 → ∀ w, qR S 60 5 = some w → bIs I w)
theorem bIs.fr {I I' : qI} {w w' : Nat} (h : bIs I w) (hk : ∀ b, b ≤ 3 → I' (w' + b) = I (w + b)) : bIs I' w' := by
  have k0 : I' w' = I w := hk 0 (by omega)
  intro z hz e j hj
  rw [k0] at e
  rw [hk 2 (by omega)]
  exact h z hz e j hj
theorem bIs.rd {I0 K I' : qI} {o n : Nat} {f : Nat → Int32} (h : qRc I0 o n (rread f n) K) (hk : ∀ b, b ≤ 3 → I' (o + b) = K (o + b)) : bIs I' o := by
  have k0 : I' o = K o := hk 0 (by omega)
  obtain ⟨h1, h2, h3, h4, h5, h6, h7⟩ := h
  intro z hz e j hj
  have ez : (rread f n).2.1.length = z := (nI_eq (by omega) (by omega)).mp (h4.symm.trans (k0 ▸ e))
  rw [hk 2 (by omega), (h6 j (by omega)).1]
  refine rread_b (f := f) (n := n) _ ?_
  rw [List.getD_eq_getElem?_getD, List.getElem?_eq_getElem (show j < (rread f n).2.1.length by omega)]
  exact List.getElem_mem _
def tTie (S : qSh) (I : qI) : Prop := bP (kp I) ∧ bP (I 139) ∧ bIl S I
def tINV (S : qSh) (I : qI) (J : qJ) : Prop := uINV S I J ∧ tTie S I
section S2
variable {S S1 S2 : qSh} {I I1 I2 : qI} {J J1 J2 : qJ} {T T2 : qI → Prop} {v v2 : Option Value}
/-- the rows of an island behind the reference's call -/
theorem bIs.far {w : Nat} (h : bIs I1 w) (hw : qW1 w) (rf : rFar I1 I2 J1 J2) : bIs I2 w := by
  unfold qW1 at hw
  exact h.fr (fun b hb => (rf (w + b) (by omega)).1)
theorem tTie.mk (h : tTie S I) (g : uINV S I J) (cw : cW S S1 I I1) (hK : KQ0 S I J T v S1 I1 J1) (hV : RQ0 S1 I1 J1 T2 v2 S2 I2 J2) (e0 : I1 0 4 = I 0 4) (r139 : I2 139 = I1 139) (hk : bP (kp I1) → bP (kp I2)) : tTie S2 I2 := by
  have cf := hK.2.2.1
  obtain ⟨hS, -, rf, -⟩ := hV
  subst hS
  have wq := g.1.1.w6
  obtain ⟨a, b, c1, c2⟩ := h
  obtain ⟨w1, w2, w3⟩ := cw
  refine ⟨hk (a.cg (fun j hj => kp_far cf (by omega))), by rw [r139, (cf 139 (by omega) (by omega)).1]; exact b, fun w hw => ?_, fun h1 w hw => ?_⟩
  · rw [w1] at hw
    exact ((c1 w hw).fr (w3 w (Or.inl hw))).far (wq w (Or.inl hw)) rf
  · rw [w2] at hw
    rw [(rf 0 (by omega)).1, e0] at h1
    exact ((c2 h1 w hw).fr (w3 w (Or.inr hw))).far (wq w (Or.inr hw)) rf
theorem tINV.ask (g : tINV S I J) (u : cU I I1 J J1) (cw : cW S S1 I I1) (hK : KQ0 S I J T v S1 I1 J1) (r : rU I1 I2 J1 J2) (rw : rW I1 I2) (hV : RQ0 S1 I1 J1 T2 v2 S2 I2 J2) : tINV S2 I2 J2 :=
  ⟨g.1.ask u cw hK r rw hV, g.2.mk g.1 cw hK hV u.2.1 r.2.1 (fun b => b.cg (fun j hj => r.1 j (by omega)))⟩
theorem tINV.set {p x n : Int32} (g : tINV S I J) (pK : ∃ c, c ≤ 6 ∧ I 6 1 = nI c ∧ v = some (.int (ca_set I c p x n)) ∧ I1 = ci_set I c p x n ∧ J1 = J) (cw : cW S S1 I I1) (hK : KQ0 S I J T v S1 I1 J1) (pR : v2 = some (.int (ga_Md_set I1 J1 p x n)) ∧ I2 = gi_Md_set I1 J1 p x n ∧ J2 = gj_Md_set I1 J1 p x n) (hV : RQ0 S1 I1 J1 T2 v2 S2 I2 J2) : tINV S2 I2 J2 ∧ v = v2 := by
  obtain ⟨gv, ev⟩ := g.1.set pK cw hK pR hV
  obtain ⟨c, c6, hc, -, hI1, -⟩ := pK
  have t : tFr I1 I2 := by
    rw [pR.2.1]
    unfold gi_Md_set
    (repeat' split) <;> first | exact tFr.rf | exact tFr.rf.oth (by decide) | exact tFr.rf.up7 (bN.wit (A := 99) (n := 99) rfl (by assumption)) | exact tFr.rf.up8 (bN.wit (A := 99) (n := 99) rfl (by assumption)) | exact absurd ((show x = 2 by assumption).symm.trans (show x = 0 by assumption)) (by decide) | exact absurd ((show x = 2 by assumption).symm.trans (show x = 1 by assumption)) (by decide)
  exact ⟨⟨gv, g.2.mk g.1 cw hK hV (by rw [hI1, ci_set_fr c6 (by omega)]) t.1 t.2⟩, ev⟩
theorem tINV.done {p b : Int32} (g : tINV S I J) (hb : qbool b) (pK : ∃ c, c ≤ 6 ∧ I 6 1 = nI c ∧ v = some (.int (ca_done I c p)) ∧ I1 = ci_done I c p b ∧ J1 = J) (cw : cW S S1 I I1) (hK : KQ0 S I J T v S1 I1 J1) (pR : v2 = some (.int (ga_Md_done I1 J1 p b)) ∧ I2 = gi_Md_done I1 J1 p b ∧ J2 = gj_Md_done I1 J1 p b) (hV : RQ0 S1 I1 J1 T2 v2 S2 I2 J2) : tINV S2 I2 J2 ∧ v = v2 := by
  obtain ⟨gv, ev⟩ := g.1.done hb pK cw hK pR hV
  obtain ⟨c, c6, hc, -, hI1, -⟩ := pK
  have t : tFr I1 I2 := by
    rw [pR.2.1]
    unfold gi_Md_done
    (repeat' split) <;> first | exact tFr.rf | exact tFr.rf.oth (by decide)
  exact ⟨⟨gv, g.2.mk g.1 cw hK hV (by rw [hI1, ci_done_fr c6 (by omega)]) t.1 t.2⟩, ev⟩
theorem tINV.row {p r n : Int32} (g : tINV S I J) (pK : ∃ c, c ≤ 6 ∧ I 6 1 = nI c ∧ v = some (.int (ca_row I c p r n)) ∧ I1 = ci_row I c p r n ∧ J1 = J) (cw : cW S S1 I I1) (hK : KQ0 S I J T v S1 I1 J1) (pR : v2 = some (.int (ga_Md_row I1 J1 p r n)) ∧ I2 = gi_Md_row I1 J1 p r n ∧ J2 = gj_Md_row I1 J1 p r n) (hV : RQ0 S1 I1 J1 T2 v2 S2 I2 J2) : tINV S2 I2 J2 := by
  have gv := g.1.row pK cw hK pR hV
  obtain ⟨c, c6, hc, -, hI1, -⟩ := pK
  have t : tFr I1 I2 := by
    rw [pR.2.1]
    unfold gi_Md_row
    (repeat' split) <;> first | exact tFr.rf | exact tFr.rf.up1 (bN.wit (A := 9) (n := 9) rfl (by assumption))
  exact ⟨gv, g.2.mk g.1 cw hK hV (by rw [hI1, ci_row_fr c6 (by omega)]) t.1 t.2⟩
theorem tINV.list {p : Int32} (g : tINV S I J) (pK : ∃ c l, c ≤ 6 ∧ I 6 1 = nI c ∧ l ≤ 6 ∧ I 6 3 = nI l ∧ v = some (.int (ca_list I c l p)) ∧ I1 = ci_list I c l p ∧ J1 = J) (cw : cW S S1 I I1) (hK : KQ0 S I J T v S1 I1 J1) (pR : ∃ l, l ≤ 6 ∧ I1 114 8 = nI l ∧ v2 = some (.int (ga_Md_list I1 J1 l p)) ∧ I2 = gi_Md_list I1 J1 l p ∧ J2 = gj_Md_list I1 J1 l p) (hV : RQ0 S1 I1 J1 T2 v2 S2 I2 J2) : tINV S2 I2 J2 := by
  have gv := g.1.list pK cw hK pR hV
  obtain ⟨c, l, c6, hc, l6, hl, -, hI1, -⟩ := pK
  obtain ⟨l', l6', hl', -, hI2, -⟩ := pR
  have t : tFr I1 I2 := by
    rw [hI2]
    unfold gi_Md_list
    (repeat' split) <;> first | exact tFr.rf | exact tFr.rf.oth (by decide) | exact (tFr.rf.oth (by decide)).oth (by decide)
  exact ⟨gv, g.2.mk g.1 cw hK hV (by rw [hI1, ci_list_fr (by omega) (by omega)]) t.1 t.2⟩
theorem tINV.swap {p q : Int32} (g : tINV S I J) (pK : ∃ c l, c ≤ 6 ∧ I 6 1 = nI c ∧ l ≤ 6 ∧ I 6 3 = nI l ∧ v = some (.int (ca_swap I c l p q)) ∧ I1 = ci_swap I c l p q ∧ J1 = J) (cw : cW S S1 I I1) (hK : KQ0 S I J T v S1 I1 J1) (pR : ∃ l, l ≤ 6 ∧ I1 114 8 = nI l ∧ v2 = some (.int (ga_Md_swap I1 J1 l p q)) ∧ I2 = gi_Md_swap I1 J1 l p q ∧ J2 = gj_Md_swap I1 J1 l p q) (hV : RQ0 S1 I1 J1 T2 v2 S2 I2 J2) : tINV S2 I2 J2 := by
  have gv := g.1.swap pK cw hK pR hV
  obtain ⟨c, l, c6, hc, l6, hl, -, hI1, -⟩ := pK
  obtain ⟨l', l6', hl', -, hI2, -⟩ := pR
  have t : tFr I1 I2 := by
    rw [hI2]
    unfold gi_Md_swap
    (repeat' split) <;> first | exact tFr.rf | exact (tFr.rf.oth (by decide)).oth (by decide)
  exact ⟨gv, g.2.mk g.1 cw hK hV (by rw [hI1, ci_swap_fr (by omega)]) t.1 t.2⟩
theorem tINV.feed {x : Int32} (g : tINV S I J) (pK : ∃ z, z ≤ 100 ∧ I 87 1 = nI z ∧ v = some (.int (ca_feed z x)) ∧ I1 = ci_feed I z x ∧ J1 = J) (cw : cW S S1 I I1) (hK : KQ0 S I J T v S1 I1 J1) (pR : v2 = some (.int (ga_Md_feed I1 J1 x)) ∧ I2 = gi_Md_feed I1 J1 x ∧ J2 = gj_Md_feed I1 J1 x) (hV : RQ0 S1 I1 J1 T2 v2 S2 I2 J2) : tINV S2 I2 J2 := by
  have gv := g.1.feed pK cw hK pR hV
  obtain ⟨z, -, -, -, hI1, -⟩ := pK
  have t : tFr I1 I2 := by
    rw [pR.2.1]
    unfold gi_Md_feed
    (repeat' split) <;> first | exact tFr.rf | exact (tFr.rf.oth (by decide)).oth (by decide)
  exact ⟨gv, g.2.mk g.1 cw hK hV (by rw [hI1, ci_feed_fr (by omega) (by omega)]) t.1 t.2⟩
theorem tINV.tape {tp s n : Int32} (g : tINV S I J) (pK : I1 = ci_tape I tp s n ∧ J1 = cj_tape J tp s n) (cw : cW S S1 I I1) (hK : KQ0 S I J T v S1 I1 J1) (pR : xTp I1 J1 tp s n I2 J2) (hV : RQ0 S1 I1 J1 T2 v2 S2 I2 J2) : tINV S2 I2 J2 := by
  have gv := g.1.tape pK cw hK pR hV
  obtain ⟨hI1, -⟩ := pK
  have t : tFr I1 I2 := by
    rcases pR with ⟨-, h, -⟩ | ⟨t, -, -, -, -, -, h, -⟩
    · rw [h]; exact tFr.rf
    · rw [h]; exact (tFr.rf.oth (by decide)).oth (by decide)
  exact ⟨gv, g.2.mk g.1 cw hK hV (by rw [hI1, ci_tape_fr (by omega)]) t.1 t.2⟩
theorem tINV.item {tp i : Int32} {z : Int64} (g : tINV S I J) (pK : v = some (.int (ca_item I tp i)) ∧ I1 = I ∧ J1 = cj_item I J tp i z) (cw : cW S S1 I I1) (hK : KQ0 S I J T v S1 I1 J1) (pR : v2 = some (.int (ga_Md_item I1 J1 tp i z)) ∧ I2 = I1 ∧ J2 = gj_Md_item I1 J1 tp i z) (hV : RQ0 S1 I1 J1 T2 v2 S2 I2 J2) : tINV S2 I2 J2 := by
  have gv := g.1.item pK cw hK pR hV
  have h1 := pK.2.1
  have t : tFr I1 I2 := by rw [pR.2.1]; exact tFr.rf
  exact ⟨gv, g.2.mk g.1 cw hK hV (by rw [h1]) t.1 t.2⟩
theorem tINV.shift {tp i tq j n : Int32} (g : tINV S I J) (pK : v = some (.int (ca_shift I tp i tq j n)) ∧ I1 = I ∧ J1 = cj_shift I J tp i tq j n) (cw : cW S S1 I I1) (hK : KQ0 S I J T v S1 I1 J1) (pR : qSh1 S1 I1 J1 tp i tq j n v2 S2 I2 J2) (hV : RQ0 S1 I1 J1 T2 v2 S2 I2 J2) : tINV S2 I2 J2 := by
  have gv := g.1.shift pK cw hK pR hV
  have h1 := pK.2.1
  have h2 : I2 = I1 := pR.2.1.symm
  have t : tFr I1 I2 := by rw [h2]; exact tFr.rf
  exact ⟨gv, g.2.mk g.1 cw hK hV (by rw [h1]) t.1 t.2⟩
theorem tINV.act {m a x : Int32} (g : tINV S I J) (pK : ∃ c, c ≤ 6 ∧ I 6 1 = nI c ∧ v = some (.int (ca_act I c m a x).1) ∧ I1 = qtrace (qup I 99 1 0) (ca_act I c m a x).2 ∧ J1 = J) (cw : cW S S1 I I1) (hK : KQ0 S I J T v S1 I1 J1) (pR : ∃ c, c ≤ 6 ∧ I1 114 0 = nI c ∧ J2 = J1 ∧ (((∀ p, p < c → m ≠ nI p) ∨ qwithin a 0 2 = 0) ∧ v2 = some (.int 0) ∧ I2 = qup I1 114 37 0 ∨ ∃ p k, p < c ∧ m = nI p ∧ k < 7 ∧ I1 115 p = nI k ∧ ¬ qwithin a 0 2 = 0 ∧ v2 = some (.int (mAct (nI p) (I1 116 p) k a x).1) ∧ I2 = mtrace (qup I1 114 37 0) (mAct (nI p) (I1 116 p) k a x).2)) (hV : RQ0 S1 I1 J1 T2 v2 S2 I2 J2) : tINV S2 I2 J2 := by
  have gv := g.1.act pK cw hK pR hV
  obtain ⟨c, -, -, -, hI1, -⟩ := pK
  have t : tFr I1 I2 := by
    obtain ⟨c', -, -, -, ⟨-, -, h⟩ | ⟨p, k, -, -, -, -, -, -, h⟩⟩ := pR
    · rw [h]; exact tFr.rf.oth (by decide)
    · rw [h]; exact tFr.trc _ (tFr.rf.oth (by decide))
  exact ⟨gv, g.2.mk g.1 cw hK hV (by rw [hI1, qtrace_row (by omega) (by omega), qup_row (by omega)]) t.1 t.2⟩
theorem tINV.see {p x n : Int32} (g : tINV S I J) (pK : ∃ c z, c ≤ 6 ∧ I 6 1 = nI c ∧ z ≤ 5 ∧ I 9 3 = nI z ∧ v = some (.int (ca_see c z p x n)) ∧ I1 = ci_see I c z p x n ∧ J1 = J) (cw : cW S S1 I I1) (hK : KQ0 S I J T v S1 I1 J1) (pR : v2 = some (.int (ga_Md_see I1 J1 p x n)) ∧ I2 = gi_Md_see I1 J1 p x n ∧ J2 = gj_Md_see I1 J1 p x n) (hV : RQ0 S1 I1 J1 T2 v2 S2 I2 J2) : tINV S2 I2 J2 := by
  have gv := g.1.see pK cw hK pR hV
  obtain ⟨c, z, -, -, -, -, -, hI1, -⟩ := pK
  have t : tFr I1 I2 := by
    rw [pR.2.1]
    unfold gi_Md_see
    (repeat' split) <;> first | exact tFr.rf | exact tFr.rf.oth (by decide) | exact (((tFr.rf.oth (by decide)).oth (by decide)).oth (by decide)).oth (by decide)
  exact ⟨gv, g.2.mk g.1 cw hK hV (by rw [hI1, ci_see_fr (by omega)]) t.1 t.2⟩
theorem tINV.plan {x p : Int32} (g : tINV S I J) (pK : ∃ c z, c ≤ 6 ∧ I 6 1 = nI c ∧ z ≤ 10 ∧ I 13 3 = nI z ∧ v = some (.int (ca_plan c z x p)) ∧ I1 = ci_plan I c z x p ∧ J1 = J) (cw : cW S S1 I I1) (hK : KQ0 S I J T v S1 I1 J1) (pR : v2 = some (.int (ga_Md_plan I1 J1 x p)) ∧ I2 = gi_Md_plan I1 J1 x p ∧ J2 = gj_Md_plan I1 J1 x p) (hV : RQ0 S1 I1 J1 T2 v2 S2 I2 J2) : tINV S2 I2 J2 := by
  have gv := g.1.plan pK cw hK pR hV
  obtain ⟨c, z, -, -, -, -, -, hI1, -⟩ := pK
  have t : tFr I1 I2 := by
    rw [pR.2.1]
    unfold gi_Md_plan
    (repeat' split) <;> first | exact tFr.rf | exact tFr.rf.oth (by decide) | exact ((tFr.rf.oth (by decide)).oth (by decide)).oth (by decide)
  exact ⟨gv, g.2.mk g.1 cw hK hV (by rw [hI1, ci_plan_fr (by omega)]) t.1 t.2⟩
theorem tINV.book {p x : Int32} (g : tINV S I J) (pK : ∃ c z, c ≤ 6 ∧ I 6 1 = nI c ∧ z ≤ 8 ∧ I 17 3 = nI z ∧ v = some (.int (ca_book c z p x)) ∧ I1 = ci_book I c z p x ∧ J1 = J) (cw : cW S S1 I I1) (hK : KQ0 S I J T v S1 I1 J1) (pR : v2 = some (.int (ga_Md_book I1 J1 p x)) ∧ I2 = gi_Md_book I1 J1 p x ∧ J2 = gj_Md_book I1 J1 p x) (hV : RQ0 S1 I1 J1 T2 v2 S2 I2 J2) : tINV S2 I2 J2 := by
  have gv := g.1.book pK cw hK pR hV
  obtain ⟨c, z, -, -, -, -, -, hI1, -⟩ := pK
  have t : tFr I1 I2 := by
    rw [pR.2.1]
    unfold gi_Md_book
    (repeat' split) <;> first | exact tFr.rf | exact tFr.rf.oth (by decide) | exact ((tFr.rf.oth (by decide)).oth (by decide)).oth (by decide)
  exact ⟨gv, g.2.mk g.1 cw hK hV (by rw [hI1, ci_book_fr (by omega)]) t.1 t.2⟩
theorem tINV.mourner {kd vv gg : Int32} {c : Nat} (g : tINV S I J) (c6 : c ≤ 6) (hc : I 6 1 = nI c) (hI1 : I1 = cMournerI I c kd vv gg) (hJ1 : J1 = J) (cw : cW S S1 I I1) (hK : KQ0 S I J T v S1 I1 J1) (hI2 : I2 = gi_Md_mourner I1 J1 kd vv gg) (j2 : J2 = J1) (hV : RQ0 S1 I1 J1 T2 v2 S2 I2 J2) : tINV S2 I2 J2 := by
  have gv := g.1.mourner c6 hc hI1 hJ1 cw hK hI2 j2 hV
  have t : tFr I1 I2 := by
    rw [hI2]
    unfold gi_Md_mourner
    (repeat' split) <;> first | exact tFr.rf | exact ((((((((((tFr.rf.oth (by decide)).up6 (bN.wit (A := 9) (n := 9) rfl (by assumption))).up7 (bN.wit (A := 99) (n := 99) rfl (by assumption))).up8 bN.z).oth (by decide)).oth (by decide)).up1 bN.z).up1 bN.z).up1 bN.z).up1 bN.z).oth (by decide)
  have e0 : I1 0 4 = I 0 4 := by rw [hI1, ci_mo_fr c6 (by omega) (by omega)]
  exact ⟨gv, g.2.mk g.1 cw hK hV e0 t.1 t.2⟩
theorem tINV.pass {n : Int32} (g : tINV S I J) (pK : ∃ d w, d ≤ 9999 ∧ I 6 4 = nI d ∧ qW1 w ∧ qMgOK I 6 9999 ∧ v = some (.int (ca_pass I d n)) ∧ qEq (w + 4) (ci_pass I w d n) I1 ∧ J1 = J) (cw : cW S S1 I I1 ∧ ∃ d w, d ≤ 9999 ∧ I 6 4 = nI d ∧ qR S 6 5 = some w ∧ qEq (w + 4) (ci_pass I w d n) I1) (hK : KQ0 S I J T v S1 I1 J1) (pR : ∃ d, d ≤ 9999 ∧ I1 114 10 = nI d ∧ J1 = J2 ∧ (if qwithin n 0 60 = 0 then v2 = some (.int (-2)) ∧ I1 = I2 else if 9999 < nI d + n then v2 = some (.int (-3)) ∧ I1 = I2 else v2 = some (.int (nI d + n)) ∧ q130 (mpassN I1 n.toNatClampNeg) I2)) (hV : RQ0 S1 I1 J1 T2 v2 S2 I2 J2) : tINV S2 I2 J2 ∧ v = v2 := by
  obtain ⟨gv, ev⟩ := g.1.pass pK cw hK pR hV
  have cf := hK.2.2.1
  obtain ⟨c, c6, hc⟩ : ∃ c, c ≤ 6 ∧ I1 114 0 = nI c := by
    obtain ⟨⟨w0, w1, w2, bl, hC⟩, -, hr, -⟩ := id g.1.1.1
    obtain ⟨c, c6, hc, -⟩ := hr.lst
    exact ⟨c, c6, by rw [(cf 114 (by omega) (by omega)).1]; exact hc⟩
  obtain ⟨d, w, d9, hd, hw, hok, -, he, -⟩ := pK
  unfold qW1 at hw
  have e0 : I1 0 4 = I 0 4 := by rw [he 0 (by omega), ci_pass_fr hok (by omega)]
  have t : tFr I1 I2 := by
    obtain ⟨d', -, -, -, hR⟩ := pR
    split at hR
    · rw [← hR.2]; exact tFr.rf
    · split at hR
      · rw [← hR.2]; exact tFr.rf
      · refine ⟨by rw [hR.2 139 (by omega), mpassN_row (by omega) (by omega) (by omega) (by omega)], fun b => (bP_passN b hc c6 n.toNatClampNeg).cg (fun j hj => ?_)⟩
        unfold kp
        rw [hR.2 _ (by have := kpa_t j hj; omega)]
  exact ⟨⟨gv, g.2.mk g.1 cw.1 hK hV e0 t.1 t.2⟩, ev⟩
theorem tINV.isl6 (g : tINV S I J) (h6 : I 0 7 = 6) (pK : v = some (.int (-4)) ∧ cU I I1 J J1) (cw : cW S S1 I I1) (hK : KQ0 S I J T v S1 I1 J1) (pR : xRi I1 v2 I2 ∧ xRn I1 I2) (hr : rIs I1 I2 J1 J2) (hV : RQ0 S1 I1 J1 T2 v2 S2 I2 J2) : tINV S2 I2 J2 ∧ v = v2 := by
  obtain ⟨gv, ev⟩ := g.1.isl6 h6 pK cw hK pR hr hV
  exact ⟨⟨gv, g.2.mk g.1 cw hK hV pK.2.2.1 hr.2.1 (fun b => b.cg (fun j hj => hr.1 j (by omega)))⟩, ev⟩
theorem tINV.isl {n : Nat} (g : tINV S I J) (h6 : ¬ I 0 7 = 6) (hn : I 87 1 = nI n) (n100 : n ≤ 100) (hJ : J1 = J) (hc : cIs I I1) (hK : KQ0 S I J T v S1 I1 J1) (pR : xRi I1 v2 I2 ∧ xRn I1 I2) (hr : rIs I1 I2 J1 J2) (hV : RQ0 S1 I1 J1 T2 v2 S2 I2 J2) (hk : (rok (rread (I 123) n) n = 0 ∧ v = some (.int (-10 - nI (rread (I 123) n).1.1)) ∧ I1 0 7 = I 0 7) ∨ (¬ rok (rread (I 123) n) n = 0 ∧ (∃ g, g < 6 ∧ I 0 7 = nI g ∧ v = some (.int (nI g))) ∧ I1 0 7 = I 0 7 + 1)) (cw : (rok (rread (I 123) n) n = 0 ∧ cW S S1 I I1) ∨ (¬ rok (rread (I 123) n) n = 0 ∧ cWn S S1 I I1 (I 123) n)) : tINV S2 I2 J2 ∧ v = v2 := by
  obtain ⟨gv, ev⟩ := g.1.isl h6 hn n100 hJ hc hK pR hr hV hk cw
  refine ⟨⟨gv, ?_⟩, ev⟩
  have hkk : bP (kp I1) → bP (kp I2) := fun b => b.cg (fun j hj => hr.1 j (by omega))
  rcases cw with ⟨-, cw⟩ | ⟨-, cw⟩
  · exact g.2.mk g.1 cw hK hV hc.2.1 hr.2.1 hkk
  · have cf := hK.2.2.1
    have w1 := cINV.w6 hK.1
    obtain ⟨hS, -, rf, -⟩ := hV
    subst hS
    have wq := g.1.1.1.w6
    obtain ⟨a, b, c1, c2⟩ := g.2
    obtain ⟨o, K, p6, p60, hRc, hko, hkw⟩ := cw
    refine ⟨hkk (a.cg (fun j hj => kp_far cf (by omega))), by rw [hr.2.1, (cf 139 (by omega) (by omega)).1]; exact b, fun w hw => ?_, fun h1 w hw => ?_⟩
    · rw [p6] at hw
      obtain rfl := Option.some.inj hw
      exact (bIs.rd hRc hko).far (w1 o (Or.inl p6)) rf
    · rw [p60] at hw
      rw [(rf 0 (by omega)).1, hc.2.1] at h1
      exact ((c2 h1 w hw).fr (hkw w hw)).far (wq w (Or.inr hw)) rf
theorem tINV.image (g : tINV S I J) (pK : I1 = qup (qmbec I 60 6) 0 4 1 ∧ J1 = J ∧ qMgOK I 6 9999) (cw : cWi S S1 I I1) (hK : KQ0 S I J T v S1 I1 J1) (pR : (∀ j, j < 124 → I2 139 j = kp I1 j) ∧ (∀ j, j < 124 → kp I2 j = kp I1 j) ∧ I2 114 39 = 1 ∧ (I2 114 37 = I1 114 37 ∧ I2 138 = I1 138) ∧ (I2 114 17 = I1 114 17 ∧ I2 114 11 = I1 114 11 ∧ I2 123 = I1 123) ∧ (∀ a, 145 ≤ a → a ≤ 147 → I2 a = I1 a) ∧ J2 = J1) (rw : rW I1 I2) (hV : RQ0 S1 I1 J1 T2 v2 S2 I2 J2) : tINV S2 I2 J2 := by
  have gv := g.1.image pK cw hK pR rw hV
  refine ⟨gv, ?_⟩
  have cf := hK.2.2.1
  obtain ⟨hS, -, rf, -⟩ := hV
  subst hS
  have wq := g.1.1.1.w6
  obtain ⟨a, b, c1, c2⟩ := g.2
  obtain ⟨w1, w2, w3⟩ := cw
  have a1 : bP (kp I1) := a.cg (fun j hj => kp_far cf (by omega))
  refine ⟨a1.cg (fun j hj => pR.2.1 j (by omega)), a1.cg (fun j hj => pR.1 j (by omega)), fun w hw => ?_, fun _ w hw => ?_⟩
  · rw [w1] at hw
    exact ((c1 w hw).fr (w3 w hw)).far (wq w (Or.inl hw)) rf
  · rw [w2] at hw
    exact ((c1 w hw).fr (w3 w hw)).far (wq w (Or.inl hw)) rf
theorem tINV.undo1 (g : tINV S I J) (hz : I 0 4 = 1) (pK : I1 = qmbec I 6 60 ∧ J1 = J ∧ qMgOK I 60 9999) (cw : cWu S S1 I I1) (hK : KQ0 S I J T v S1 I1 J1) (pR : (∀ j, j < 124 → kp I2 j = I1 139 j) ∧ I2 139 = I1 139 ∧ (I2 114 37 = I1 114 37 ∧ I2 138 = I1 138) ∧ (I2 114 17 = I1 114 17 ∧ I2 114 11 = I1 114 11 ∧ I2 123 = I1 123) ∧ (∀ a, 145 ≤ a → a ≤ 147 → I2 a = I1 a) ∧ J2 = J1) (rw : I2 114 25 = I1 114 25 ∧ ∀ a, 124 ≤ a → a ≤ 129 → I2 a = I1 a) (h39 : I2 114 39 = 1) (hV : RQ0 S1 I1 J1 T2 v2 S2 I2 J2) : tINV S2 I2 J2 := by
  have gv := g.1.undo1 hz pK cw hK pR rw h39 hV
  refine ⟨gv, ?_⟩
  have cf := hK.2.2.1
  obtain ⟨hS, -, rf, -⟩ := hV
  subst hS
  have wq := g.1.1.1.w6
  obtain ⟨a, b, c1, c2⟩ := g.2
  obtain ⟨w1, w2, w3⟩ := cw
  have c139 : I1 139 = I 139 := (cf 139 (by omega) (by omega)).1
  refine ⟨b.cg (fun j hj => by rw [pR.1 j (by omega), c139]), by rw [pR.2.1, c139]; exact b, fun w hw => ?_, fun _ w hw => ?_⟩
  · rw [w1] at hw
    exact ((c2 hz w hw).fr (w3 w hw)).far (wq w (Or.inr hw)) rf
  · rw [w2] at hw
    exact ((c2 hz w hw).fr (w3 w hw)).far (wq w (Or.inr hw)) rf
end S2
