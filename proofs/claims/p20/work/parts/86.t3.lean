/-! all rows weighed, told exactly: the object's side -/
def nhS (h : Nat → Nat → Nat) (l : List Nat) : Nat → Nat
  | 0 => 0
  | k + 1 => nhS h l k + h (l.getD k 0) k
def nmS (h : Nat → Nat → Nat) (l : List Nat) : Nat → Nat
  | 0 => 0
  | k + 1 => max (nmS h l k) (h (l.getD k 0) k)
def nBt (x : Nat) (l : List Nat) (a : Option (Nat × List Nat)) : Option (Nat × List Nat) := match a with
  | none => some (x, l)
  | some (m, r) => if x < m then some (x, l) else some (m, r)
abbrev nSt : Type := Nat × Nat × Nat × Option (Nat × List Nat) × Option (Nat × List Nat)
def nst (h : Nat → Nat → Nat) (q : Nat) (s : nSt) (l : List Nat) : nSt := (s.1 + 1, s.2.1 + (if nhS h l l.length ≤ q then 1 else 0), s.2.2.1 + nhS h l l.length, nBt (nhS h l l.length) l s.2.2.2.1, nBt (nmS h l l.length) l s.2.2.2.2)
def nS0 : nSt := (0, 0, 0, none, none)
/-- the best so far: its number at 94.j, its row at a -/
def cBt (I : qI) (z j a : Nat) (o : Option (Nat × List Nat)) : Prop := (o = none ∧ I 94 j = 2147483647) ∨ ∃ m r, o = some (m, r) ∧ m < 2 ^ 30 ∧ I 94 j = nI m ∧ r.length = z ∧ ∀ k, k < z → I a k = nI (r.getD k 0)
def cRs (I : qI) (J : qJ) (z : Nat) (s : nSt) : Prop := I 94 7 = nI s.1 ∧ I 94 8 = nI s.2.1 ∧ J 94 9 = lN s.2.2.1 ∧ cBt I z 5 97 s.2.2.2.1 ∧ cBt I z 6 98 s.2.2.2.2
/-- the numbers of the table -/
def hTab (I : qI) (c : Nat) (h : Nat → Nat → Nat) : Prop := ∀ p j, p < c → j < 6 → I 95 (6 * p + j) = nI (h p j) ∧ h p j < 2 ^ 20
theorem hAt {I : qI} {c p k : Nat} {h : Nat → Nat → Nat} (ht : hTab I c h) (c6 : c ≤ 6) (hp : p < c) (hk : k < 6) : qhurtAt I (nI p) (nI k) = nI (h p k) := by
  unfold qhurtAt
  rw [show (6 : Int32) = nI 6 from rfl, pk_mul, nI_add, if_neg (nI_pos (by omega)), if_neg (show ¬ (36 : Int32) ≤ nI (6 * p + k) from fun q => by
    have := (nI_leI (a := 36) (b := 6 * p + k) (by omega) (by omega)).mp q
    omega), qcl (by omega)]
  exact (ht p k hp hk).1
theorem nhS_lt {h : Nat → Nat → Nat} {l : List Nat} (hb : ∀ k, k < l.length → h (l.getD k 0) k < 2 ^ 20) : ∀ k, k ≤ l.length → nhS h l k ≤ k * 2 ^ 20 := by
  intro k
  induction k with
  | zero => intro _; exact Nat.zero_le _
  | succ k ih =>
    intro hk
    have := ih (by omega)
    have := hb k (by omega)
    rw [nhS]; omega
theorem nmS_lt {h : Nat → Nat → Nat} {l : List Nat} (hb : ∀ k, k < l.length → h (l.getD k 0) k < 2 ^ 20) : ∀ k, k ≤ l.length → nmS h l k < 2 ^ 20 := by
  intro k
  induction k with
  | zero => intro _; rw [nmS]; omega
  | succ k ih =>
    intro hk
    have := ih (by omega)
    have := hb k (by omega)
    rw [nmS]
    omega
theorem rowH_n {I : qI} {c : Nat} {l : List Nat} {h : Nat → Nat → Nat} (c6 : c ≤ 6) (hl : l.length ≤ 6) (ht : hTab I c h) (hr : rowIs I c l) : ∀ k, k ≤ l.length → qrowH I k = nI (nhS h l k) ∧ qrowM I k = nI (nmS h l k) := by
  have hb : ∀ k, k < l.length → h (l.getD k 0) k < 2 ^ 20 := fun k hk => (ht _ k (hr k hk).2 (by omega)).2
  intro k
  induction k with
  | zero => intro _; exact ⟨rfl, rfl⟩
  | succ k ih =>
    intro hk
    obtain ⟨i1, i2⟩ := ih (by omega)
    obtain ⟨r1, r2⟩ := hr k (by omega)
    have e : qhurtAt I (I 96 k) (nI k) = nI (h (l.getD k 0) k) := by rw [r1]; exact hAt ht c6 r2 (by omega)
    constructor
    · show qrowH I k + qhurtAt I (I 96 k) (nI k) = _
      rw [i1, e, nI_add]; rfl
    · show qmax (qrowM I k) (qhurtAt I (I 96 k) (nI k)) = _
      have h1 := nmS_lt hb k (by omega)
      have h2 := hb k (by omega)
      rw [i2, e, qmax_nI (by omega) (by omega)]; rfl
theorem cBt.fr {I I' : qI} {z j a : Nat} {o : Option (Nat × List Nat)} (h : cBt I z j a o) (h1 : I' 94 j = I 94 j) (h2 : I' a = I a) : cBt I' z j a o := by
  rcases h with ⟨q1, q2⟩ | ⟨m, r, q1, q2, q3, q4, q5⟩
  · exact Or.inl ⟨q1, by rw [h1]; exact q2⟩
  · exact Or.inr ⟨m, r, q1, q2, by rw [h1]; exact q3, q4, fun k hk => by rw [h2]; exact q5 k hk⟩
/-- a better one comes, or none -/
theorem cBt.st {I I' : qI} {z j a x : Nat} {o : Option (Nat × List Nat)} {l : List Nat} (h : cBt I z j a o) (hx : x < 2 ^ 30) (hl : l.length = z) (hr : ∀ k, k < z → I 96 k = nI (l.getD k 0)) (hK : (I 94 j ≤ nI x ∧ I' 94 j = I 94 j ∧ I' a = I a) ∨ (¬ I 94 j ≤ nI x ∧ I' 94 j = nI x ∧ ∀ k, k < z → I' a k = I 96 k)) : cBt I' z j a (nBt x l o) := by
  rcases h with ⟨rfl, q2⟩ | ⟨m, r, rfl, q2, q3, q4, q5⟩
  · rcases hK with ⟨g1, -⟩ | ⟨-, g2, g3⟩
    · rw [q2] at g1
      have := (nI_leI (a := 2147483647) (b := x) (by omega) (by omega)).mp g1
      omega
    · exact Or.inr ⟨x, l, rfl, hx, g2, hl, fun k hk => (g3 k hk).trans (hr k hk)⟩
  · rcases hK with ⟨g1, g2, g3⟩ | ⟨g1, g2, g3⟩
    · rw [q3] at g1
      have := (nI_leI (by omega) (by omega)).mp g1
      refine Or.inr ⟨m, r, ?_, q2, by rw [g2]; exact q3, q4, fun k hk => by rw [g3]; exact q5 k hk⟩
      show (if x < m then some (x, l) else some (m, r)) = _
      rw [if_neg (by omega)]
    · rw [q3] at g1
      refine Or.inr ⟨x, l, ?_, hx, g2, hl, fun k hk => (g3 k hk).trans (hr k hk)⟩
      show (if x < m then some (x, l) else some (m, r)) = _
      rw [if_pos (by
        rcases Nat.lt_or_ge x m with q | q
        · exact q
        · exact absurd (nI_le q (by omega)) g1)]
theorem qlook1_at {I : qI} {z : Nat} {q : Int32} : qlook1 I z q 94 7 = I 94 7 + 1 ∧ qlook1 I z q 94 8 = (if q < qrowH I z then I 94 8 else I 94 8 + 1) := by
  unfold qlook1
  by_cases h : q < qrowH I z
  · rw [if_pos h, if_pos h, qup_at, qup_j (by decide)]; exact ⟨rfl, rfl⟩
  · rw [if_neg h, if_neg h, qup_j (by decide), qup_at, qup_at]; exact ⟨rfl, rfl⟩
theorem qlook2_at {I : qI} {z : Nat} {q : Int32} : (∀ j, j ≠ 5 → qlook2 I z q 94 j = qlook1 I z q 94 j) ∧ ((I 94 5 ≤ qrowH I z ∧ qlook2 I z q 94 5 = I 94 5 ∧ qlook2 I z q 97 = I 97) ∨ (¬ I 94 5 ≤ qrowH I z ∧ qlook2 I z q 94 5 = qrowH I z ∧ ∀ k, k < z → qlook2 I z q 97 k = I 96 k)) := by
  unfold qlook2
  by_cases h : I 94 5 ≤ qrowH I z
  · rw [if_pos h]
    exact ⟨fun _ _ => rfl, Or.inl ⟨h, qlook1_j (by decide) (by decide), qlook1_row (by decide)⟩⟩
  · rw [if_neg h]
    refine ⟨fun j hj => by rw [qrow_ne (by decide), qup_j hj], Or.inr ⟨h, by rw [qrow_ne (by decide), qup_at], fun k hk => ?_⟩⟩
    rw [qrow_at, pk_cpy_in (by omega) (by omega)]
    congr 1; omega
theorem qlook_at {I : qI} {z : Nat} {q : Int32} : (∀ j, j ≠ 6 → qlook I z q 94 j = qlook2 I z q 94 j) ∧ qlook I z q 97 = qlook2 I z q 97 ∧ ((I 94 6 ≤ qrowM I z ∧ qlook I z q 94 6 = I 94 6 ∧ qlook I z q 98 = I 98) ∨ (¬ I 94 6 ≤ qrowM I z ∧ qlook I z q 94 6 = qrowM I z ∧ ∀ k, k < z → qlook I z q 98 k = I 96 k)) := by
  unfold qlook
  by_cases h : I 94 6 ≤ qrowM I z
  · rw [if_pos h]
    exact ⟨fun _ _ => rfl, rfl, Or.inl ⟨h, qlook2_j (by decide) (by decide) (by decide), qlook2_row (by decide) (by decide)⟩⟩
  · rw [if_neg h]
    refine ⟨fun j hj => by rw [qrow_ne (by decide), qup_j hj], by rw [qrow_ne (by decide), qup_row (by decide)], Or.inr ⟨h, by rw [qrow_ne (by decide), qup_at], fun k hk => ?_⟩⟩
    rw [qrow_at, pk_cpy_in (by omega) (by omega)]
    congr 1; omega
theorem cRs.look {I : qI} {J : qJ} {c z qn : Nat} {s : nSt} {l : List Nat} {h : Nat → Nat → Nat} (hs : cRs I J z s) (c6 : c ≤ 6) (hl : l.length = z) (hz6 : z ≤ 6) (ht : hTab I c h) (hr : rowIs I c l) (hq : qn < 2 ^ 30) : cRs (qlook I z (nI qn)) (qup J 94 9 (J 94 9 + (qrowH I z).toInt64)) z (nst h qn s l) := by
  obtain ⟨s1, s2, s3, s4, s5⟩ := hs
  obtain ⟨eH, eM⟩ := rowH_n c6 (by omega) ht hr l.length (Nat.le_refl _)
  have hb : ∀ k, k < l.length → h (l.getD k 0) k < 2 ^ 20 := fun k hk => (ht _ k (hr k hk).2 (by omega)).2
  have b1 := nhS_lt hb l.length (Nat.le_refl _)
  have b2 := nmS_lt hb l.length (Nat.le_refl _)
  have b1' : nhS h l l.length < 2 ^ 30 := by
    have : l.length * 2 ^ 20 ≤ 6 * 2 ^ 20 := Nat.mul_le_mul_right _ (by omega)
    omega
  rw [hl] at eH eM
  obtain ⟨l1, l2⟩ := qlook1_at (I := I) (z := z) (q := nI qn)
  obtain ⟨m1, m2⟩ := qlook2_at (I := I) (z := z) (q := nI qn)
  obtain ⟨k1, k2, k3⟩ := qlook_at (I := I) (z := z) (q := nI qn)
  rw [eH] at l2 m2
  rw [eM] at k3
  have hr' : ∀ k, k < z → I 96 k = nI (l.getD k 0) := fun k hk => (hr k (by omega)).1
  refine ⟨?_, ?_, ?_, ?_, ?_⟩
  · rw [k1 7 (by decide), m1 7 (by decide), l1, s1, q1]; rfl
  · rw [k1 8 (by decide), m1 8 (by decide), l2, s2]
    show _ = nI (s.2.1 + if nhS h l l.length ≤ qn then 1 else 0)
    rw [hl] at b1' ⊢
    by_cases w : nhS h l z ≤ qn
    · rw [if_neg (fun y => by
        have := (nI_ltI (by omega) (by omega)).mp y
        omega), if_pos w, q1]
    · rw [if_pos (nI_lt (by omega) (by omega)), if_neg w]; rfl
  · rw [qup_at, s3, eH, nI_l (by rw [← hl]; omega), lN_add]
    show _ = lN (s.2.2.1 + nhS h l l.length)
    rw [hl]
  · refine cBt.st (I := I) s4 b1' hl hr' ?_
    rw [k1 5 (by decide), k2, hl]; exact m2
  · refine cBt.st (I := I) s5 (by omega) hl hr' ?_
    rw [hl]; exact k3
section T3
variable {E : qE} {S : qSh} {I : qI} {J : qJ}
theorem c_Ro_walkX {o i D c dd qn : Nat} {h : Nat → Nat → Nat} (hR : isRo S) (hM : isMg S o i) (hok : qMgOK I o D) (hI : qIsOK I i) (hp : qPos o i) (hD : D < 100000) (hc : I o 1 = nI c) (hc6 : c ≤ 6) (hd : I o 4 = nI dd) (hdd : dd ≤ D) (hq0 : qn < 2 ^ 30) (hh : ∀ p j, p < c → j < 6 → wH (cls I o i) (cpn I o i p) j = nI (h p j) ∧ h p j < 2 ^ 20) : qMet E y_Ro_walk b_Ro_walk 5 none 5 0 0 [.ref (qb E + 94), .ref (qb E + o), .int (nI qn)] S I J (fun v S' I' J' => v = none ∧ S = S' ∧ qFr (qPr i) I I' ∧ I' 94 2 = nI (nWl (fun p => I (qm o p) 6) c).length ∧ (∀ a, a ≠ 94 → J' a = J a) ∧ cRs I' J' (nWl (fun p => I (qm o p) 6) c).length ((nit 720 (nWl (fun p => I (qm o p) 6) c)).foldl (nst h qn) nS0)) := by
  have hM0 := hM
  have hRo := hR
  obtain ⟨rT, rA1, rA2, rA3, rA4, rR0, rR1, rR3, rR4⟩ := hR
  refine qMet.of (L := [some (.ref (qb E + 94)), some (.ref (qb E + o)), some (.int (nI qn)), none, none]) (by decide +kernel) (Nat.le_of_ble_eq_true rfl) rfl ?_
  refine lda_n_5_0 (pc := 0) d_Ro_walk_0 ?_
  refine lda_n_5_1 (pc := 1) d_Ro_walk_1 ?_
  refine r_callV (pc := 2) (As := [.ref (qb E + o)]) (k := 6) (N := 10) (T := T_Ro) k_Ro_24 im_Ro_weigh se_Ro_weigh rfl (by decide) rfl (by decide) d_Ro_walk_2 (by assumption) (c_Ro_weighX hRo hM0 hok hI hp hD hc hc6 hd hdd) rfl (Nat.le_of_ble_eq_true rfl) (by omega) (by omega) (by omega) (fun v S' I' J' hq => ?_)
  obtain ⟨rfl, rfl, f1, t1, rfl⟩ := hq
  refine lda_n_5_0 (pc := 5) d_Ro_walk_5 ?_
  refine lda_n_5_1 (pc := 6) d_Ro_walk_6 ?_
  refine r_callV (pc := 7) (As := [.ref (qb E + o)]) (k := 6) (N := 10) (T := T_Ro) k_Ro_28 im_Ro_start se_Ro_start rfl (by decide) rfl (by decide) d_Ro_walk_7 (by assumption) (c_Ro_startX hRo hM0 (hok.fr f1 hp.nw) (by rw [f1 o (hp.nw o (by omega) (by omega))]; exact hc) hc6 hp.2.1) rfl (Nat.le_of_ble_eq_true rfl) (by omega) (by omega) (by omega) (fun v S'' I2 J'' hq => ?_)
  obtain ⟨rfl, rfl, hIz, hIr, f2, -, rfl⟩ := hq
  have eW : nWl (fun p => I' (qm o p) 6) c = nWl (fun p => I (qm o p) 6) c := nWl_cg c (fun p hpc => by
    have h1 := qm_lo (o := o) (p := p); have h2 := qm_hi (o := o) (p := p) (by omega)
    show I' (qm o p) 6 = I (qm o p) 6
    rw [f1 (qm o p) (hp.nw _ (by omega) (by omega))])
  rw [eW] at hIz hIr
  have z6 := nWl_len (f := fun p => I (qm o p) 6) c
  generalize nWl (fun p => I (qm o p) 6) c = W at *
  refine lda_n_5_0 (pc := 10) d_Ro_walk_10 ?_
  refine r_ldc (pc := 11) ct_Ro_31 d_Ro_walk_11 ?_
  refine p_Ro_32 (pc := 13) rfl d_Ro_walk_13 (by assumption) ?_
  refine lda_n_5_0 (pc := 16) d_Ro_walk_16 ?_
  refine r_ldc (pc := 17) ct_Ro_31 d_Ro_walk_17 ?_
  refine p_Ro_36 (pc := 19) rfl d_Ro_walk_19 (by assumption) ?_
  refine lda_n_5_0 (pc := 22) d_Ro_walk_22 ?_
  refine r_iconst (pc := 23) (v := 0) d_Ro_walk_23 rfl ?_
  refine p_Ro_39 (pc := 24) rfl d_Ro_walk_24 (by assumption) ?_
  refine lda_n_5_0 (pc := 27) d_Ro_walk_27 ?_
  refine r_iconst (pc := 28) (v := 0) d_Ro_walk_28 rfl ?_
  refine p_Ro_42 (pc := 29) rfl d_Ro_walk_29 (by assumption) ?_
  refine lda_n_5_0 (pc := 32) d_Ro_walk_32 ?_
  refine r_lconst (pc := 33) (v := 0) d_Ro_walk_33 rfl ?_
  refine p_Ro_45 (pc := 34) rfl d_Ro_walk_34 (by assumption) ?_
  refine r_iconst (pc := 37) (v := 1) d_Ro_walk_37 rfl ?_
  refine sti_n_5_3 (pc := 38) d_Ro_walk_38 rfl ?_
  refine r_sipush (pc := 39) (v := 720) d_Ro_walk_39 rfl ?_
  refine sti_5_4 (pc := 42) d_Ro_walk_42 rfl ?_
  have hst : qFr (qPr i) I (qup (qup (qup (qup I2 94 5 2147483647) 94 6 2147483647) 94 7 0) 94 8 0) := ((((f1.mono qPw_r).tr (f2.mono qst_r)).up (by unfold qPr; omega)).up (by unfold qPr; omega)).up (by unfold qPr; omega) |>.up (by unfold qPr; omega)
  have hz0 : (qup (qup (qup (qup I2 94 5 2147483647) 94 6 2147483647) 94 7 0) 94 8 0) 94 2 = nI W.length := by
    rw [qup_j (by decide), qup_j (by decide), qup_j (by decide), qup_j (by decide)]; exact hIz
  have ht0 : hTab (qup (qup (qup (qup I2 94 5 2147483647) 94 6 2147483647) 94 7 0) 94 8 0) c h := fun p j a b => by
    rw [qup_o (by decide), qup_o (by decide), qup_o (by decide), qup_o (by decide), f2 95 (by omega), t1 p j a b]
    exact hh p j a b
  have hr0 : rowIs (qup (qup (qup (qup I2 94 5 2147483647) 94 6 2147483647) 94 7 0) 94 8 0) c W := hIr.fr (by rw [qup_row (by decide), qup_row (by decide), qup_row (by decide), qup_row (by decide)])
  have hs0 : cRs (qup (qup (qup (qup I2 94 5 2147483647) 94 6 2147483647) 94 7 0) 94 8 0) (qup J 94 9 0) W.length nS0 := by
    refine ⟨by rw [qup_j (by decide), qup_at]; rfl, by rw [qup_at]; rfl, by rw [qup_at]; rfl, Or.inl ⟨rfl, by rw [qup_j (by decide), qup_j (by decide), qup_j (by decide), qup_at]⟩, Or.inl ⟨rfl, by rw [qup_j (by decide), qup_j (by decide), qup_at]⟩⟩
  generalize hF : (nit 720 W).foldl (nst h qn) nS0 = F
  have key : ∀ (m : Nat) (M : qI) (N : qJ) (s : nSt) (l : List Nat), m ≤ 720 → qFr (qPr i) I M → M 94 2 = nI W.length → (∀ a, a ≠ 94 → N a = J a) → cRs M N W.length s → l.length = W.length → rowIs M c l → hTab M c h → (nit m l).foldl (nst h qn) s = F → qW E y_Ro_walk b_Ro_walk none 5 0 0 (fun v S' I' J' => v = none ∧ S = S' ∧ qFr (qPr i) I I' ∧ I' 94 2 = nI W.length ∧ (∀ a, a ≠ 94 → J' a = J a) ∧ cRs I' J' W.length F) 0 0 44 [some (.ref (qb E + 94)), some (.ref (qb E + o)), some (.int (nI qn)), some (.int 1), some (.int (nI m))] [] S M N := by
    intro m
    induction m with
    | zero =>
      intro M N s l _ hf hMz hN hs hl hr ht hFo
      refine ldi_5_4 (pc := 44) d_Ro_walk_44 ?_
      refine r_if_le (pc := 46) (tgt := 69) d_Ro_walk_46 (by decide) (fun c1 => ?_) (fun c1 => ?_)
      · exact r_vret d_Ro_walk_69 rfl (by omega) (by omega) (⟨rfl, rfl, hf, hMz, hN, by rw [← hFo]; exact hs⟩)
      · exact absurd (by decide) c1
    | succ m ih =>
      intro M N s l hm hf hMz hN hs hl hr ht hFo
      rw [nit, List.foldl_cons] at hFo
      refine ldi_5_4 (pc := 44) d_Ro_walk_44 ?_
      refine r_if_le (pc := 46) (tgt := 69) d_Ro_walk_46 (by decide) (fun c1 => ?_) (fun c1 => ?_)
      · exact absurd c1 (nI_nle (by omega) (by omega))
      · refine ldi_n_5_3 (pc := 49) d_Ro_walk_49 ?_
        refine r_if_eq (pc := 50) (tgt := 69) d_Ro_walk_50 (by decide) (fun c2 => ?_) (fun c2 => ?_)
        · exact absurd c2 (by decide)
        · refine lda_n_5_0 (pc := 53) d_Ro_walk_53 ?_
          refine ldi_n_5_2 (pc := 54) d_Ro_walk_54 ?_
          refine r_callV (pc := 55) (As := [.int (nI qn)]) (k := 6) (N := 10) (T := T_Ro) k_Ro_49 im_Ro_look se_Ro_look rfl (by decide) rfl (by decide) d_Ro_walk_55 (by assumption) (c_Ro_look hRo hMz (by omega)) rfl (Nat.le_of_ble_eq_true rfl) (by omega) (by omega) (by omega) (fun v S' I' J' hq => ?_)
          obtain ⟨rfl, rfl, rfl, rfl⟩ := hq
          have hs2 := hs.look hc6 hl (by omega) ht hr hq0
          have hr2 : rowIs (qlook M W.length (nI qn)) c l := hr.fr (qlook_row (by decide) (by decide) (by decide))
          have ht2 : hTab (qlook M W.length (nI qn)) c h := fun p j a b => by rw [qlook_row (by decide) (by decide) (by decide)]; exact ht p j a b
          refine lda_n_5_0 (pc := 58) d_Ro_walk_58 ?_
          refine r_callV (pc := 59) (As := []) (k := 6) (N := 10) (T := T_Ro) k_Ro_53 im_Ro_goToNext se_Ro_goToNext rfl (by decide) rfl (by decide) d_Ro_walk_59 (by assumption) (c_Ro_goToNextX (l := l) hRo hc6 (qlook_z hMz) (by omega) hl hr2) rfl (Nat.le_of_ble_eq_true rfl) (by omega) (by omega) (by omega) (fun v S'' I3 J'' hq => ?_)
          obtain ⟨rfl, rfl, f3, hx⟩ := hq
          have hN2 : ∀ a, a ≠ 94 → qup N 94 9 (N 94 9 + (qrowH M W.length).toInt64) a = J a := fun a ha => by rw [qup_row ha]; exact hN a ha
          have hf3 : qFr (qPr i) I I3 := (qlook_fr hf).tr (f3.mono q96_r)
          have hz3 : I3 94 2 = nI W.length := by rw [f3 94 (by decide)]; exact qlook_z hMz
          rcases hx with ⟨hn, rfl, rfl⟩ | ⟨t, hn, rfl, ht3, hr3⟩
          · rw [hn] at hFo
            refine sti_n_5_3 (pc := 62) d_Ro_walk_62 rfl ?_
            refine inc_5_4 (pc := 63) (w := (-1)) d_Ro_walk_63 rfl rfl ?_
            refine r_goto (pc := 66) (tgt := 44) d_Ro_walk_66 (by decide) ?_
            rw [pk_m1]
            refine ldi_5_4 (pc := 44) d_Ro_walk_44 ?_
            by_cases m0 : m = 0
            · subst m0
              refine r_if_le (pc := 46) (tgt := 69) d_Ro_walk_46 (by decide) (fun c3 => ?_) (fun c3 => ?_)
              · exact r_vret d_Ro_walk_69 rfl (by omega) (by omega) (⟨rfl, rfl, hf3, hz3, hN2, by rw [← hFo]; exact hs2⟩)
              · exact absurd (by decide) c3
            · refine r_if_le (pc := 46) (tgt := 69) d_Ro_walk_46 (by decide) (fun c3 => ?_) (fun c3 => ?_)
              · exact absurd c3 (nI_nle (by omega) (by omega))
              · refine ldi_n_5_3 (pc := 49) d_Ro_walk_49 ?_
                refine r_if_eq (pc := 50) (tgt := 69) d_Ro_walk_50 (by decide) (fun c4 => ?_) (fun c4 => ?_)
                · exact r_vret d_Ro_walk_69 rfl (by omega) (by omega) (⟨rfl, rfl, hf3, hz3, hN2, by rw [← hFo]; exact hs2⟩)
                · exact absurd rfl c4
          · rw [hn] at hFo
            refine sti_n_5_3 (pc := 62) d_Ro_walk_62 rfl ?_
            refine inc_5_4 (pc := 63) (w := (-1)) d_Ro_walk_63 rfl rfl ?_
            refine r_goto (pc := 66) (tgt := 44) d_Ro_walk_66 (by decide) ?_
            rw [pk_m1]
            refine ih _ _ _ t (by omega) hf3 hz3 hN2 ⟨by rw [f3 94 (by decide)]; exact hs2.1, by rw [f3 94 (by decide)]; exact hs2.2.1, hs2.2.2.1, hs2.2.2.2.1.fr (by rw [f3 94 (by decide)]) (f3 97 (by decide)), hs2.2.2.2.2.fr (by rw [f3 94 (by decide)]) (f3 98 (by decide))⟩ ht3 hr3 (fun p j a b => by rw [f3 95 (by decide)]; exact ht2 p j a b) hFo
  exact key 720 _ _ _ W (Nat.le_refl _) hst hz0 (fun a ha => qup_row ha) hs0 rfl hr0 ht0 hF
end T3
/-! lowest terms, told exactly, on both sides -/
def egN : Nat → Nat → Nat → Nat
  | 0, a, _ => a
  | n + 1, a, b => if b = 0 then a else egN n b (a % b)
theorem egN_gcd : ∀ (k a b n : Nat), b < 2 ^ k → 2 * k + 1 ≤ n → egN n a b = Nat.gcd a b := by
  have st : ∀ a b : Nat, Nat.gcd a b = Nat.gcd b (a % b) := fun a b => by
    rw [Nat.gcd_comm a b, Nat.gcd_rec b a, Nat.gcd_comm]
  intro k
  induction k with
  | zero =>
    intro a b n hb hn
    obtain ⟨m, rfl⟩ : ∃ m, n = m + 1 := ⟨n - 1, by omega⟩
    have : b = 0 := by omega
    subst this
    rw [egN, if_pos rfl, Nat.gcd_zero_right]
  | succ k ih =>
    intro a b n hb hn
    obtain ⟨m, rfl⟩ : ∃ m, n = m + 2 := ⟨n - 2, by omega⟩
    rw [egN]
    by_cases h : b = 0
    · subst h; rw [if_pos rfl, Nat.gcd_zero_right]
    · rw [if_neg h, egN]
      have h1 : a % b < b := Nat.mod_lt _ (by omega)
      by_cases h2 : a % b = 0
      · rw [if_pos h2, st a b, h2, Nat.gcd_zero_right]
      · rw [if_neg h2]
        have h3 : b % (a % b) < 2 ^ k := by
          have e1 := Nat.mod_lt b (show a % b > 0 by omega)
          have e2 : b % (a % b) + a % b ≤ b := by
            have e3 := Nat.div_add_mod b (a % b)
            have e4 : 1 ≤ b / (a % b) := Nat.div_pos (by omega) (by omega)
            have e5 : a % b * 1 ≤ a % b * (b / (a % b)) := Nat.mul_le_mul_left _ e4
            omega
          rw [Nat.pow_succ] at hb
          omega
        rw [ih (a % b) (b % (a % b)) m h3 (by omega), ← st b (a % b), ← st a b]
def aLow (a b : Nat) (p : Int32) : Int64 := if p = 0 then lN (a / Nat.gcd a b) else lN (b / Nat.gcd a b)
theorem lN_z {n : Nat} (h : n < 2 ^ 63) : lN n = 0 ↔ n = 0 := by
  rw [show (0 : Int64) = lN 0 from rfl]; exact pk_lEQ h (by omega)
section T4
variable {E : qE} {S : qSh} {I : qI} {J : qJ}
theorem c_On_commonDivisorX {a b : Nat} (ha : a < 2 ^ 62) (hb : b < 2 ^ 62) : qMet E y_On_commonDivisor b_On_commonDivisor 7 (some .long) 0 0 0 [.long (lN a), .long (lN b)] S I J (fun v S' I' J' => v = some (.long (lN (egN 100 a b))) ∧ S = S' ∧ I = I' ∧ J = J') := by
  generalize hg : egN 100 a b = g
  refine qMet.of (L := [some (.long (lN a)), none, some (.long (lN b)), none, none, none, none]) (by decide +kernel) (Nat.le_of_ble_eq_true rfl) rfl ?_
  have key : ∀ (k : Nat), k ≤ 100 → ∀ (a b : Nat), a < 2 ^ 62 → b < 2 ^ 62 → egN k a b = g → qW E y_On_commonDivisor b_On_commonDivisor (some .long) 0 0 0 (fun v S' I' J' => v = some (.long (lN g)) ∧ S = S' ∧ I = I' ∧ J = J') 0 0 4 [some (.long (lN a)), none, some (.long (lN b)), none, some (.int (nI k)), none, none] [] S I J := by
    intro k
    induction k with
    | zero =>
      intro _ a b ha hb hg
      refine ldi_7_4 (pc := 4) d_On_commonDivisor_4 ?_
      refine r_if_le (pc := 6) (tgt := 31) d_On_commonDivisor_6 (by decide) (fun c => ?_) (fun c => ?_)
      · refine ldl_n_7_0 (pc := 31) d_On_commonDivisor_31 ?_
        exact r_lret d_On_commonDivisor_32 rfl (by omega) (by omega) (⟨by rw [← hg]; rfl, rfl, rfl, rfl⟩)
      · exact absurd (by decide) c
    | succ k ih =>
      intro hk a b ha hb hg
      rw [egN] at hg
      refine ldi_7_4 (pc := 4) d_On_commonDivisor_4 ?_
      refine r_if_le (pc := 6) (tgt := 31) d_On_commonDivisor_6 (by decide) (fun c => ?_) (fun c => ?_)
      · exact absurd c (nI_nle (by omega) (by omega))
      · refine ldl_n_7_2 (pc := 9) d_On_commonDivisor_9 ?_
        refine r_lconst (pc := 10) (v := 0) d_On_commonDivisor_10 rfl ?_
        refine r_lcmp (pc := 11) d_On_commonDivisor_11 ?_
        refine r_if_eq (pc := 12) (tgt := 31) d_On_commonDivisor_12 (by decide) (fun c2 => ?_) (fun c2 => ?_)
        · have b0 : b = 0 := (lN_z (by omega)).mp (qcmp_eq.mp c2)
          rw [if_pos b0] at hg
          refine ldl_n_7_0 (pc := 31) d_On_commonDivisor_31 ?_
          exact r_lret d_On_commonDivisor_32 rfl (by omega) (by omega) (⟨by rw [hg], rfl, rfl, rfl⟩)
        · have b0 : ¬ b = 0 := fun e => c2 (qcmp_eq.mpr ((lN_z (by omega)).mpr e))
          rw [if_neg b0] at hg
          have hm : a % b < b := Nat.mod_lt _ (by omega)
          refine ldl_n_7_0 (pc := 15) d_On_commonDivisor_15 ?_
          refine ldl_n_7_2 (pc := 16) d_On_commonDivisor_16 ?_
          refine r_lrem (pc := 17) d_On_commonDivisor_17 (fun e => c2 (qcmp_eq.mpr e)) ?_
          refine stl_7_5 (pc := 18) d_On_commonDivisor_18 rfl ?_
          refine ldl_n_7_2 (pc := 20) d_On_commonDivisor_20 ?_
          refine stl_n_7_0 (pc := 21) d_On_commonDivisor_21 ?_
          refine ldl_7_5 (pc := 22) d_On_commonDivisor_22 ?_
          refine stl_n_7_2 (pc := 24) d_On_commonDivisor_24 rfl ?_
          refine inc_7_4 (pc := 25) (w := (-1)) d_On_commonDivisor_25 rfl rfl ?_
          refine r_goto (pc := 28) (tgt := 4) d_On_commonDivisor_28 (by decide) ?_
          rw [pk_m1, pk_lRem (by omega) (by omega) (by omega)]
          exact qW.forget 5 (ih (by omega) b (a % b) hb (by omega) hg)
  refine r_bipush (pc := 0) (v := 100) d_On_commonDivisor_0 rfl ?_
  refine sti_7_4 (pc := 2) d_On_commonDivisor_2 rfl ?_
  exact key 100 (by omega) a b ha hb hg
theorem c_On_inLowestTermsX {a b : Nat} (p : Int32) (ha : a < 2 ^ 62) (b1 : 1 ≤ b) (hb : b ≤ 720) : qMet E y_On_inLowestTerms b_On_inLowestTerms 7 (some .long) 1 0 0 [.long (lN a), .long (lN b), .int p] S I J (fun v S' I' J' => v = some (.long (aLow a b p)) ∧ S = S' ∧ I = I' ∧ J = J') := by
  have eg : egN 100 a b = Nat.gcd a b := egN_gcd 10 a b 100 (by omega) (by omega)
  have g0 : 0 < Nat.gcd a b := Nat.gcd_pos_of_pos_right _ (by omega)
  have gl : Nat.gcd a b ≤ b := Nat.gcd_le_right _ (by omega)
  refine qMet.of (L := [some (.long (lN a)), none, some (.long (lN b)), none, some (.int p), none, none]) (by decide +kernel) (Nat.le_of_ble_eq_true rfl) rfl ?_
  refine ldl_n_7_0 (pc := 0) d_On_inLowestTerms_0 ?_
  refine ldl_n_7_2 (pc := 1) d_On_inLowestTerms_1 ?_
  refine r_callS (pc := 2) (As := [.long (lN a), .long (lN b)]) k_On_293 sw_On_commonDivisor rfl (by decide) d_On_inLowestTerms_2 (c_On_commonDivisorX ha (by omega)) rfl (Nat.le_of_ble_eq_true rfl) (by omega) (by omega) (by omega) (fun v S' I' J' hq => ?_)
  obtain ⟨rfl, rfl, rfl, rfl⟩ := hq
  rw [eg]
  unfold aLow
  refine stl_7_5 (pc := 5) d_On_inLowestTerms_5 rfl ?_
  refine ldl_7_5 (pc := 7) d_On_inLowestTerms_7 ?_
  refine r_lconst (pc := 9) (v := 0) d_On_inLowestTerms_9 rfl ?_
  refine r_lcmp (pc := 10) d_On_inLowestTerms_10 ?_
  refine r_if_ne (pc := 11) (tgt := 18) d_On_inLowestTerms_11 (by decide) (fun c => ?_) (fun c => ?_)
  · refine ldi_7_4 (pc := 18) d_On_inLowestTerms_18 ?_
    refine r_if_ne (pc := 20) (tgt := 27) d_On_inLowestTerms_20 (by decide) (fun c2 => ?_) (fun c2 => ?_)
    · rw [if_neg c2]
      refine ldl_n_7_2 (pc := 27) d_On_inLowestTerms_27 ?_
      refine ldl_7_5 (pc := 28) d_On_inLowestTerms_28 ?_
      refine r_ldiv (pc := 30) d_On_inLowestTerms_30 (fun e => c (qcmp_eq.mpr e)) ?_
      exact r_lret d_On_inLowestTerms_31 rfl (by omega) (by omega) (⟨by rw [pk_lDiv (by omega) g0 (by omega)], rfl, rfl, rfl⟩)
    · rw [if_pos c2]
      refine ldl_n_7_0 (pc := 23) d_On_inLowestTerms_23 ?_
      refine r_goto (pc := 24) (tgt := 28) d_On_inLowestTerms_24 (by decide) ?_
      refine ldl_7_5 (pc := 28) d_On_inLowestTerms_28 ?_
      refine r_ldiv (pc := 30) d_On_inLowestTerms_30 (fun e => c (qcmp_eq.mpr e)) ?_
      exact r_lret d_On_inLowestTerms_31 rfl (by omega) (by omega) (⟨by rw [pk_lDiv (by omega) g0 (by omega)], rfl, rfl, rfl⟩)
  · have c' : lN (Nat.gcd a b) = 0 := qcmp_eq.mp c
    have := (lN_z (by omega)).mp c'
    omega
theorem c_Md_partX {x y : Nat} {p : Int32} (hx : x < 2 ^ 62) (y1 : 1 ≤ y) (hy : y < 2 ^ 30) : qMet E y_Md_part b_Md_part 11 (some .long) 0 0 0 [.long (lN x), .long (lN y), .int p] S I J (fun v S' I' J' => v = some (.long (aLow x y p)) ∧ S = S' ∧ I = I' ∧ J = J') := by
  refine qMet.of (L := [some (.long (lN x)), none, some (.long (lN y)), none, some (.int p), none, none, none, none, none, none]) (by decide +kernel) (Nat.le_of_ble_eq_true rfl) rfl ?_
  refine ldl_n_11_0 (pc := 0) d_Md_part_0 ?_
  refine stl_11_5 (pc := 1) d_Md_part_1 rfl ?_
  refine ldl_n_11_2 (pc := 3) d_Md_part_3 ?_
  refine stl_11_7 (pc := 4) d_Md_part_4 rfl ?_
  have g0 : 0 < Nat.gcd x y := Nat.gcd_pos_of_pos_right _ (by omega)
  have gl : Nat.gcd x y ≤ y := Nat.gcd_le_right _ (by omega)
  have fin : ∀ (b : Nat) (a9 : Option Value), qW E y_Md_part b_Md_part (some .long) 0 0 0 (fun v S' I' J' => v = some (.long (aLow x y p)) ∧ S = S' ∧ I = I' ∧ J = J') 0 0 31 [some (.long (lN x)), none, some (.long (lN y)), none, some (.int p), some (.long (lN (Nat.gcd x y))), none, some (.long (lN b)), none, a9, none] [] S I J := by
    intro b a9
    have hg0 : ¬ lN (Nat.gcd x y) = 0 := fun e => by
      have := (lN_z (by omega)).mp e
      omega
    unfold aLow
    refine ldi_11_4 (pc := 31) d_Md_part_31 ?_
    refine r_if_ne (pc := 33) (tgt := 43) d_Md_part_33 (by decide) (fun c2 => ?_) (fun c2 => ?_)
    · rw [if_neg c2]
      refine ldl_n_11_2 (pc := 43) d_Md_part_43 ?_
      refine ldl_11_5 (pc := 44) d_Md_part_44 ?_
      refine r_ldiv (pc := 46) d_Md_part_46 (hg0) ?_
      exact r_lret d_Md_part_47 rfl (by omega) (by omega) (⟨by rw [pk_lDiv (by omega) g0 (by omega)], rfl, rfl, rfl⟩)
    · rw [if_pos c2]
      refine ldl_n_11_0 (pc := 36) d_Md_part_36 ?_
      refine ldl_11_5 (pc := 37) d_Md_part_37 ?_
      refine r_ldiv (pc := 39) d_Md_part_39 (hg0) ?_
      refine r_goto (pc := 40) (tgt := 47) d_Md_part_40 (by decide) ?_
      exact r_lret d_Md_part_47 rfl (by omega) (by omega) (⟨by rw [pk_lDiv (by omega) g0 (by omega)], rfl, rfl, rfl⟩)
  have lp : ∀ n (a b : Nat) (a9 : Option Value), b ≤ n → a < 2 ^ 62 → b < 2 ^ 62 → Nat.gcd a b = Nat.gcd x y → qW E y_Md_part b_Md_part (some .long) 0 0 0 (fun v S' I' J' => v = some (.long (aLow x y p)) ∧ S = S' ∧ I = I' ∧ J = J') 0 0 6 [some (.long (lN x)), none, some (.long (lN y)), none, some (.int p), some (.long (lN a)), none, some (.long (lN b)), none, a9, none] [] S I J := by
    intro n
    induction n with
    | zero =>
      intro a b a9 hb ha hb2 hg
      have b0 : b = 0 := by omega
      subst b0
      rw [Nat.gcd_zero_right] at hg
      subst hg
      refine ldl_11_7 (pc := 6) d_Md_part_6 ?_
      refine r_lconst (pc := 8) (v := 0) d_Md_part_8 rfl ?_
      refine r_lcmp (pc := 9) d_Md_part_9 ?_
      refine r_if_eq (pc := 10) (tgt := 31) d_Md_part_10 (by decide) (fun c => ?_) (fun c => ?_)
      · exact fin 0 a9
      · exact absurd (lg_cmp_eq0 rfl) c
    | succ n ih =>
      intro a b a9 hb ha hb2 hg
      refine ldl_11_7 (pc := 6) d_Md_part_6 ?_
      refine r_lconst (pc := 8) (v := 0) d_Md_part_8 rfl ?_
      refine r_lcmp (pc := 9) d_Md_part_9 ?_
      refine r_if_eq (pc := 10) (tgt := 31) d_Md_part_10 (by decide) (fun c => ?_) (fun c => ?_)
      · have b0 : b = 0 := (lN_z (by omega)).mp (lg_cmp_0 c)
        subst b0
        rw [Nat.gcd_zero_right] at hg
        subst hg
        exact fin 0 a9
      · have b0 : ¬ b = 0 := fun e => c (lg_cmp_eq0 ((lN_z (by omega)).mpr e))
        have hm : a % b < b := Nat.mod_lt _ (by omega)
        refine ldl_11_5 (pc := 13) d_Md_part_13 ?_
        refine ldl_11_7 (pc := 15) d_Md_part_15 ?_
        refine r_lrem (pc := 17) d_Md_part_17 (fun e => b0 ((lN_z (by omega)).mp e)) ?_
        refine stl_11_9 (pc := 18) d_Md_part_18 rfl ?_
        refine ldl_11_7 (pc := 20) d_Md_part_20 ?_
        refine stl_11_5 (pc := 22) d_Md_part_22 rfl ?_
        refine ldl_11_9 (pc := 24) d_Md_part_24 ?_
        refine stl_11_7 (pc := 26) d_Md_part_26 rfl ?_
        refine r_goto (pc := 28) (tgt := 6) d_Md_part_28 (by decide) ?_
        rw [pk_lRem (by omega) (by omega) (by omega)]
        exact ih b (a % b) _ (by omega) hb2 (by omega) (by rw [← hg, Nat.gcd_comm a b, Nat.gcd_rec b a, Nat.gcd_comm])
  exact lp y x y none (Nat.le_refl _) hx (by omega) rfl
end T4
