/-! becoming another keeps what is kept; days that go -/
theorem qbecN_done {I : qI} {o q : Nat} (hap : qApM o q) (h1 : ∀ p, p < 6 → qbool (I (qm o p) 6)) (h2 : ∀ p, p < 6 → qbool (I (qm q p) 6)) : ∀ n, n ≤ 6 → ∀ p, p < 6 → qbool (qbecN I o q n (qm o p) 6) := by
  intro n
  induction n with
  | zero => intro _ p hp; exact h1 p hp
  | succ n ih =>
    intro hn p hp
    rw [qbecN]
    by_cases e : p = n
    · subst e
      have hq : qbecN I o q p (qm q p) = I (qm q p) := qbecN_row p (by omega) (by unfold qApM at hap; have := qm_hi (o := q) (p := p) hp; have := qm_lo (o := q) (p := p); omega)
      unfold qbecomes
      rw [qfil_o (by omega), qup_at, hq]
      exact h2 p hp
    · have h3 : qm o p ≠ qm o n := by unfold qm; omega
      have h4 : qm o p ≠ qm o n + 1 := by unfold qm; omega
      rw [qbecomes_row h3 h4]
      exact ih (by omega) p hp
theorem qmbec_1 {I : qI} {o q c : Nat} (hc : I q 1 = nI c) (hc6 : c ≤ 6) : qmbec I o q o 1 = nI c := by
  unfold qmbec
  rw [qnbec_row (by omega), qnbec_row (by omega), qnbec_row (by omega)]
  unfold qmbA
  rw [qup_j (by decide), qfil_o (by omega), qup_j (by decide), hc, qcl (by omega), qbecN_row c hc6 (by omega), qup_at]
theorem qmbec_3 {I : qI} {o q : Nat} : qmbec I o q o 3 = I q 3 := by
  unfold qmbec
  rw [qnbec_row (by omega), qnbec_row (by omega), qnbec_row (by omega)]
  unfold qmbA
  rw [qup_j (by decide), qfil_o (by omega), qup_at]
theorem qmbec_4 {I : qI} {o q : Nat} : qmbec I o q o 4 = I q 4 := by
  unfold qmbec
  rw [qnbec_row (by omega), qnbec_row (by omega), qnbec_row (by omega)]
  unfold qmbA
  rw [qup_at]
theorem qnbec_3 {I : qI} {o q k : Nat} : qnbec I o q k o 3 = nI k := by
  unfold qnbec
  rw [qfil3_o (by omega) (by omega) (by omega), qup_at]
theorem qmbec_n3 {I : qI} {o q : Nat} : qmbec I o q (o + 3) 3 = nI (I (q + 3) 3).toNatClampNeg := by
  unfold qmbec
  rw [qnbec_row (by omega), qnbec_row (by omega), qnbec_3]
theorem qmbec_n7 {I : qI} {o q : Nat} : qmbec I o q (o + 7) 3 = nI (I (q + 7) 3).toNatClampNeg := by
  unfold qmbec
  rw [qnbec_row (by omega), qnbec_3]
theorem qmbec_n11 {I : qI} {o q : Nat} : qmbec I o q (o + 11) 3 = nI (I (q + 11) 3).toNatClampNeg := by
  unfold qmbec
  rw [qnbec_3]
theorem qmbA_n {I : qI} {o q a D : Nat} (hok : qMgOK I q D) (h1 : o + 2 < a) (h2 : a < o + 15) : qmbA I o q a = I a := by
  obtain ⟨⟨c, hc6, hc⟩, -⟩ := hok
  unfold qmbA
  rw [qup_row (by omega), qfil_o (by omega), qup_row (by omega), hc, qcl (by omega), qbecN_row c hc6 (by omega), qup_row (by omega)]
theorem qmbec_t {I : qI} {o q D r : Nat} (hok : qMgOK I q D) (hap : qApM o q) : qmbec I o q (o + 6) r = if r < (I (q + 3) 3).toNatClampNeg then I (q + 6) r else I (o + 6) r := by
  unfold qApM at hap
  unfold qmbec
  rw [qnbec_row (by omega), qnbec_row (by omega)]
  unfold qnbec qfil3
  show (if r < _ ∧ o + 6 = o + 3 + 1 then _ else if r < _ ∧ o + 6 = o + 3 + 2 then _ else if r < _ ∧ o + 6 = o + 3 + 3 then qmbA I o q (q + 3 + 3) r else qup (qmbA I o q) (o + 3) 3 _ (o + 6) r) = _
  rw [if_neg (by omega), if_neg (by omega)]
  by_cases h : r < (I (q + 3) 3).toNatClampNeg
  · rw [if_pos ⟨h, by omega⟩, if_pos h, qmbA_row hok (by omega)]
  · rw [if_neg (fun e => h e.1), if_neg h, qup_o (by omega), qmbA_n hok (by omega) (by omega)]
theorem qmbec_m {I : qI} {o q c p j : Nat} (hc : I q 1 = nI c) (hc6 : c ≤ 6) (hp : p < 6) : qmbec I o q (qm o p) j = qbecN (qup I o 1 (I q 1)) o q c (qm o p) j := by
  have h1 := qm_lo (o := o) (p := p); have h2 := qm_hi (o := o) (p := p) hp
  unfold qmbec
  rw [qnbec_row (by omega), qnbec_row (by omega), qnbec_row (by omega)]
  unfold qmbA
  rw [qup_o (by omega), qfil_o (by omega), qup_o (by omega), hc, qcl (by omega)]
theorem qmbec_ok {I : qI} {o q D : Nat} (hok : qMgOK I q D) (hap : qApM o q) (h1 : ∀ p, p < 6 → qbool (I (qm o p) 6)) (h2 : ∀ r, r < 5 → ∃ z, z ≤ 20 ∧ I (o + 6) r = nI z) : qMgOK (qmbec I o q) o D := by
  have hok0 := hok
  obtain ⟨⟨c, hc6, hc⟩, ⟨l, hl6, hl⟩, ⟨d, hd, hdd⟩, ⟨z1, hz1, e1⟩, ⟨z2, hz2, e2⟩, ⟨z3, hz3, e3⟩, hm, ht⟩ := hok
  refine ⟨⟨c, hc6, qmbec_1 hc hc6⟩, ⟨l, hl6, by rw [qmbec_3, hl]⟩, ⟨d, hd, by rw [qmbec_4, hdd]⟩, ⟨z1, hz1, by rw [qmbec_n3, e1, qcl (by omega)]⟩, ⟨z2, hz2, by rw [qmbec_n7, e2, qcl (by omega)]⟩, ⟨z3, hz3, by rw [qmbec_n11, e3, qcl (by omega)]⟩, fun p hp => ?_, fun r hr => ?_⟩
  · rw [qmbec_m hc hc6 hp]
    refine qbecN_done hap (fun p hp => ?_) (fun p hp => ?_) c hc6 p hp
    · rw [qup_o (by have := qm_lo (o := o) (p := p); omega)]; exact h1 p hp
    · rw [qup_o (by have := qm_lo (o := q) (p := p); have := qm_hi (o := q) (p := p) hp; unfold qApM at hap; omega)]; exact hm p hp
  · rw [qmbec_t hok0 hap]
    split
    · exact ht r hr
    · exact h2 r hr
theorem qgoN_o {I : qI} {o i j : Nat} {most : Int32} (hj : j ≠ 4) : ∀ n, qgoN I o i most n o j = I o j := by
  intro n
  induction n with
  | zero => rfl
  | succ n ih =>
    rw [qgoN]
    unfold qgo1
    rw [qup_j hj, qgoPs_row _ (fun p _ => by unfold qm; omega), ih]
theorem qgoN_day {I : qI} {o i d : Nat} {most : Int32} (h : I o 4 = nI d) : ∀ n, qgoN I o i most n o 4 = nI (d + n) := by
  intro n
  induction n with
  | zero => exact h
  | succ n ih =>
    rw [qgoN]
    unfold qgo1
    rw [qup_at, ih, q1]; rfl
theorem qhurts_0 {I : qI} {o : Nat} (h : I o 1 = 0) : qhurts I o = 0 := by unfold qhurts; rw [h]; rfl
theorem qdones_0 {I : qI} {o : Nat} (h : I o 1 = 0) : qdones I o = 0 := by unfold qdones; rw [h]; rfl
theorem qhas_0 {I : qI} {o i : Nat} (h : I o 3 = 0) : qhas I o i = -5 := by
  unfold qhas; rw [h]
  split <;> rfl
theorem qlost_0 {n d : Int32} (h : n = 0) : qlost n d = 0 := by subst h; rfl
theorem isIs.lt {S : qSh} {i : Nat} (h : isIs S i) : i + 4 < qN S := h.2.2.2.2.1.1
