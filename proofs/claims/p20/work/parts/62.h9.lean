/-! the object's invariant -/
def cAh1 (I : qI) : Prop := (∀ p, p < 6 → qbool (I (qm 60 p) 6)) ∧ ∀ r, r < 5 → ∃ z, z ≤ 20 ∧ I (60 + 6) r = nI z
theorem qMgOK.im {I : qI} {D : Nat} (h : qMgOK I 60 D) : cAh1 I := ⟨h.2.2.2.2.2.2.1, h.2.2.2.2.2.2.2⟩
def cRd (I : qI) : Prop := ∃ z, z ≤ 100 ∧ I 87 1 = nI z ∧ ∀ j, j < z → ∃ k, k < 128 ∧ I 88 j = nI k
def cTs (I : qI) : Prop := ∀ t, t < 6 → ∃ z, z ≤ 60 ∧ I (102 + 2 * t) 1 = nI z
/-- what the object's cells hold -/
def cDat (I : qI) (w0 w2 : Nat) : Prop := qMgOK I 6 9999 ∧ qIsOK I w0 ∧ qIsOK I w2 ∧ cAh0 I ∧ cAh1 I ∧ (I 0 4 = 0 ∨ (I 0 4 = 1 ∧ qMgOK I 60 9999)) ∧ cRd I ∧ cTs I ∧ ∃ h, h ≤ 6 ∧ I 0 7 = nI h
def cIds (w0 w1 w2 bl : Nat) : Prop := qW1 w0 ∧ qW1 w1 ∧ qW1 w2 ∧ (bl = 89 ∨ 148 ≤ bl) ∧ (bl + 4 < w0 ∨ w0 + 4 < bl) ∧ (bl + 4 < w2 ∨ w2 + 4 < bl) ∧ (w0 = w2 ∨ w0 + 4 < w2 ∨ w2 + 4 < w0)
def cINV (S : qSh) (I : qI) (J : qJ) (w0 w1 w2 bl : Nat) : Prop := isOn S w0 w1 w2 bl ∧ qZ S I J ∧ 148 ≤ qN S ∧ cIds w0 w1 w2 bl ∧ cDat I w0 w2
theorem cAh0.fr {I I' : qI} (h : cAh0 I) (hf : ∀ a, 33 ≤ a → a ≤ 59 → I' a = I a) : cAh0 I' := by
  refine ⟨fun p hp => ?_, fun r hr => ?_⟩
  · have := qm_lo (o := 33) (p := p); have := qm_hi (o := 33) (p := p) hp
    rw [hf _ (by omega) (by omega)]; exact h.1 p hp
  · rw [hf _ (by omega) (by omega)]; exact h.2 r hr
theorem cAh1.fr {I I' : qI} (h : cAh1 I) (hf : ∀ a, 60 ≤ a → a ≤ 86 → I' a = I a) : cAh1 I' := by
  refine ⟨fun p hp => ?_, fun r hr => ?_⟩
  · have := qm_lo (o := 60) (p := p); have := qm_hi (o := 60) (p := p) hp
    rw [hf _ (by omega) (by omega)]; exact h.1 p hp
  · rw [hf _ (by omega) (by omega)]; exact h.2 r hr
theorem qMgOK.fr2 {I I' : qI} {o D : Nat} (h : qMgOK I o D) (hf : ∀ a, o ≤ a → a ≤ o + 26 → I' a = I a) : qMgOK I' o D := by
  refine h.rows (fun a h1 h2 => hf a h1 (by omega)) (fun p hp => ?_)
  have h1 := qm_lo (o := o) (p := p); have h2 := qm_hi (o := o) (p := p) hp
  rw [hf _ (by omega) (by omega)]
  exact h.2.2.2.2.2.2.1 p hp
theorem qMgOK.day {I : qI} {o D D2 : Nat} (h : qMgOK I o D) (hd : ∃ d, d ≤ D2 ∧ I o 4 = nI d) : qMgOK I o D2 := ⟨h.1, h.2.1, hd, h.2.2.2⟩
theorem cRd.fr {I I' : qI} (h : cRd I) (h1 : I' 87 1 = I 87 1) (h2 : I' 88 = I 88) : cRd I' := by
  unfold cRd
  rw [h1, h2]
  exact h
theorem cTs.fr {I I' : qI} (h : cTs I) (hf : ∀ a, 102 ≤ a → a ≤ 113 → I' a = I a) : cTs I' := fun t ht => by
  rw [hf _ (by omega) (by omega)]; exact h t ht
/-- the rows that the object's calls lean on -/
def cR (w0 w2 a : Nat) : Prop := a = 0 ∨ (6 ≤ a ∧ a ≤ 88) ∨ (102 ≤ a ∧ a ≤ 113) ∨ a = w0 ∨ a = w0 + 3 ∨ a = w2 ∨ a = w2 + 3
/-- 6's rows written anew -/
theorem cDat.on6 {I I' : qI} {w0 w2 : Nat} (h : cDat I w0 w2) (hok : qMgOK I' 6 9999) (hf : ∀ a, cR w0 w2 a → (a < 6 ∨ 32 < a) → I' a = I a) (e0 : qW1 w0) (e2 : qW1 w2) : cDat I' w0 w2 := by
  obtain ⟨h1, h2, h3, h4, h5, h6, h7, h8, h9⟩ := h
  unfold qW1 at e0 e2
  unfold cR at hf
  refine ⟨hok, h2.of (hf _ (by omega) (by omega)) (hf _ (by omega) (by omega)), h3.of (hf _ (by omega) (by omega)) (hf _ (by omega) (by omega)), h4.fr (fun a a1 a2 => hf a (by omega) (by omega)), h5.fr (fun a a1 a2 => hf a (by omega) (by omega)), ?_, h7.fr (by rw [hf 87 (by omega) (by omega)]) (hf 88 (by omega) (by omega)), h8.fr (fun a a1 a2 => hf a (by omega) (by omega)), ?_⟩
  · rw [hf 0 (by omega) (by omega)]
    rcases h6 with q | ⟨q, q2⟩
    · exact Or.inl q
    · exact Or.inr ⟨q, q2.fr2 (fun a a1 a2 => hf a (by omega) (by omega))⟩
  · rw [hf 0 (by omega) (by omega)]; exact h9
theorem cDat.fr {I I' : qI} {w0 w2 : Nat} (h : cDat I w0 w2) (hf : ∀ a, cR w0 w2 a → I' a = I a) (e0 : qW1 w0) (e2 : qW1 w2) : cDat I' w0 w2 :=
  h.on6 (h.1.fr2 (fun a a1 a2 => hf a (by unfold cR; omega))) (fun a ha _ => hf a ha) e0 e2
/-- 33's rows written anew -/
theorem cDat.ah {I I' : qI} {w0 w2 : Nat} (h : cDat I w0 w2) (ha : cAh0 I') (hf : ∀ a, cR w0 w2 a → (a < 33 ∨ 59 < a) → I' a = I a) (e0 : qW1 w0) (e2 : qW1 w2) : cDat I' w0 w2 := by
  obtain ⟨h1, h2, h3, h4, h5, h6, h7, h8, h9⟩ := h
  unfold qW1 at e0 e2
  unfold cR at hf
  refine ⟨h1.fr2 (fun a a1 a2 => hf a (by omega) (by omega)), h2.of (hf _ (by omega) (by omega)) (hf _ (by omega) (by omega)), h3.of (hf _ (by omega) (by omega)) (hf _ (by omega) (by omega)), ha, h5.fr (fun a a1 a2 => hf a (by omega) (by omega)), ?_, h7.fr (by rw [hf 87 (by omega) (by omega)]) (hf 88 (by omega) (by omega)), h8.fr (fun a a1 a2 => hf a (by omega) (by omega)), ?_⟩
  · rw [hf 0 (by omega) (by omega)]
    rcases h6 with q | ⟨q, q2⟩
    · exact Or.inl q
    · exact Or.inr ⟨q, q2.fr2 (fun a a1 a2 => hf a (by omega) (by omega))⟩
  · rw [hf 0 (by omega) (by omega)]; exact h9
theorem qZ.fr {S : qSh} {I I' : qI} {J J' : qJ} (h : qZ S I J) (hf : ∀ a, qN S ≤ a → I' a = I a ∧ J' a = J a) : qZ S I' J' := fun a ha => by
  obtain ⟨e1, e2⟩ := hf a ha
  rw [e1, e2]; exact h a ha
/-- one writing into 6's mourners or its own rows -/
theorem ok_set {I : qI} {c : Nat} {p x n : Int32} (h : qMgOK I 6 9999) (hc6 : c ≤ 6) : qMgOK (ci_set I c p x n) 6 9999 ∧ ∀ a, (a < 6 ∨ 32 < a) → ci_set I c p x n a = I a := by
  unfold ci_set
  split
  · exact ⟨h, fun _ _ => rfl⟩
  · rename_i c1
    obtain ⟨q, hq, rfl⟩ := qisM_y (by omega) c1
    rw [qcl (n := q) (by omega)]
    have lo := qm_lo (o := 6) (p := q)
    have hi := qm_hi (o := 6) (p := q) (by omega)
    split
    · exact ⟨h, fun _ _ => rfl⟩
    · split
      · exact ⟨h, fun _ _ => rfl⟩
      · refine ⟨h.rows (fun a h1 h2 => qup_row (by omega)) (fun p2 hp2 => ?_), fun a ha => qup_row (by omega)⟩
        have := h.2.2.2.2.2.2.1 p2 hp2
        have hj : cfld x ≠ 6 := by unfold cfld; split <;> (try split) <;> decide
        by_cases e : qm 6 p2 = qm 6 q
        · rw [e, qup_j (Ne.symm hj), ← e]; exact this
        · rw [qup_o e]; exact this
theorem ok_done {I : qI} {c : Nat} {p b : Int32} (h : qMgOK I 6 9999) (hc6 : c ≤ 6) (hb : qbool b) : qMgOK (ci_done I c p b) 6 9999 ∧ ∀ a, (a < 6 ∨ 32 < a) → ci_done I c p b a = I a := by
  unfold ci_done
  split
  · exact ⟨h, fun _ _ => rfl⟩
  · rename_i c1
    obtain ⟨q, hq, rfl⟩ := qisM_y (by omega) c1
    rw [qcl (n := q) (by omega)]
    have lo := qm_lo (o := 6) (p := q)
    have hi := qm_hi (o := 6) (p := q) (by omega)
    refine ⟨h.rows (fun a h1 h2 => qup_row (by omega)) (fun p2 hp2 => ?_), fun a ha => qup_row (by omega)⟩
    have := h.2.2.2.2.2.2.1 p2 hp2
    by_cases e : qm 6 p2 = qm 6 q
    · rw [e, qup_at]; exact hb
    · rw [qup_o e]; exact this
theorem ok_row {I : qI} {c : Nat} {p r n : Int32} (h : qMgOK I 6 9999) (hc6 : c ≤ 6) : qMgOK (ci_row I c p r n) 6 9999 ∧ ∀ a, (a < 6 ∨ 32 < a) → ci_row I c p r n a = I a := by
  unfold ci_row
  split
  · exact ⟨h, fun _ _ => rfl⟩
  · rename_i c1
    obtain ⟨q, hq, rfl⟩ := qisM_y (by omega) c1
    rw [qcl (n := q) (by omega)]
    have lo := qm_lo (o := 6) (p := q)
    have hi := qm_hi (o := 6) (p := q) (by omega)
    split
    · exact ⟨h, fun _ _ => rfl⟩
    · split
      · exact ⟨h, fun _ _ => rfl⟩
      · split
        · refine ⟨h.rows (fun a h1 h2 => qup_row (by omega)) (fun p2 hp2 => ?_), fun a ha => qup_row (by omega)⟩
          have := h.2.2.2.2.2.2.1 p2 hp2
          rw [qup_o (by unfold qm; omega)]; exact this
        · exact ⟨h, fun _ _ => rfl⟩
