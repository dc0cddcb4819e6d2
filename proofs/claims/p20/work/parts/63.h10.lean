/-! the object's invariant kept: the list, seen, plans, books, mourners -/
theorem ok_l {I I' : qI} {D : Nat} (h : qMgOK I 6 D) (hl : ∃ l, l ≤ 6 ∧ I' 6 3 = nI l) (hf : ∀ a j, ¬ (a = 6 ∧ j = 3) → a ≠ 8 → I' a j = I a j) : qMgOK I' 6 D := by
  obtain ⟨⟨c, c1, c2⟩, -, ⟨d, d1, d2⟩, ⟨z1, y1, x1⟩, ⟨z2, y2, x2⟩, ⟨z3, y3, x3⟩, hm, ht⟩ := h
  refine ⟨⟨c, c1, (hf 6 1 (by omega) (by omega)).trans c2⟩, hl, ⟨d, d1, (hf 6 4 (by omega) (by omega)).trans d2⟩, ⟨z1, y1, (hf 9 3 (by omega) (by omega)).trans x1⟩, ⟨z2, y2, (hf 13 3 (by omega) (by omega)).trans x2⟩, ⟨z3, y3, (hf 17 3 (by omega) (by omega)).trans x3⟩, fun p hp => ?_, fun r hr => ?_⟩
  · have := qm_lo (o := 6) (p := p)
    rw [hf _ _ (by omega) (by omega)]; exact hm p hp
  · obtain ⟨z, q1, q2⟩ := ht r hr
    exact ⟨z, q1, (hf 12 r (by omega) (by omega)).trans q2⟩
theorem ok_list {I : qI} {c l : Nat} {p : Int32} (h : qMgOK I 6 9999) (hl : I 6 3 = nI l) : qMgOK (ci_list I c l p) 6 9999 ∧ (∀ a, (a < 6 ∨ 32 < a) → ci_list I c l p a = I a) ∧ ∀ j, j ≠ 3 → ci_list I c l p 6 j = I 6 j := by
  unfold ci_list
  split
  · exact ⟨ok_l h ⟨0, by omega, qup_at⟩ (fun a j h1 h2 => qup_ne h1), fun a ha => qup_row (by omega), fun j hj => qup_j hj⟩
  · split
    · exact ⟨h, fun _ _ => rfl, fun _ _ => rfl⟩
    · split
      · exact ⟨h, fun _ _ => rfl, fun _ _ => rfl⟩
      · split
        · rename_i h6
          exact ⟨ok_l h ⟨l + 1, by omega, qup_at⟩ (fun a j h1 h2 => by rw [qup_ne h1, qup_o h2]), fun a ha => by rw [qup_row (by omega), qup_row (by omega)], fun j hj => by rw [qup_j hj, qup_o (by decide)]⟩
        · exact ⟨h, fun _ _ => rfl, fun _ _ => rfl⟩
theorem ok_swap {I : qI} {c l : Nat} {p q : Int32} (h : qMgOK I 6 9999) : qMgOK (ci_swap I c l p q) 6 9999 ∧ ∀ a, a ≠ 8 → ci_swap I c l p q a = I a := by
  unfold ci_swap
  split
  · exact ⟨h, fun _ _ => rfl⟩
  · split
    · exact ⟨h, fun _ _ => rfl⟩
    · split
      · exact ⟨h, fun _ _ => rfl⟩
      · split
        · exact ⟨h, fun _ _ => rfl⟩
        · split
          · exact ⟨h, fun _ _ => rfl⟩
          · refine ⟨ok_l h ?_ (fun a j h1 h2 => by rw [qup_o h2, qup_o h2]), fun a ha => by rw [qup_row ha, qup_row ha]⟩
            obtain ⟨l, l1, l2⟩ := h.2.1
            exact ⟨l, l1, by rw [qup_o (by decide), qup_o (by decide)]; exact l2⟩
theorem ok_note {I I' : qI} {D : Nat} (h : qMgOK I 6 D) (n1 : ∃ z, z ≤ 5 ∧ I' 9 3 = nI z) (n2 : ∃ z, z ≤ 10 ∧ I' 13 3 = nI z) (n3 : ∃ z, z ≤ 8 ∧ I' 17 3 = nI z) (ht : ∀ r, r < 5 → ∃ z, z ≤ 20 ∧ I' 12 r = nI z) (hf : ∀ a, (a < 9 ∨ 20 < a) → I' a = I a) : qMgOK I' 6 D := by
  obtain ⟨⟨c, c1, c2⟩, ⟨l, l1, l2⟩, ⟨d, d1, d2⟩, -, -, -, hm, -⟩ := h
  have e6 := hf 6 (by omega)
  refine ⟨⟨c, c1, by rw [e6]; exact c2⟩, ⟨l, l1, by rw [e6]; exact l2⟩, ⟨d, d1, by rw [e6]; exact d2⟩, n1, n2, n3, fun p hp => ?_, ht⟩
  have := qm_lo (o := 6) (p := p)
  rw [hf _ (by omega)]; exact hm p hp
theorem ok_see {I : qI} {c z : Nat} {p x n : Int32} (h : qMgOK I 6 9999) (hz : I 9 3 = nI z) : qMgOK (ci_see I c z p x n) 6 9999 ∧ ∀ a, (a < 9 ∨ 12 < a) → ci_see I c z p x n a = I a := by
  have h0 := h
  obtain ⟨-, -, -, n1, n2, n3, -, ht⟩ := h0
  unfold ci_see
  split
  · refine ⟨ok_note h ⟨0, by omega, qup_at⟩ ?_ ?_ ?_ (fun a ha => qup_row (by omega)), fun a ha => qup_row (by omega)⟩
    · rw [qup_o (by decide)]; exact n2
    · rw [qup_o (by decide)]; exact n3
    · intro r hr; rw [qup_o (by decide)]; exact ht r hr
  · split
    · exact ⟨h, fun _ _ => rfl⟩
    · split
      · exact ⟨h, fun _ _ => rfl⟩
      · split
        · exact ⟨h, fun _ _ => rfl⟩
        · rename_i c3
          split
          · rename_i h5
            unfold qadd
            refine ⟨ok_note h ⟨z + 1, by omega, qup_at⟩ ?_ ?_ ?_ (fun a ha => by rw [qup_row (by omega), qup_row (by omega), qup_row (by omega), qup_row (by omega)]), fun a ha => by rw [qup_row (by omega), qup_row (by omega), qup_row (by omega), qup_row (by omega)]⟩
            · rw [qup_o (by decide), qup_o (by decide), qup_o (by decide), qup_o (by decide)]; exact n2
            · rw [qup_o (by decide), qup_o (by decide), qup_o (by decide), qup_o (by decide)]; exact n3
            · intro r hr
              rw [qup_o (by decide)]
              by_cases e : r = z
              · subst e
                obtain ⟨g1, g2⟩ := qwithin_y c3
                obtain ⟨k, k1, k2⟩ := nI_of2 (M := 20) (n := 20) rfl (Int32.not_lt.mpr g1) g2
                exact ⟨k, k1, by rw [show (12 : Nat) = 9 + 3 from rfl, qup_at]; exact k2⟩
              · rw [show (12 : Nat) = 9 + 3 from rfl, qup_j e, qup_o (by decide), qup_o (by decide)]; exact ht r hr
          · exact ⟨h, fun _ _ => rfl⟩
theorem ok_plan {I : qI} {c z : Nat} {x p : Int32} (h : qMgOK I 6 9999) (hz : I 13 3 = nI z) : qMgOK (ci_plan I c z x p) 6 9999 ∧ ∀ a, (a < 13 ∨ 16 < a) → ci_plan I c z x p a = I a := by
  have h0 := h
  obtain ⟨-, -, -, n1, n2, n3, -, ht⟩ := h0
  unfold ci_plan
  split
  · refine ⟨ok_note h ?_ ⟨0, by omega, qup_at⟩ ?_ ?_ (fun a ha => qup_row (by omega)), fun a ha => qup_row (by omega)⟩
    · rw [qup_o (by decide)]; exact n1
    · rw [qup_o (by decide)]; exact n3
    · intro r hr; rw [qup_o (by decide)]; exact ht r hr
  · split
    · exact ⟨h, fun _ _ => rfl⟩
    · split
      · exact ⟨h, fun _ _ => rfl⟩
      · split
        · rename_i h5
          unfold qadd
          refine ⟨ok_note h ?_ ⟨z + 1, by omega, qup_at⟩ ?_ ?_ (fun a ha => by rw [qup_row (by omega), qup_row (by omega), qup_row (by omega), qup_row (by omega)]), fun a ha => by rw [qup_row (by omega), qup_row (by omega), qup_row (by omega), qup_row (by omega)]⟩
          · rw [qup_o (by decide), qup_o (by decide), qup_o (by decide), qup_o (by decide)]; exact n1
          · rw [qup_o (by decide), qup_o (by decide), qup_o (by decide), qup_o (by decide)]; exact n3
          · intro r hr
            rw [qup_o (by decide), qup_o (by decide), qup_o (by decide), qup_o (by decide)]; exact ht r hr
        · exact ⟨h, fun _ _ => rfl⟩
theorem ok_book {I : qI} {c z : Nat} {p x : Int32} (h : qMgOK I 6 9999) (hz : I 17 3 = nI z) : qMgOK (ci_book I c z p x) 6 9999 ∧ ∀ a, (a < 17 ∨ 20 < a) → ci_book I c z p x a = I a := by
  have h0 := h
  obtain ⟨-, -, -, n1, n2, n3, -, ht⟩ := h0
  unfold ci_book
  split
  · refine ⟨ok_note h ?_ ?_ ⟨0, by omega, qup_at⟩ ?_ (fun a ha => qup_row (by omega)), fun a ha => qup_row (by omega)⟩
    · rw [qup_o (by decide)]; exact n1
    · rw [qup_o (by decide)]; exact n2
    · intro r hr; rw [qup_o (by decide)]; exact ht r hr
  · split
    · exact ⟨h, fun _ _ => rfl⟩
    · split
      · exact ⟨h, fun _ _ => rfl⟩
      · split
        · rename_i h5
          unfold qadd
          refine ⟨ok_note h ?_ ?_ ⟨z + 1, by omega, qup_at⟩ ?_ (fun a ha => by rw [qup_row (by omega), qup_row (by omega), qup_row (by omega), qup_row (by omega)]), fun a ha => by rw [qup_row (by omega), qup_row (by omega), qup_row (by omega), qup_row (by omega)]⟩
          · rw [qup_o (by decide), qup_o (by decide), qup_o (by decide), qup_o (by decide)]; exact n1
          · rw [qup_o (by decide), qup_o (by decide), qup_o (by decide), qup_o (by decide)]; exact n2
          · intro r hr
            rw [qup_o (by decide), qup_o (by decide), qup_o (by decide), qup_o (by decide)]; exact ht r hr
        · exact ⟨h, fun _ _ => rfl⟩
theorem qcomes_o {I : qI} {o a : Nat} {kd v g : Int32} (h1 : a ≠ o) (h2 : a ≠ o + 1) : qcomes I o kd v g a = I a := by
  funext j
  unfold qcomes
  rw [qfil_o h2, qup_row h1, qup_row h1, qup_row h1, qup_row h1, qup_row h1, qup_row h1]
theorem ok_mourner {I : qI} {c : Nat} {kd v g : Int32} (h : qMgOK I 6 9999) (hc : I 6 1 = nI c) : qMgOK (cMournerI I c kd v g) 6 9999 ∧ (∀ a, (a < 6 ∨ 32 < a) → cMournerI I c kd v g a = I a) ∧ cMournerI I c kd v g 6 1 = (if qwithin kd 0 6 = 0 then nI c else if qwithin v 0 9 = 0 then nI c else if qwithin g 0 99 = 0 then nI c else if c < 6 then nI (c + 1) else nI c) := by
  unfold cMournerI
  split
  · exact ⟨h, fun _ _ => rfl, hc⟩
  · split
    · exact ⟨h, fun _ _ => rfl, hc⟩
    · split
      · exact ⟨h, fun _ _ => rfl, hc⟩
      · split
        · rename_i h6
          have lo := qm_lo (o := 6) (p := c)
          have hi := qm_hi (o := 6) (p := c) h6
          have q : ∀ a, a < 21 → a ≠ 6 → qup (qcomes I (qm 6 c) kd v g) 6 1 (nI (c + 1)) a = I a := fun a a1 a2 => by rw [qup_row a2, qcomes_o (by omega) (by omega)]
          have q6 : ∀ j, j ≠ 1 → qup (qcomes I (qm 6 c) kd v g) 6 1 (nI (c + 1)) 6 j = I 6 j := fun j hj => by rw [qup_j hj, qcomes_o (by omega) (by omega)]
          obtain ⟨-, ⟨l, l1, l2⟩, ⟨d, d1, d2⟩, ⟨z1, y1, x1⟩, ⟨z2, y2, x2⟩, ⟨z3, y3, x3⟩, hm, ht⟩ := h
          refine ⟨⟨⟨c + 1, by omega, qup_at⟩, ⟨l, l1, (q6 3 (by decide)).trans l2⟩, ⟨d, d1, (q6 4 (by decide)).trans d2⟩, ⟨z1, y1, by rw [q 9 (by decide) (by decide)]; exact x1⟩, ⟨z2, y2, by rw [q 13 (by decide) (by decide)]; exact x2⟩, ⟨z3, y3, by rw [q 17 (by decide) (by decide)]; exact x3⟩, fun p hp => ?_, fun r hr => by rw [q 12 (by decide) (by decide)]; exact ht r hr⟩, fun a ha => by rw [qup_row (by omega), qcomes_o (by omega) (by omega)], qup_at⟩
          have := qm_lo (o := 6) (p := p)
          rw [qup_o (by omega)]
          by_cases e : p = c
          · subst e
            unfold qcomes
            rw [qfil_o (by omega), qup_at]
            exact Or.inl rfl
          · rw [qcomes_o (by unfold qm; omega) (by unfold qm; omega)]
            exact hm p hp
        · exact ⟨h, fun _ _ => rfl, hc⟩
