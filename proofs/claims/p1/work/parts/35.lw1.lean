/-! the answers are alike -/
theorem e_mourner {a b c : Int32} : aMourner 0 a b c = a_Md_mourner a b c := by
  unfold aMourner a_Md_mourner
  rw [if_pos (show 0 < 6 by decide), nI_0]
theorem e_of {a b : Int32} : a_On_of a b = a_Md_of a b := rfl
theorem e_set {a b c : Int32} : a_On_set a b c = a_Md_set a b c := rfl
theorem e_done {a b c d : Int32} : a_On_done a b = a_Md_done c d := rfl
theorem e_list {a : Int32} : a_On_list a = a_Md_list a := rfl
theorem e_swap {a b : Int32} : a_On_swap a b = a_Md_swap a b := rfl
theorem e_row {a b c : Int32} : a_On_row a b c = a_Md_row a b c := rfl
theorem e_feed {a : Int32} : a_On_feed a = a_Md_feed a := rfl
theorem e_island : (-10 : Int32) = a_Md_island := rfl
theorem e_told {a : Int32} : a_On_told a = a_Md_told a := rfl
theorem e_pass {a : Int32} : a_On_pass a = a_Md_pass a := rfl
theorem e_on {a b : Int32} : a_On_on a b = a_Md_on a b := rfl
theorem e_turn {a : Int32} : a_On_turn a = a_Md_turn a := rfl
theorem e_empty : (0 : Int32) = a_Md_empty := rfl
theorem e_best {x k : Int32} : a_On_best x k = a_Md_best x k := by
  unfold a_On_best a_Md_best
  by_cases h1 : qwithin x 0 1 = 0
  · rw [if_pos h1, if_pos h1]
  · rw [if_neg h1, if_neg h1]
    by_cases h2 : qwithin k (-1) 5 = 0
    · rw [if_pos h2, if_pos h2]
    · rw [if_neg h2, if_neg h2, ite_self]
      by_cases h3 : k = -1
      · rw [if_pos h3, if_pos (by rw [h3]; decide)]
      · rw [if_neg h3, if_neg (Int32.not_lt.mpr (qk_nn h2 h3))]
theorem e_see {a b c : Int32} : a_On_see a b c = a_Md_see a b c := rfl
theorem e_can {a b c : Int32} : a_On_can a b c = a_Md_can a b c := rfl
theorem e_odds {a b : Int32} : a_On_odds a b = a_Md_odds a b := rfl
theorem e_mean {a : Int32} : a_On_mean a = a_Md_mean a := rfl
theorem e_plan {x a b : Int32} : a_On_plan x a = a_Md_plan x b := by
  unfold a_On_plan a_Md_plan
  by_cases h1 : x = -1
  · rw [if_pos h1, if_pos h1]
  · rw [if_neg h1, if_neg h1]
    by_cases h2 : qwithin x 0 3 = 0
    · rw [if_pos h2, if_pos h2]
    · rw [if_neg h2, if_neg h2]
      by_cases h3 : x = 0
      · rw [if_pos h3, if_pos (by rw [h3]; decide), if_pos h3]
      · rw [if_neg h3, if_neg]
        intro h4
        exact h3 (Int32.le_antisymm h4 (qwithin_y h2).1)
theorem e_ends {x : Int32} : a_On_ends x = a_Md_ends x := by
  unfold a_On_ends a_Md_ends
  rw [ite_self]
theorem e_book {a b : Int32} : a_On_book a b = a_Md_book a b := rfl
theorem e_looked : a_On_looked = a_Md_looked := rfl
theorem e_judge {a b : Int32} : a_On_judge a = a_Md_judge a b := rfl
theorem e_image : (0 : Int32) = a_Md_image := rfl
theorem e_undo : a_On_undo = a_Md_undo := rfl
theorem e_act {a b c : Int32} : a_On_act a b c = a_Md_act a b c := rfl
theorem e_trace {a : Int32} : a_On_trace a = a_Md_trace a := by
  unfold a_On_trace a_Md_trace
  rw [ite_self]
theorem e_taken {a b : Int32} : a_On_taken a b = a_Md_taken a b := rfl
theorem e_count {a : Int32} : a_On_count a = a_Md_count a := rfl
theorem qm1_nn {k : Int32} (h : ¬ qwithin k (-1) 4 = 0) (h2 : ¬ k = -1) : 0 ≤ k := by
  obtain ⟨h1, -⟩ := qwithin_y h
  rw [Int32.le_iff_toInt_le] at h1 ⊢
  rw [← Int32.toInt_inj] at h2
  have e1 : (0 : Int32).toInt = 0 := rfl
  have e2 : (-1 : Int32).toInt = -1 := rfl
  rw [e1]
  rw [e2] at h1 h2
  omega
theorem q14 {s : Int32} (h : ¬ s = -1) (h2 : qwithin s 0 4 = 0) : qwithin s (-1) 4 = 0 := by
  rcases (by exact qwithin_b : qbool (qwithin s (-1) 4)) with g | g
  · exact g
  · exfalso
    have g0 : ¬ qwithin s (-1) 4 = 0 := by rw [g]; decide
    exact qwithin_n h2 ⟨qm1_nn g0 h, (qwithin_y g0).2⟩
theorem q41 {s : Int32} (h2 : ¬ qwithin s 0 4 = 0) : ¬ qwithin s (-1) 4 = 0 := by
  intro g
  obtain ⟨a, b⟩ := qwithin_y h2
  exact qwithin_n g ⟨Int32.le_trans (by decide) a, b⟩
theorem e_tape {tp s n : Int32} : a_On_tape tp s n = a_Md_tape tp s n := by
  unfold a_On_tape a_Md_tape
  by_cases h1 : qwithin tp 0 5 = 0
  · rw [if_pos h1, if_pos h1]
  · rw [if_neg h1, if_neg h1]
    by_cases h2 : s = -1
    · subst h2
      rw [if_pos rfl, if_neg (by decide), if_pos (by decide), if_pos (by decide), ite_self]
    · rw [if_neg h2]
      by_cases h3 : qwithin s 0 4 = 0
      · rw [if_pos h3, if_pos (q14 h2 h3)]
      · have h4 : ¬ s < 0 := Int32.not_lt.mpr (qwithin_y h3).1
        rw [if_neg h3, if_neg (q41 h3), if_neg h4, if_neg h4, ite_self]
theorem e_item {a b : Int32} {z : Int64} : a_On_item a = a_Md_item a b z := rfl
theorem e_read {a b : Int32} : (-9223372036854775808 : Int64) = a_Md_read a b := by
  unfold a_Md_read
  rw [ite_self]
theorem e_shift {a b c d e : Int32} : a_On_shift a c = a_Md_shift a b c d e := rfl
theorem lcmp_self {a b : Int64} (h : a = b) : lg_cmp a b = 0 := by
  subst h
  unfold lg_cmp
  rw [if_neg (fun q => absurd q (Int64.not_lt.mpr (Int64.le_refl a))), if_pos rfl]
