/-! THE TEXT read: what the class's Reader does, as functions of (place, faulty, codes) -/
abbrev qSt : Type := Nat × Bool × List Int32
section RDF
variable (f : Nat → Int32) (n : Nat)
def rnx (s : qSt) : Int32 := if s.2.1 = false ∧ s.1 < n then f s.1 else -1
def radv (s : qSt) : qSt := (s.1 + 1, s.2.1, s.2.2)
def rbad (s : qSt) : qSt := (s.1, true, s.2.2)
def rput (x : Int32) (s : qSt) : qSt := (s.1, s.2.1, if s.2.2.length < 100 then s.2.2 ++ [x] else s.2.2)
def rtake : List Int32 → qSt → qSt
  | [], s => s
  | c :: l, s => if s.2.1 = true then s else if c = rnx f n s then rtake l (radv s) else rbad s
def roneOf : List Int32 → Nat → qSt → Int32 × qSt
  | [], _, s => (0, rbad s)
  | c :: l, k, s => if c = rnx f n s then (nI k, radv s) else roneOf l (k + 1) s
def rnumL : Nat → Int32 → Nat → qSt → Int32 × Nat × qSt
  | 0, v, k, s => (v, k, s)
  | m + 1, v, k, s => if 48 ≤ rnx f n s ∧ rnx f n s ≤ 57 then rnumL m (10 * v + rnx f n s - 48) (k + 1) (radv s) else (v, k, s)
def rnum (s : qSt) : Int32 × qSt := if (rnumL f n 2 0 0 s).2.1 = 0 then ((rnumL f n 2 0 0 s).1, rbad (rnumL f n 2 0 0 s).2.2) else ((rnumL f n 2 0 0 s).1, (rnumL f n 2 0 0 s).2.2)
def rtest (s : qSt) : qSt :=
  rput (((roneOf f n (qByt.getD 0 []) 0 s).1 * 3 + (roneOf f n (qByt.getD 6 []) 0 (roneOf f n (qByt.getD 0 []) 0 s).2).1) * 100 + (rnum f n (roneOf f n (qByt.getD 6 []) 0 (roneOf f n (qByt.getD 0 []) 0 s).2).2).1) (rnum f n (roneOf f n (qByt.getD 6 []) 0 (roneOf f n (qByt.getD 0 []) 0 s).2).2).2
def rloop (one : qSt → qSt) : Nat → Bool → qSt → Bool × qSt
  | 0, j, s => (j, s)
  | m + 1, j, s =>
    if rnx f n s = 38 then rloop one m j (rput (-2) (one (radv s)))
    else if rnx f n s = 124 then rloop one m true (one (if j = true then rput (-3) (radv s) else radv s))
    else (j, s)
def reither (one : qSt → qSt) (s : qSt) : qSt := if (rloop f n one 100 false (one s)).1 = true then rput (-3) (rloop f n one 100 false (one s)).2 else (rloop f n one 100 false (one s)).2
/-- an F with k more ( or ! allowed -/
def rone : Nat → qSt → qSt
  | 0, s => rtest f n s
  | k + 1, s => if rnx f n s = 33 then rput (-1) (rone k (radv s)) else if rnx f n s = 40 then rtake f n (qByt.getD 5 []) (reither f n (rone k) (radv s)) else rtest f n s
abbrev qCl : Type := qSt × List (Int32 × Nat) × Int32
def rendc (x : Int32) (z : Nat) (l : List (Int32 × Nat)) : List (Int32 × Nat) := if l.length < 10 then l ++ [(x, z)] else l
def rword (s : qSt) : List Int32 := if rnx f n s = 97 then qByt.getD 1 [] else if rnx f n s = 99 then qByt.getD 2 [] else qByt.getD 3 []
def rclause (c : qCl) : qCl :=
  if rnx f n c.1 = 97 ∨ rnx f n c.1 = 99 then
    (reither f n (rone f n 4) (rtake f n (qByt.getD 4 []) (rnum f n (rtake f n (rword f n c.1) c.1)).2), rendc (if rnx f n c.1 = 97 then (rnum f n (rtake f n (rword f n c.1) c.1)).1 else -(rnum f n (rtake f n (rword f n c.1) c.1)).1) (reither f n (rone f n 4) (rtake f n (qByt.getD 4 []) (rnum f n (rtake f n (rword f n c.1) c.1)).2)).2.2.length c.2.1, c.2.2)
  else ((rnum f n (rtake f n (rword f n c.1) c.1)).2, c.2.1, (rnum f n (rtake f n (rword f n c.1) c.1)).1)
def rreadN : Nat → qCl → qCl
  | 0, c => c
  | m + 1, c => if rnx f n c.1 = 59 then rreadN m (rclause f n (radv c.1, c.2.1, c.2.2)) else c
def rread : qCl := rreadN f n 9 (rclause f n ((0, false, []), [], 0))
end RDF
/-- the reader's and the island's cells hold s; all else is as in I0 -/
def qRd (I0 : qI) (o n : Nat) (s : qSt) (I : qI) : Prop := (∀ a, a ≠ 87 → a ≠ o → a ≠ o + 1 → I a = I0 a) ∧ (∀ j, j ≠ 2 → j ≠ 3 → I 87 j = I0 87 j) ∧ (∀ j, j ≠ 1 → I o j = I0 o j) ∧ I 87 2 = nI s.1 ∧ I 87 3 = (if s.2.1 = true then 1 else 0) ∧ I o 1 = nI s.2.2.length ∧ s.2.2.length ≤ 100 ∧ (∀ j, j < s.2.2.length → I (o + 1) j = s.2.2.getD j 0) ∧ s.1 ≤ n
theorem qRd.adv {I0 I : qI} {o n : Nat} {s : qSt} (h : qRd I0 o n s I) (ho : o ≠ 87) (ho1 : o + 1 ≠ 87) (hn : s.1 < n) : qRd I0 o n (radv s) (qup I 87 2 (I 87 2 + 1)) := by
  obtain ⟨h1, h2, h3, h4, h5, h6, h7, h8, h9⟩ := h
  refine ⟨fun a a1 a2 a3 => by rw [qup_row a1]; exact h1 a a1 a2 a3, fun j j2 j3 => by rw [qup_j j2]; exact h2 j j2 j3, fun j j1 => by rw [qup_o ho]; exact h3 j j1, by rw [qup_at, h4, q1]; rfl, by rw [qup_j (by decide)]; exact h5, by rw [qup_o ho]; exact h6, h7, fun j hj => by rw [qup_o ho1]; exact h8 j hj, hn⟩
theorem qRd.bad {I0 I : qI} {o n : Nat} {s : qSt} (h : qRd I0 o n s I) (ho : o ≠ 87) (ho1 : o + 1 ≠ 87) : qRd I0 o n (rbad s) (qup I 87 3 1) := by
  obtain ⟨h1, h2, h3, h4, h5, h6, h7, h8, h9⟩ := h
  refine ⟨fun a a1 a2 a3 => by rw [qup_row a1]; exact h1 a a1 a2 a3, fun j j2 j3 => by rw [qup_j j3]; exact h2 j j2 j3, fun j j1 => by rw [qup_o ho]; exact h3 j j1, by rw [qup_j (by decide)]; exact h4, by rw [qup_at]; rfl, by rw [qup_o ho]; exact h6, h7, fun j hj => by rw [qup_o ho1]; exact h8 j hj, h9⟩
theorem qRd.put {I0 I : qI} {o n : Nat} {s : qSt} {x : Int32} (h : qRd I0 o n s I) (ho : o ≠ 87) (ho1 : o + 1 ≠ 87) : qRd I0 o n (rput x s) (qput I o s.2.2.length x) := by
  obtain ⟨h1, h2, h3, h4, h5, h6, h7, h8, h9⟩ := h
  unfold qput rput
  by_cases hl : s.2.2.length < 100
  · rw [if_pos hl, if_pos hl]
    refine ⟨fun a a1 a2 a3 => by rw [qup_row a2, qup_row a3]; exact h1 a a1 a2 a3, fun j j2 j3 => by rw [qup_o (Ne.symm ho), qup_o (Ne.symm ho1)]; exact h2 j j2 j3, fun j j1 => by rw [qup_j j1, qup_o (by omega)]; exact h3 j j1, by rw [qup_o (Ne.symm ho), qup_o (Ne.symm ho1)]; exact h4, by rw [qup_o (Ne.symm ho), qup_o (Ne.symm ho1)]; exact h5, ?_, ?_, fun j hj => ?_, h9⟩
    · rw [qup_at]; simp
    · simp; omega
    · rw [qup_o (by omega)]
      by_cases e : j = s.2.2.length
      · subst e; rw [qup_at]; simp
      · rw [qup_j e]
        have hj2 : j < s.2.2.length := by simp at hj; omega
        rw [h8 j hj2]
        simp [List.getD_eq_getElem?_getD, List.getElem?_append_left hj2]
  · rw [if_neg hl, if_neg hl]
    exact ⟨h1, h2, h3, h4, h5, h6, h7, h8, h9⟩
section QRD
variable {E : qE} {S : qSh} {I0 : qI} {J : qJ} {f : Nat → Int32} {n o : Nat}
/-- what stays while the text is read -/
def qTx (I0 : qI) (f : Nat → Int32) (n o : Nat) : Prop := I0 87 1 = nI n ∧ n ≤ 100 ∧ (∀ j, j < n → I0 88 j = f j ∧ 0 ≤ f j) ∧ (o + 4 < 87 ∨ 88 < o)
theorem c_Re_next {I : qI} {s : qSt} (hR : isRe S) (hx : qTx I0 f n o) (h : qRd I0 o n s I) : qMet E y_Re_next b_Re_next 1 (some .int) 0 0 0 [.ref (qb E + 87)] S I J (qPi S I J (rnx f n s)) := by
  obtain ⟨hT, hA, hR0⟩ := hR
  obtain ⟨x1, x2, x3, x4⟩ := hx
  obtain ⟨h1, h2, h3, h4, h5, h6, h7, h8, h9⟩ := h
  have hsz : I 87 1 = nI n := by rw [h2 1 (by decide) (by decide)]; exact x1
  refine qMet.of (L := [some (.ref (qb E + 87))]) (by decide +kernel) (Nat.le_of_ble_eq_true rfl) rfl ?_
  refine lda_n_1_0 (pc := 0) d_Re_next_0 ?_
  refine g_Re_24 (pc := 1) rfl d_Re_next_1 (by assumption) ?_
  rw [h5]
  unfold rnx
  refine r_if_ne (pc := 4) (tgt := 39) d_Re_next_4 (by decide) (fun c1 => ?_) (fun c1 => ?_)
  · have hb : s.2.1 = true := by
      cases hs : s.2.1
      · rw [hs] at c1; exact absurd rfl c1
      · rfl
    rw [if_neg (fun q => by rw [hb] at q; exact absurd q.1 (by decide))]
    refine r_iconst (pc := 39) (v := (-1)) d_Re_next_39 rfl ?_
    refine r_iret d_Re_next_40 rfl (by omega) (by omega) ?_
    exact ⟨rfl, rfl, rfl, rfl⟩
  · have hb : s.2.1 = false := by
      cases hs : s.2.1
      · rfl
      · rw [hs] at c1; exact absurd c1 (by decide)
    refine lda_n_1_0 (pc := 7) d_Re_next_7 ?_
    refine g_Re_20 (pc := 8) rfl d_Re_next_8 (by assumption) ?_
    refine lda_n_1_0 (pc := 11) d_Re_next_11 ?_
    refine g_Re_36 (pc := 12) rfl d_Re_next_12 (by assumption) ?_
    rw [hsz, h4]
    refine r_icmp_ge (pc := 15) (tgt := 39) d_Re_next_15 (by decide) (fun c2 => ?_) (fun c2 => ?_)
    · rw [if_neg (fun q => absurd c2 (nI_ge q.2 (by omega)))]
      refine r_iconst (pc := 39) (v := (-1)) d_Re_next_39 rfl ?_
      refine r_iret d_Re_next_40 rfl (by omega) (by omega) ?_
      exact ⟨rfl, rfl, rfl, rfl⟩
    · have hlt : s.1 < n := by
        rcases Nat.lt_or_ge s.1 n with q | q
        · exact q
        · exact absurd (nI_le q (by omega)) c2
      refine lda_n_1_0 (pc := 18) d_Re_next_18 ?_
      refine g_Re_20 (pc := 19) rfl d_Re_next_19 (by assumption) ?_
      refine r_bipush (pc := 22) (v := 100) d_Re_next_22 rfl ?_
      rw [h4]
      refine r_icmp_ge (pc := 24) (tgt := 39) d_Re_next_24 (by decide) (fun c3 => ?_) (fun c3 => ?_)
      · exact absurd (show nI 100 ≤ nI s.1 from c3) (nI_ge (by omega) (by omega))
      · rw [if_pos ⟨hb, hlt⟩]
        refine lda_n_1_0 (pc := 27) d_Re_next_27 ?_
        refine g_Re_9 (pc := 28) rfl d_Re_next_28 (by assumption) (by assumption) ?_
        refine lda_n_1_0 (pc := 31) d_Re_next_31 ?_
        refine g_Re_20 (pc := 32) rfl d_Re_next_32 (by assumption) ?_
        rw [h4]
        refine r_bald (pc := 35) d_Re_next_35 (by assumption) (vp_in_nI (by omega) (by omega)) ?_
        refine r_goto (pc := 36) (tgt := 40) d_Re_next_36 (by decide) ?_
        rw [qcl (by omega), h1 88 (by decide) (by omega) (by omega), (x3 _ hlt).1]
        exact r_iret d_Re_next_40 rfl (by omega) (by omega) (⟨rfl, rfl, rfl, rfl⟩)
theorem rnx_lt {s : qSt} (h : ¬ rnx f n s = -1) : s.2.1 = false ∧ s.1 < n := by
  unfold rnx at h
  by_cases q : s.2.1 = false ∧ s.1 < n
  · exact q
  · rw [if_neg q] at h; exact absurd rfl h
theorem c_Re_take {i : Nat} (hi : i < 7) (hR : isRe S) (hx : qTx I0 f n o) : ∀ {I : qI} {s : qSt}, qRd I0 o n s I → qMet E y_Re_take b_Re_take 3 none 4 0 0 [.ref (qb E + 87), .ref (qsK E i)] S I J (fun v S' I' J' => v = none ∧ S = S' ∧ qRd I0 o n (rtake f n (qByt.getD i []) s) I' ∧ J = J') := by
  intro I s h
  have hR0 := hR
  obtain ⟨hT, hA, -⟩ := hR
  have hlen : qLen.getD i 0 = (qByt.getD i []).length := (by decide +kernel : ∀ i, i < 7 → qLen.getD i 0 = (qByt.getD i []).length) i hi
  have hch : ∀ c, c ∈ qByt.getD i [] → ¬ c = -1 := (by decide +kernel : ∀ i, i < 7 → ∀ c, c ∈ qByt.getD i [] → ¬ c = -1) i hi
  have hl100 : qLen.getD i 0 < 100 := (qchar_ok i hi).1
  refine qMet.of (L := [some (.ref (qb E + 87)), some (.ref (qsK E i)), none]) (by decide +kernel) (Nat.le_of_ble_eq_true rfl) rfl ?_
  refine r_iconst (pc := 0) (v := 0) d_Re_take_0 rfl ?_
  refine sti_n_3_2 (pc := 1) d_Re_take_1 rfl ?_
  have key := qfor (P := fun k => ∀ (I : qI) (t : qSt), qRd I0 o n t I → rtake f n ((qByt.getD i []).drop k) t = rtake f n (qByt.getD i []) s → qW E y_Re_take b_Re_take none 4 0 0 (fun v S' I' J' => v = none ∧ S = S' ∧ qRd I0 o n (rtake f n (qByt.getD i []) s) I' ∧ J = J') 0 0 2 [some (.ref (qb E + 87)), some (.ref (qsK E i)), some (.int (nI k))] [] S I J) (qLen.getD i 0) ?_ ?_ 0 (by omega)
  · exact key I s h rfl
  · intro I t h e
    rw [hlen, List.drop_length] at e
    refine ldi_n_3_2 (pc := 2) d_Re_take_2 ?_
    refine lda_n_3_1 (pc := 3) d_Re_take_3 ?_
    refine r_callStr (pc := 4) (As := []) hi k_Re_85 im_jS_length se_jS_length rfl (by decide) d_Re_take_4 (c_length hi) rfl (Nat.le_of_ble_eq_true rfl) (by omega) (by omega) (by omega) (fun v S' I' J' hq => ?_)
    obtain ⟨rfl, rfl, rfl, rfl⟩ := hq
    refine r_icmp_ge (pc := 7) (tgt := 53) d_Re_take_7 (by decide) (fun c1 => ?_) (fun c1 => ?_)
    · exact r_vret d_Re_take_53 rfl (by omega) (by omega) (⟨rfl, rfl, by rw [← e]; exact h, rfl⟩)
    · exact absurd (nI_le (Nat.le_refl _) (by omega)) c1
  · intro k hk ih I t h e
    have hk2 : k < (qByt.getD i []).length := by omega
    have ec : (qByt.getD i []).drop k = qchar i k :: (qByt.getD i []).drop (k + 1) := by
      rw [List.drop_eq_getElem_cons hk2]
      unfold qchar
      generalize qByt.getD i [] = l at hk2
      rw [List.getD_eq_getElem?_getD, List.getElem?_eq_getElem hk2]
      rfl
    have hcm : qchar i k ∈ qByt.getD i [] := List.mem_of_mem_drop (i := k) (by rw [ec]; exact List.mem_cons_self)
    rw [ec, rtake] at e
    refine ldi_n_3_2 (pc := 2) d_Re_take_2 ?_
    refine lda_n_3_1 (pc := 3) d_Re_take_3 ?_
    refine r_callStr (pc := 4) (As := []) hi k_Re_85 im_jS_length se_jS_length rfl (by decide) d_Re_take_4 (c_length hi) rfl (Nat.le_of_ble_eq_true rfl) (by omega) (by omega) (by omega) (fun v S' I' J' hq => ?_)
    obtain ⟨rfl, rfl, rfl, rfl⟩ := hq
    refine r_icmp_ge (pc := 7) (tgt := 53) d_Re_take_7 (by decide) (fun c1 => ?_) (fun c1 => ?_)
    · exact absurd c1 (nI_ge hk (by omega))
    · refine lda_n_3_0 (pc := 10) d_Re_take_10 ?_
      refine g_Re_24 (pc := 11) rfl d_Re_take_11 (by assumption) ?_
      rw [h.2.2.2.2.1]
      refine r_if_ne (pc := 14) (tgt := 53) d_Re_take_14 (by decide) (fun c2 => ?_) (fun c2 => ?_)
      · have hb : t.2.1 = true := by
          cases hs : t.2.1
          · rw [hs] at c2; exact absurd rfl c2
          · rfl
        rw [if_pos hb] at e
        exact r_vret d_Re_take_53 rfl (by omega) (by omega) (⟨rfl, rfl, by rw [← e]; exact h, rfl⟩)
      · have hb : ¬ t.2.1 = true := by
          intro hs; rw [hs] at c2; exact absurd c2 (by decide)
        rw [if_neg hb] at e
        refine lda_n_3_1 (pc := 17) d_Re_take_17 ?_
        refine ldi_n_3_2 (pc := 18) d_Re_take_18 ?_
        refine r_callStr (pc := 19) (As := [.int (nI k)]) hi k_Re_90 im_jS_charAt se_jS_charAt rfl (by decide) d_Re_take_19 (c_charAt hi hk) rfl (Nat.le_of_ble_eq_true rfl) (by omega) (by omega) (by omega) (fun v S' I' J' hq => ?_)
        obtain ⟨rfl, rfl, rfl, rfl⟩ := hq
        refine lda_n_3_0 (pc := 22) d_Re_take_22 ?_
        refine r_callV (pc := 23) (As := []) (k := 5) (N := 4) (T := T_Re) k_Re_32 im_Re_next se_Re_next rfl (by decide) rfl (by decide) d_Re_take_23 (by assumption) (c_Re_next hR0 hx h) rfl (Nat.le_of_ble_eq_true rfl) (by omega) (by omega) (by omega) (fun v S' I' J' hq => ?_)
        obtain ⟨rfl, rfl, rfl, rfl⟩ := hq
        refine r_icmp_ne (pc := 26) (tgt := 42) d_Re_take_26 (by decide) (fun c3 => ?_) (fun c3 => ?_)
        · rw [if_neg c3] at e
          refine lda_n_3_0 (pc := 42) d_Re_take_42 ?_
          refine r_iconst (pc := 43) (v := 1) d_Re_take_43 rfl ?_
          refine p_Re_24 (pc := 44) rfl d_Re_take_44 (by assumption) (by first | exact Or.inl rfl | exact Or.inr rfl | assumption) ?_
          refine inc_3_2 (pc := 47) (w := 1) d_Re_take_47 rfl rfl ?_
          refine r_goto (pc := 50) (tgt := 2) d_Re_take_50 (by decide) ?_
          rw [q1]
          refine ih _ (rbad t) (h.bad (by have := hx.2.2.2; omega) (by have := hx.2.2.2; omega)) ?_
          rw [← e]
          cases (qByt.getD i []).drop (k + 1) with
          | nil => rfl
          | cons c l => rw [rtake, if_pos (show (rbad t).2.1 = true from rfl)]
        · rw [if_pos c3] at e
          have hlt := (rnx_lt (f := f) (n := n) (s := t) (by rw [← c3]; exact hch _ hcm)).2
          refine lda_n_3_0 (pc := 29) d_Re_take_29 ?_
          refine r_dup (pc := 30) d_Re_take_30 rfl ?_
          refine g_Re_20 (pc := 31) rfl d_Re_take_31 (by assumption) ?_
          refine r_iconst (pc := 34) (v := 1) d_Re_take_34 rfl ?_
          refine r_iadd (pc := 35) d_Re_take_35 ?_
          refine p_Re_20 (pc := 36) rfl d_Re_take_36 (by assumption) ?_
          refine r_goto (pc := 39) (tgt := 47) d_Re_take_39 (by decide) ?_
          refine inc_3_2 (pc := 47) (w := 1) d_Re_take_47 rfl rfl ?_
          refine r_goto (pc := 50) (tgt := 2) d_Re_take_50 (by decide) ?_
          rw [q1]
          exact ih _ (radv t) (h.adv (by have := hx.2.2.2; omega) (by have := hx.2.2.2; omega) hlt) e
theorem c_Re_oneOf {i : Nat} (hi : i < 7) (hR : isRe S) (hx : qTx I0 f n o) : ∀ {I : qI} {s : qSt}, qRd I0 o n s I → qMet E y_Re_oneOf b_Re_oneOf 3 (some .int) 4 0 0 [.ref (qb E + 87), .ref (qsK E i)] S I J (fun v S' I' J' => v = some (.int (roneOf f n (qByt.getD i []) 0 s).1) ∧ S = S' ∧ qRd I0 o n (roneOf f n (qByt.getD i []) 0 s).2 I' ∧ J = J') := by
  intro I s h
  have hR0 := hR
  obtain ⟨hT, hA, -⟩ := hR
  have hlen : qLen.getD i 0 = (qByt.getD i []).length := (by decide +kernel : ∀ i, i < 7 → qLen.getD i 0 = (qByt.getD i []).length) i hi
  have hch : ∀ c, c ∈ qByt.getD i [] → ¬ c = -1 := (by decide +kernel : ∀ i, i < 7 → ∀ c, c ∈ qByt.getD i [] → ¬ c = -1) i hi
  have hl100 : qLen.getD i 0 < 100 := (qchar_ok i hi).1
  refine qMet.of (L := [some (.ref (qb E + 87)), some (.ref (qsK E i)), none]) (by decide +kernel) (Nat.le_of_ble_eq_true rfl) rfl ?_
  refine r_iconst (pc := 0) (v := 0) d_Re_oneOf_0 rfl ?_
  refine sti_n_3_2 (pc := 1) d_Re_oneOf_1 rfl ?_
  have key := qfor (P := fun k => roneOf f n ((qByt.getD i []).drop k) k s = roneOf f n (qByt.getD i []) 0 s → qW E y_Re_oneOf b_Re_oneOf (some .int) 4 0 0 (fun v S' I' J' => v = some (.int (roneOf f n (qByt.getD i []) 0 s).1) ∧ S = S' ∧ qRd I0 o n (roneOf f n (qByt.getD i []) 0 s).2 I' ∧ J = J') 0 0 2 [some (.ref (qb E + 87)), some (.ref (qsK E i)), some (.int (nI k))] [] S I J) (qLen.getD i 0) ?_ ?_ 0 (by omega)
  · exact key rfl
  · intro e
    rw [hlen, List.drop_length] at e
    refine ldi_n_3_2 (pc := 2) d_Re_oneOf_2 ?_
    refine lda_n_3_1 (pc := 3) d_Re_oneOf_3 ?_
    refine r_callStr (pc := 4) (As := []) hi k_Re_85 im_jS_length se_jS_length rfl (by decide) d_Re_oneOf_4 (c_length hi) rfl (Nat.le_of_ble_eq_true rfl) (by omega) (by omega) (by omega) (fun v S' I' J' hq => ?_)
    obtain ⟨rfl, rfl, rfl, rfl⟩ := hq
    refine r_icmp_ge (pc := 7) (tgt := 40) d_Re_oneOf_7 (by decide) (fun c1 => ?_) (fun c1 => ?_)
    · refine lda_n_3_0 (pc := 40) d_Re_oneOf_40 ?_
      refine r_iconst (pc := 41) (v := 1) d_Re_oneOf_41 rfl ?_
      refine p_Re_24 (pc := 42) rfl d_Re_oneOf_42 (by assumption) (by first | exact Or.inl rfl | exact Or.inr rfl | assumption) ?_
      refine r_iconst (pc := 45) (v := 0) d_Re_oneOf_45 rfl ?_
      exact r_iret d_Re_oneOf_46 rfl (by omega) (by omega) (⟨by rw [← e]; rfl, rfl, by rw [← e]; exact h.bad (by have := hx.2.2.2; omega) (by have := hx.2.2.2; omega), rfl⟩)
    · exact absurd (nI_le (Nat.le_refl _) (by omega)) c1
  · intro k hk ih e
    have hk2 : k < (qByt.getD i []).length := by omega
    have ec : (qByt.getD i []).drop k = qchar i k :: (qByt.getD i []).drop (k + 1) := by
      rw [List.drop_eq_getElem_cons hk2]
      unfold qchar
      generalize qByt.getD i [] = l at hk2
      rw [List.getD_eq_getElem?_getD, List.getElem?_eq_getElem hk2]
      rfl
    have hcm : qchar i k ∈ qByt.getD i [] := List.mem_of_mem_drop (i := k) (by rw [ec]; exact List.mem_cons_self)
    rw [ec, roneOf] at e
    refine ldi_n_3_2 (pc := 2) d_Re_oneOf_2 ?_
    refine lda_n_3_1 (pc := 3) d_Re_oneOf_3 ?_
    refine r_callStr (pc := 4) (As := []) hi k_Re_85 im_jS_length se_jS_length rfl (by decide) d_Re_oneOf_4 (c_length hi) rfl (Nat.le_of_ble_eq_true rfl) (by omega) (by omega) (by omega) (fun v S' I' J' hq => ?_)
    obtain ⟨rfl, rfl, rfl, rfl⟩ := hq
    refine r_icmp_ge (pc := 7) (tgt := 40) d_Re_oneOf_7 (by decide) (fun c1 => ?_) (fun c1 => ?_)
    · exact absurd c1 (nI_ge hk (by omega))
    · refine lda_n_3_1 (pc := 10) d_Re_oneOf_10 ?_
      refine ldi_n_3_2 (pc := 11) d_Re_oneOf_11 ?_
      refine r_callStr (pc := 12) (As := [.int (nI k)]) hi k_Re_90 im_jS_charAt se_jS_charAt rfl (by decide) d_Re_oneOf_12 (c_charAt hi hk) rfl (Nat.le_of_ble_eq_true rfl) (by omega) (by omega) (by omega) (fun v S' I' J' hq => ?_)
      obtain ⟨rfl, rfl, rfl, rfl⟩ := hq
      refine lda_n_3_0 (pc := 15) d_Re_oneOf_15 ?_
      refine r_callV (pc := 16) (As := []) (k := 5) (N := 4) (T := T_Re) k_Re_32 im_Re_next se_Re_next rfl (by decide) rfl (by decide) d_Re_oneOf_16 (by assumption) (c_Re_next hR0 hx h) rfl (Nat.le_of_ble_eq_true rfl) (by omega) (by omega) (by omega) (fun v S' I' J' hq => ?_)
      obtain ⟨rfl, rfl, rfl, rfl⟩ := hq
      refine r_icmp_ne (pc := 19) (tgt := 34) d_Re_oneOf_19 (by decide) (fun c3 => ?_) (fun c3 => ?_)
      · rw [if_neg c3] at e
        refine inc_3_2 (pc := 34) (w := 1) d_Re_oneOf_34 rfl rfl ?_
        refine r_goto (pc := 37) (tgt := 2) d_Re_oneOf_37 (by decide) ?_
        rw [q1]
        exact ih e
      · rw [if_pos c3] at e
        have hlt := (rnx_lt (f := f) (n := n) (s := s) (by rw [← c3]; exact hch _ hcm)).2
        refine lda_n_3_0 (pc := 22) d_Re_oneOf_22 ?_
        refine r_dup (pc := 23) d_Re_oneOf_23 rfl ?_
        refine g_Re_20 (pc := 24) rfl d_Re_oneOf_24 (by assumption) ?_
        refine r_iconst (pc := 27) (v := 1) d_Re_oneOf_27 rfl ?_
        refine r_iadd (pc := 28) d_Re_oneOf_28 ?_
        refine p_Re_20 (pc := 29) rfl d_Re_oneOf_29 (by assumption) ?_
        refine ldi_n_3_2 (pc := 32) d_Re_oneOf_32 ?_
        exact r_iret d_Re_oneOf_33 rfl (by omega) (by omega) (⟨by rw [← e], rfl, by rw [← e]; exact h.adv (by have := hx.2.2.2; omega) (by have := hx.2.2.2; omega) hlt, rfl⟩)
theorem c_Re_number (hR : isRe S) (hx : qTx I0 f n o) {I : qI} {s : qSt} (h : qRd I0 o n s I) : qMet E y_Re_number b_Re_number 3 (some .int) 1 0 0 [.ref (qb E + 87)] S I J (fun v S' I' J' => v = some (.int (rnum f n s).1) ∧ S = S' ∧ qRd I0 o n (rnum f n s).2 I' ∧ J = J') := by
  have hR0 := hR
  obtain ⟨hT, hA, -⟩ := hR
  have ho : o ≠ 87 := by have := hx.2.2.2; omega
  have ho1 : o + 1 ≠ 87 := by have := hx.2.2.2; omega
  refine qMet.of (L := [some (.ref (qb E + 87)), none, none]) (by decide +kernel) (Nat.le_of_ble_eq_true rfl) rfl ?_
  refine r_iconst (pc := 0) (v := 0) d_Re_number_0 rfl ?_
  refine sti_n_3_1 (pc := 1) d_Re_number_1 rfl ?_
  refine r_iconst (pc := 2) (v := 0) d_Re_number_2 rfl ?_
  refine sti_n_3_2 (pc := 3) d_Re_number_3 rfl ?_
  have key : ∀ (m : Nat) (I : qI) (v : Int32) (k : Nat) (t : qSt), m + k = 2 → qRd I0 o n t I → rnumL f n m v k t = rnumL f n 2 0 0 s → qW E y_Re_number b_Re_number (some .int) 1 0 0 (fun v S' I' J' => v = some (.int (rnum f n s).1) ∧ S = S' ∧ qRd I0 o n (rnum f n s).2 I' ∧ J = J') 0 0 4 [some (.ref (qb E + 87)), some (.int v), some (.int (nI k))] [] S I J := by
    intro m
    have fin : ∀ (I : qI) (v : Int32) (k : Nat) (t : qSt), k ≤ 2 → qRd I0 o n t I → (v, k, t) = rnumL f n 2 0 0 s → qW E y_Re_number b_Re_number (some .int) 1 0 0 (fun v S' I' J' => v = some (.int (rnum f n s).1) ∧ S = S' ∧ qRd I0 o n (rnum f n s).2 I' ∧ J = J') 0 0 56 [some (.ref (qb E + 87)), some (.int v), some (.int (nI k))] [] S I J := by
      intro I v k t hk2 h e
      have e1 : (rnumL f n 2 0 0 s).1 = v := by rw [← e]
      have e2 : (rnumL f n 2 0 0 s).2.1 = k := by rw [← e]
      have e3 : (rnumL f n 2 0 0 s).2.2 = t := by rw [← e]
      unfold rnum
      rw [e1, e2, e3]
      refine ldi_n_3_2 (pc := 56) d_Re_number_56 ?_
      refine r_if_ne (pc := 57) (tgt := 65) d_Re_number_57 (by decide) (fun c => ?_) (fun c => ?_)
      · have hk : ¬ k = 0 := fun q => c (by rw [q]; rfl)
        rw [if_neg hk]
        refine ldi_n_3_1 (pc := 65) d_Re_number_65 ?_
        exact r_iret d_Re_number_66 rfl (by omega) (by omega) (⟨rfl, rfl, h, rfl⟩)
      · have hk : k = 0 := by
          rcases Nat.eq_zero_or_pos k with q | q
          · exact q
          · exact absurd c (nI_ne0 q (by omega))
        rw [if_pos hk]
        refine lda_n_3_0 (pc := 60) d_Re_number_60 ?_
        refine r_iconst (pc := 61) (v := 1) d_Re_number_61 rfl ?_
        refine p_Re_24 (pc := 62) rfl d_Re_number_62 (by assumption) (by first | exact Or.inl rfl | exact Or.inr rfl | assumption) ?_
        refine ldi_n_3_1 (pc := 65) d_Re_number_65 ?_
        exact r_iret d_Re_number_66 rfl (by omega) (by omega) (⟨rfl, rfl, h.bad ho ho1, rfl⟩)
    induction m with
    | zero =>
      intro I v k t hm h e
      refine ldi_n_3_2 (pc := 4) d_Re_number_4 ?_
      refine r_iconst (pc := 5) (v := 2) d_Re_number_5 rfl ?_
      refine r_icmp_ge (pc := 6) (tgt := 56) d_Re_number_6 (by decide) (fun c => ?_) (fun c => ?_)
      · exact fin I v k t (by omega) h e
      · exact absurd (show nI 2 ≤ nI k from nI_le (by omega) (by omega)) c
    | succ m ih =>
      intro I v k t hm h e
      rw [rnumL] at e
      refine ldi_n_3_2 (pc := 4) d_Re_number_4 ?_
      refine r_iconst (pc := 5) (v := 2) d_Re_number_5 rfl ?_
      refine r_icmp_ge (pc := 6) (tgt := 56) d_Re_number_6 (by decide) (fun c => ?_) (fun c => ?_)
      · exact absurd (show nI 2 ≤ nI k from c) (nI_ge (by omega) (by omega))
      · refine lda_n_3_0 (pc := 9) d_Re_number_9 ?_
        refine r_callV (pc := 10) (As := []) (k := 5) (N := 4) (T := T_Re) k_Re_32 im_Re_next se_Re_next rfl (by decide) rfl (by decide) d_Re_number_10 (by assumption) (c_Re_next hR0 hx h) rfl (Nat.le_of_ble_eq_true rfl) (by omega) (by omega) (by omega) (fun v S' I' J' hq => ?_)
        obtain ⟨rfl, rfl, rfl, rfl⟩ := hq
        refine r_bipush (pc := 13) (v := 48) d_Re_number_13 rfl ?_
        refine r_icmp_lt (pc := 15) (tgt := 56) d_Re_number_15 (by decide) (fun c2 => ?_) (fun c2 => ?_)
        · rw [if_neg (fun q => absurd q.1 (Int32.not_le.mpr c2))] at e
          exact fin _ _ _ _ (by omega) h e
        · refine lda_n_3_0 (pc := 18) d_Re_number_18 ?_
          refine r_callV (pc := 19) (As := []) (k := 5) (N := 4) (T := T_Re) k_Re_32 im_Re_next se_Re_next rfl (by decide) rfl (by decide) d_Re_number_19 (by assumption) (c_Re_next hR0 hx h) rfl (Nat.le_of_ble_eq_true rfl) (by omega) (by omega) (by omega) (fun v S' I' J' hq => ?_)
          obtain ⟨rfl, rfl, rfl, rfl⟩ := hq
          refine r_bipush (pc := 22) (v := 57) d_Re_number_22 rfl ?_
          refine r_icmp_gt (pc := 24) (tgt := 56) d_Re_number_24 (by decide) (fun c3 => ?_) (fun c3 => ?_)
          · rw [if_neg (fun q => absurd q.2 (Int32.not_le.mpr c3))] at e
            exact fin _ _ _ _ (by omega) h e
          · rw [if_pos ⟨Int32.not_lt.mp c2, Int32.not_lt.mp c3⟩] at e
            have hlt := (rnx_lt (f := f) (n := n) (s := t) (fun q => c2 (by rw [q]; decide))).2
            refine r_bipush (pc := 27) (v := 10) d_Re_number_27 rfl ?_
            refine ldi_n_3_1 (pc := 29) d_Re_number_29 ?_
            refine r_imul (pc := 30) d_Re_number_30 ?_
            refine lda_n_3_0 (pc := 31) d_Re_number_31 ?_
            refine r_callV (pc := 32) (As := []) (k := 5) (N := 4) (T := T_Re) k_Re_32 im_Re_next se_Re_next rfl (by decide) rfl (by decide) d_Re_number_32 (by assumption) (c_Re_next hR0 hx h) rfl (Nat.le_of_ble_eq_true rfl) (by omega) (by omega) (by omega) (fun v S' I' J' hq => ?_)
            obtain ⟨rfl, rfl, rfl, rfl⟩ := hq
            refine r_iadd (pc := 35) d_Re_number_35 ?_
            refine r_bipush (pc := 36) (v := 48) d_Re_number_36 rfl ?_
            refine r_isub (pc := 38) d_Re_number_38 ?_
            refine sti_n_3_1 (pc := 39) d_Re_number_39 rfl ?_
            refine lda_n_3_0 (pc := 40) d_Re_number_40 ?_
            refine r_dup (pc := 41) d_Re_number_41 rfl ?_
            refine g_Re_20 (pc := 42) rfl d_Re_number_42 (by assumption) ?_
            refine r_iconst (pc := 45) (v := 1) d_Re_number_45 rfl ?_
            refine r_iadd (pc := 46) d_Re_number_46 ?_
            refine p_Re_20 (pc := 47) rfl d_Re_number_47 (by assumption) ?_
            refine inc_3_2 (pc := 50) (w := 1) d_Re_number_50 rfl rfl ?_
            refine r_goto (pc := 53) (tgt := 4) d_Re_number_53 (by decide) ?_
            rw [q1]
            exact ih _ _ _ _ (by omega) (h.adv ho ho1 hlt) e
  exact key 2 I 0 0 s rfl h rfl
end QRD
