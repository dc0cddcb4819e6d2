/-! class and reference side by side: hurts and islands -/
def vH (I : qI) (o : Nat) (f : Nat → Int32) : Prop := ∀ c p, c ≤ 6 → I o 1 = nI c → p < c → f (12 + p) = I (qm o p) 3 ∧ f (18 + p) = I (qm o p) 4 ∧ f (24 + p) = I (qm o p) 5 ∧ f (30 + p) = I (qm o p) 6 ∧ qbool (I (qm o p) 6) ∧ I (qm o p) 5 ≤ 99999 ∧ I (qm o p) 4 ≤ 99
theorem vH.fr {I I' : qI} {f f' : Nat → Int32} {o : Nat} (h : vH I o f) (h1 : I' o 1 = I o 1) (hk : ∀ p j, p < 6 → j < 7 → I' (qm o p) j = I (qm o p) j) (hf : ∀ j, 12 ≤ j → j < 36 → f' j = f j) : vH I' o f' := by
  intro c p hc e hp
  rw [h1] at e
  obtain ⟨b1, b2, b3, b4, b5, b6, b7⟩ := h c p hc e hp
  rw [hf _ (by omega) (by omega), hf _ (by omega) (by omega), hf _ (by omega) (by omega), hf _ (by omega) (by omega), hk p 3 (by omega) (by omega), hk p 4 (by omega) (by omega), hk p 5 (by omega) (by omega), hk p 6 (by omega) (by omega)]
  exact ⟨b1, b2, b3, b4, b5, b6, b7⟩
theorem vH.rows {I I' : qI} {f f' : Nat → Int32} {o : Nat} (h : vH I o f) (hI : ∀ a, o ≤ a → a ≤ o + 26 → I' a = I a) (hf : ∀ j, 12 ≤ j → j < 36 → f' j = f j) : vH I' o f' := h.fr (by rw [hI o (by omega) (by omega)]) (fun p j hp _ => by rw [hI (qm o p) (by unfold qm; omega) (by unfold qm; omega)]) hf
def vTie (S : qSh) (I : qI) : Prop := (∀ w, qR S 6 5 = some w → xIl I I w (I 114 18)) ∧ vH I 6 (kp I) ∧ (I 0 4 = 1 → (∀ w, qR S 60 5 = some w → xIl I I w (I 139 123)) ∧ vH I 60 (I 139))
def vINV (S : qSh) (I : qI) (J : qJ) : Prop := xINV S I J ∧ vTie S I
theorem cINV.w6 {S : qSh} {I : qI} {J : qJ} (h : ∃ w0 w1 w2 bl, cINV S I J w0 w1 w2 bl) : ∀ w, (qR S 6 5 = some w ∨ qR S 60 5 = some w) → qW1 w := by
  obtain ⟨w0, w1, w2, bl, hO, hZ, hN, hi, hd⟩ := h
  obtain ⟨p6, p60⟩ := hO.p6
  intro w hw
  rcases hw with q | q
  · rw [p6] at q; obtain rfl := Option.some.inj q; exact hi.1
  · rw [p60] at q; obtain rfl := Option.some.inj q; exact hi.2.2.1
theorem xINV.w6 {S : qSh} {I : qI} {J : qJ} (g : xINV S I J) : ∀ w, (qR S 6 5 = some w ∨ qR S 60 5 = some w) → qW1 w := cINV.w6 g.1
/-- what a call leaves that touches neither islands nor the image -/
theorem vINV.gen {S S1 S2 : qSh} {I I1 I2 : qI} {J J1 J2 : qJ} {T T2 : qI → Prop} {v v2 : Option Value} (g : vINV S I J) (cw : cW S S1 I I1) (hK : KQ0 S I J T v S1 I1 J1) (hV : RQ0 S1 I1 J1 T2 v2 S2 I2 J2) (e04 : I1 0 4 = I 0 4) (r60 : ∀ a, 60 ≤ a → a ≤ 86 → I1 a = I a) (rw : rW I1 I2) (r139 : I2 139 = I1 139) (h6 : vH I2 6 (kp I2)) : vTie S2 I2 := by
  have cf := hK.2.2.1
  obtain ⟨hS, -, rf, -⟩ := hV
  subst hS
  have wq := g.1.w6
  obtain ⟨t1, -, t3⟩ := g.2
  obtain ⟨c1, c2, c3⟩ := cw
  have c114 := (cf 114 (by omega) (by omega)).1
  have tab : ∀ a, 124 ≤ a → a ≤ 129 → I2 a = I a := fun a a1 a2 => by rw [rw.2.2 a a1 a2, (cf a (by omega) (by omega)).1]
  have e18 : I2 114 18 = I 114 18 := by rw [rw.1, c114]
  have e25 : I2 114 25 = I 114 25 := by rw [rw.2.1, c114]
  have e139 : I2 139 = I 139 := by rw [r139, (cf 139 (by omega) (by omega)).1]
  have e0 : I2 0 4 = I 0 4 := by rw [(rf 0 (by omega)).1, e04]
  have rows : ∀ w, (qR S 6 5 = some w ∨ qR S 60 5 = some w) → ∀ b, b ≤ 3 → I2 (w + b) = I (w + b) := fun w hw b hb => by
    have := wq w hw
    unfold qW1 at this
    rw [(rf (w + b) (by omega)).1, c3 w hw b hb]
  refine ⟨fun w hw => ?_, h6, fun h1 => ?_⟩
  · rw [c1] at hw
    rw [e18]
    exact (t1 w hw).fr (rows w (Or.inl hw)) (fun a ha => tab a ha.1 ha.2) e25
  · rw [e0] at h1
    obtain ⟨u1, u2⟩ := t3 h1
    rw [e139]
    refine ⟨fun w hw => ?_, u2.rows (fun a a1 a2 => by rw [(rf a (by omega)).1, r60 a a1 a2]) (fun j _ _ => rfl)⟩
    rw [c2] at hw
    exact (u1 w hw).fr (rows w (Or.inr hw)) (fun a ha => tab a ha.1 ha.2) e25
/-- .. and no mourner -/
theorem vINV.still {S S1 S2 : qSh} {I I1 I2 : qI} {J J1 J2 : qJ} {T T2 : qI → Prop} {v v2 : Option Value} (g : vINV S I J) (cw : cW S S1 I I1) (hK : KQ0 S I J T v S1 I1 J1) (hV : RQ0 S1 I1 J1 T2 v2 S2 I2 J2) (e04 : I1 0 4 = I 0 4) (r60 : ∀ a, 60 ≤ a → a ≤ 86 → I1 a = I a) (e61 : I1 6 1 = I 6 1) (rm : ∀ p j, p < 6 → j < 7 → I1 (qm 6 p) j = I (qm 6 p) j) (rw : rW I1 I2) (r139 : I2 139 = I1 139) (kk : ∀ j, 12 ≤ j → j < 36 → kp I2 j = kp I1 j) : vTie S2 I2 := by
  have cf := hK.2.2.1
  have rf := hV.2.2.1
  refine g.gen cw hK hV e04 r60 rw r139 (g.2.2.1.fr ?_ (fun p j hp hj => ?_) (fun j h1 h2 => by rw [kk j h1 h2, kp_far cf (by omega)]))
  · rw [(rf 6 (by omega)).1]; exact e61
  · rw [(rf (qm 6 p) (by unfold qm; omega)).1]; exact rm p j hp hj
theorem vINV.ask {S S1 S2 : qSh} {I I1 I2 : qI} {J J1 J2 : qJ} {T T2 : qI → Prop} {v v2 : Option Value} (g : vINV S I J) (u : cU I I1 J J1) (cw : cW S S1 I I1) (hK : KQ0 S I J T v S1 I1 J1) (r : rU I1 I2 J1 J2) (rw : rW I1 I2) (hV : RQ0 S1 I1 J1 T2 v2 S2 I2 J2) : vINV S2 I2 J2 :=
  ⟨g.1.ask u hK r hV, g.still cw hK hV u.2 (fun a a1 a2 => (u.1 a (by omega)).1) (by rw [(u.1 6 (by omega)).1]) (fun p j hp _ => by rw [(u.1 (qm 6 p) (by unfold qm; omega)).1]) rw r.2.1 (fun j _ _ => r.1 j (by omega))⟩
/-- the reference's calls that touch neither tables nor hurts nor the image -/
def gFr (I I' : qI) : Prop := (∀ a, ((117 ≤ a ∧ a ≤ 120) ∨ (124 ≤ a ∧ a < 131) ∨ a = 139) → I' a = I a) ∧ I' 114 18 = I 114 18 ∧ I' 114 25 = I 114 25
theorem gFr.rw {I I' : qI} (h : gFr I I') : rW I I' := ⟨h.2.1, h.2.2, fun a a1 a2 => h.1 a (by omega)⟩
theorem gFr.i {I I' : qI} (h : gFr I I') : I' 139 = I 139 := h.1 139 (by omega)
theorem gFr.rf {I : qI} : gFr I I := ⟨fun _ _ => rfl, rfl, rfl⟩
theorem gFr.up {I I' : qI} {a j : Nat} {x : Int32} (h : gFr I I') (ha : (115 ≤ a ∧ a ≤ 116) ∨ (121 ≤ a ∧ a ≤ 123) ∨ (131 ≤ a ∧ a ≤ 138) ∨ 140 ≤ a) : gFr I (qup I' a j x) := ⟨fun b hb => by rw [qup_row (by omega)]; exact h.1 b hb, by rw [qup_o (by omega)]; exact h.2.1, by rw [qup_o (by omega)]; exact h.2.2⟩
theorem gFr.up4 {I I' : qI} {j : Nat} {x : Int32} (h : gFr I I') (hj : j ≠ 18 ∧ j ≠ 25) : gFr I (qup I' 114 j x) := ⟨fun b hb => by rw [qup_row (by omega)]; exact h.1 b hb, by rw [qup_j (Ne.symm hj.1)]; exact h.2.1, by rw [qup_j (Ne.symm hj.2)]; exact h.2.2⟩
theorem gFr.kk {I I' : qI} (h : gFr I I') : ∀ j, 12 ≤ j → j < 36 → kp I' j = kp I j := by
  intro j h1 h2
  obtain ⟨k, hk, e⟩ : ∃ k, k < 6 ∧ (j = 12 + k ∨ j = 18 + k ∨ j = 24 + k ∨ j = 30 + k) := ⟨(j - 12) % 6, by omega, by omega⟩
  rcases e with rfl | rfl | rfl | rfl
  · rw [kp_117 hk, kp_117 hk, h.1 117 (by omega)]
  · rw [kp_118 hk, kp_118 hk, h.1 118 (by omega)]
  · rw [kp_119 hk, kp_119 hk, h.1 119 (by omega)]
  · rw [kp_120 hk, kp_120 hk, h.1 120 (by omega)]
section V34
variable {I : qI} {J : qJ}
theorem gFr_row {p q n : Int32} : gFr I (gi_Md_row I J p q n) := by
  unfold gi_Md_row
  (repeat' split) <;> first | exact gFr.rf | exact gFr.rf.up (by omega)
theorem gFr_list {l : Nat} {p : Int32} : gFr I (gi_Md_list I J l p) := by
  unfold gi_Md_list
  (repeat' split) <;> first | exact gFr.rf | exact gFr.rf.up4 (by omega) | exact (gFr.rf.up4 (by omega)).up (by omega)
theorem gFr_swap {l : Nat} {p q : Int32} : gFr I (gi_Md_swap I J l p q) := by
  unfold gi_Md_swap
  (repeat' split) <;> first | exact gFr.rf | exact (gFr.rf.up (by omega)).up (by omega)
theorem gFr_see {p x n : Int32} : gFr I (gi_Md_see I J p x n) := by
  unfold gi_Md_see
  (repeat' split) <;> first | exact gFr.rf | exact gFr.rf.up4 (by omega) | exact (((gFr.rf.up (by omega)).up (by omega)).up4 (by omega)).up (by omega)
theorem gFr_plan {x p : Int32} : gFr I (gi_Md_plan I J x p) := by
  unfold gi_Md_plan
  (repeat' split) <;> first | exact gFr.rf | exact gFr.rf.up4 (by omega) | exact ((gFr.rf.up (by omega)).up4 (by omega)).up (by omega)
theorem gFr_book {p x : Int32} : gFr I (gi_Md_book I J p x) := by
  unfold gi_Md_book
  (repeat' split) <;> first | exact gFr.rf | exact gFr.rf.up4 (by omega) | exact ((gFr.rf.up (by omega)).up4 (by omega)).up (by omega)
theorem gFr_feed {x : Int32} : gFr I (gi_Md_feed I J x) := by
  unfold gi_Md_feed
  (repeat' split) <;> first | exact gFr.rf | exact (gFr.rf.up4 (by omega)).up (by omega)
theorem gFr_mtrace : ∀ (l : List Int32) {I0 : qI}, gFr I0 I → gFr I0 (mtrace I l) := by
  intro l I0 h
  exact ⟨fun b hb => by rw [mtrace_row (by omega) (by omega)]; exact h.1 b hb, by rw [mtrace_f (by decide)]; exact h.2.1, by rw [mtrace_f (by decide)]; exact h.2.2⟩
end V34
/-! class and reference side by side: hurts set, done -/
/-- one field of a mourner, and the row of it -/
theorem vH.set {I I2 : qI} {c m jj i : Nat} {n : Int32} (h : vH I 6 (kp I)) (c6 : c ≤ 6) (hc : I 6 1 = nI c) (hm : m < c) (hj : jj = 3 ∧ i = 12 ∨ jj = 4 ∧ i = 18 ∧ n ≤ 99 ∨ jj = 5 ∧ i = 24 ∧ n ≤ 99999 ∨ jj = 6 ∧ i = 30 ∧ qbool n) (h6 : I2 6 1 = I 6 1) (hq : ∀ p, p < 6 → I2 (qm 6 p) = qup I (qm 6 m) jj n (qm 6 p)) (hf : ∀ j, 12 ≤ j → j < 36 → kp I2 j = if j = i + m then n else kp I j) : vH I2 6 (kp I2) := by
  intro c' p hc' e hp
  rw [h6] at e
  obtain ⟨b1, b2, b3, b4, b5, b6, b7⟩ := h c' p hc' e hp
  have ec : c' = c := (nI_eq (by omega) (by omega)).mp (e.symm.trans hc)
  subst ec
  rw [hf _ (by omega) (by omega), hf _ (by omega) (by omega), hf _ (by omega) (by omega), hf _ (by omega) (by omega), hq p (by omega)]
  by_cases q : p = m
  · subst q
    rcases hj with ⟨rfl, rfl⟩ | ⟨rfl, rfl, hn⟩ | ⟨rfl, rfl, hn⟩ | ⟨rfl, rfl, hn⟩
    · rw [if_pos rfl, if_neg (by omega), if_neg (by omega), if_neg (by omega), qup_at, qup_j (by decide), qup_j (by decide), qup_j (by decide)]
      exact ⟨rfl, b2, b3, b4, b5, b6, b7⟩
    · rw [if_neg (by omega), if_pos rfl, if_neg (by omega), if_neg (by omega), qup_at, qup_j (by decide), qup_j (by decide), qup_j (by decide)]
      exact ⟨b1, rfl, b3, b4, b5, b6, hn⟩
    · rw [if_neg (by omega), if_neg (by omega), if_pos rfl, if_neg (by omega), qup_at, qup_j (by decide), qup_j (by decide), qup_j (by decide)]
      exact ⟨b1, b2, rfl, b4, b5, hn, b7⟩
    · rw [if_neg (by omega), if_neg (by omega), if_neg (by omega), if_pos rfl, qup_at, qup_j (by decide), qup_j (by decide), qup_j (by decide)]
      exact ⟨b1, b2, b3, rfl, hn, b6, b7⟩
  · have e2 : qup I (qm 6 m) jj n (qm 6 p) = I (qm 6 p) := qup_row (by unfold qm; omega)
    rw [e2, if_neg (by omega), if_neg (by omega), if_neg (by omega), if_neg (by omega)]
    exact ⟨b1, b2, b3, b4, b5, b6, b7⟩
theorem kp_hrt {I : qI} {a m k : Nat} {n : Int32} (hk : k < 6) (ha : a = 117 ∨ a = 118 ∨ a = 119 ∨ a = 120) (hm : m = k) : ∀ j, 12 ≤ j → j < 36 → kp (qup I a m n) j = if j = 12 + 6 * (a - 117) + k then n else kp I j := by
  subst hm
  intro j h1 h2
  rcases ha with rfl | rfl | rfl | rfl
  · exact kp_up (n := 12 + m) (kpa_117 hk) (by omega) (by omega)
  · exact kp_up (n := 18 + m) (kpa_118 hk) (by omega) (by omega)
  · exact kp_up (n := 24 + m) (kpa_119 hk) (by omega) (by omega)
  · exact kp_up (n := 30 + m) (kpa_120 hk) (by omega) (by omega)
/-- a call that sets one field: what is left to show -/
theorem vINV.fld {S S1 S2 : qSh} {I I1 I2 : qI} {J J1 J2 : qJ} {T T2 : qI → Prop} {v v2 : Option Value} {c m jj a : Nat} {n : Int32} (g : vINV S I J) (cw : cW S S1 I I1) (hK : KQ0 S I J T v S1 I1 J1) (hV : RQ0 S1 I1 J1 T2 v2 S2 I2 J2) (c6 : c ≤ 6) (hc : I 6 1 = nI c) (hm : m < c) (hI1 : I1 = qup I (qm 6 m) jj n) (hI2 : I2 = qup I1 a m n) (hj : jj = 3 ∧ a = 117 ∨ jj = 4 ∧ a = 118 ∧ n ≤ 99 ∨ jj = 5 ∧ a = 119 ∧ n ≤ 99999 ∨ jj = 6 ∧ a = 120 ∧ qbool n) : vTie S2 I2 := by
  have cf := hK.2.2.1
  have r1 : ∀ b, (b < 21 ∨ 32 < b) → I1 b = I b := fun b hb => by rw [hI1, qup_row (by unfold qm; omega)]
  have r2 : ∀ b, b ≠ a → I2 b = I1 b := fun b hb => by rw [hI2, qup_row hb]
  refine g.gen cw hK hV (by rw [r1 0 (by omega)]) (fun b b1 b2 => r1 b (by omega)) ⟨by rw [r2 114 (by omega)], by rw [r2 114 (by omega)], fun b b1 b2 => r2 b (by omega)⟩ (r2 139 (by omega)) ?_
  refine g.2.2.1.set (i := 12 + 6 * (a - 117)) (jj := jj) (n := n) c6 hc hm ?_ (by rw [r2 6 (by omega), r1 6 (by omega)]) (fun p hp => by rw [r2 (qm 6 p) (by unfold qm; omega), hI1]) (fun j h1 h2 => ?_)
  · rcases hj with ⟨rfl, rfl⟩ | ⟨rfl, rfl, h⟩ | ⟨rfl, rfl, h⟩ | ⟨rfl, rfl, h⟩
    · exact Or.inl ⟨rfl, rfl⟩
    · exact Or.inr (Or.inl ⟨rfl, rfl, h⟩)
    · exact Or.inr (Or.inr (Or.inl ⟨rfl, rfl, h⟩))
    · exact Or.inr (Or.inr (Or.inr ⟨rfl, rfl, h⟩))
  · rw [hI2, kp_hrt (by omega) (by omega) rfl j h1 h2, kp_far cf (by omega)]
theorem x012 {x : Int32} (h : ¬ qwithin x 0 2 = 0) : x = 0 ∨ x = 1 ∨ x = 2 := by
  obtain ⟨g1, g2⟩ := qwithin_y h
  obtain ⟨m, m1, rfl⟩ := nI_of2 (M := 2) (n := 2) rfl (Int32.not_lt.mpr g1) g2
  have : m = 0 ∨ m = 1 ∨ m = 2 := by omega
  rcases this with rfl | rfl | rfl
  · exact Or.inl rfl
  · exact Or.inr (Or.inl rfl)
  · exact Or.inr (Or.inr rfl)
theorem vINV.set {S S1 S2 : qSh} {I I1 I2 : qI} {J J1 J2 : qJ} {T T2 : qI → Prop} {v v2 : Option Value} {p x n : Int32} (g : vINV S I J) (pK : ∃ c, c ≤ 6 ∧ I 6 1 = nI c ∧ v = some (.int (ca_set I c p x n)) ∧ I1 = ci_set I c p x n ∧ J1 = J) (cw : cW S S1 I I1) (hK : KQ0 S I J T v S1 I1 J1) (pR : v2 = some (.int (ga_Md_set I1 J1 p x n)) ∧ I2 = gi_Md_set I1 J1 p x n ∧ J2 = gj_Md_set I1 J1 p x n) (hV : RQ0 S1 I1 J1 T2 v2 S2 I2 J2) : vINV S2 I2 J2 ∧ v = v2 := by
  have gx := g.1.set pK hK pR hV
  have cf := hK.2.2.1
  obtain ⟨c, c6, hc, hv, hI1, rfl⟩ := pK
  obtain ⟨hv2, hI2, hJ2⟩ := pR
  have hc1 : I1 114 0 = nI c := by rw [(cf 114 (by omega) (by omega)).1]; exact g.1.2.2.2.1.1.trans hc
  have idn : I1 = I → I2 = I1 → vINV S2 I2 J2 := fun h1 h2 => ⟨gx, g.still cw hK hV (by rw [h1]) (fun _ _ _ => by rw [h1]) (by rw [h1]) (fun _ _ _ _ => by rw [h1]) (by rw [h2]; exact rW.rf) (by rw [h2]) (fun _ _ _ => by rw [h2])⟩
  unfold ca_set at hv
  unfold ci_set at hI1
  unfold ga_Md_set at hv2
  unfold gi_Md_set at hI2
  rw [hc1] at hv2 hI2
  by_cases q0 : qwithin p 0 (nI c - 1) = 0
  · rw [if_pos q0] at hv hI1 hv2 hI2
    exact ⟨idn hI1 hI2, hv.trans hv2.symm⟩
  rw [if_neg q0] at hv hI1 hv2 hI2
  obtain ⟨m, m1, rfl⟩ := qisM_y (show c < 2 ^ 31 by omega) q0
  rw [qcl (n := m) (by omega)] at hv hI1 hv2 hI2
  by_cases q1 : qwithin x 0 2 = 0
  · rw [if_pos q1] at hv hI1 hv2 hI2
    exact ⟨idn hI1 hI2, hv.trans hv2.symm⟩
  rw [if_neg q1] at hv hI1 hv2 hI2
  obtain ⟨b1, b2, b3, b4, -⟩ := g.2.2.1 c m c6 hc m1
  have e117 : I1 117 m = I (qm 6 m) 3 := by rw [(cf 117 (by omega) (by omega)).1, ← b1, kp_117 (by omega)]
  have e118 : I1 118 m = I (qm 6 m) 4 := by rw [(cf 118 (by omega) (by omega)).1, ← b2, kp_118 (by omega)]
  have e119 : I1 119 m = I (qm 6 m) 5 := by rw [(cf 119 (by omega) (by omega)).1, ← b3, kp_119 (by omega)]
  rcases x012 q1 with rfl | rfl | rfl
  · have m0 : cmost 0 = 99 := by decide
    have f0 : cfld 0 = 3 := by decide
    rw [m0] at hv hI1
    rw [f0] at hv hI1
    rw [if_neg (by decide)] at hv2 hI2
    by_cases q2 : qwithin n 0 99 = 0
    · rw [if_pos q2] at hv hI1 hv2 hI2
      exact ⟨idn hI1 hI2, hv.trans hv2.symm⟩
    rw [if_neg q2] at hv hI1 hv2 hI2
    rw [if_pos rfl, if_pos rfl] at hv2 hI2
    exact ⟨⟨gx, g.fld cw hK hV c6 hc m1 hI1 hI2 (Or.inl ⟨rfl, rfl⟩)⟩, by rw [hv, hv2, e117]⟩
  · have m0 : cmost 1 = 99 := by decide
    have f0 : cfld 1 = 4 := by decide
    rw [m0] at hv hI1
    rw [f0] at hv hI1
    rw [if_neg (by decide)] at hv2 hI2
    by_cases q2 : qwithin n 0 99 = 0
    · rw [if_pos q2] at hv hI1 hv2 hI2
      exact ⟨idn hI1 hI2, hv.trans hv2.symm⟩
    rw [if_neg q2] at hv hI1 hv2 hI2
    rw [if_neg (by decide), if_pos rfl, if_neg (by decide)] at hv2 hI2
    simp only [if_true] at hv2 hI2
    exact ⟨⟨gx, g.fld cw hK hV c6 hc m1 hI1 hI2 (Or.inr (Or.inl ⟨rfl, rfl, (qwithin_y q2).2⟩))⟩, by rw [hv, hv2, e118]⟩
  · have m0 : cmost 2 = 99999 := by decide
    have f0 : cfld 2 = 5 := by decide
    rw [m0] at hv hI1
    rw [f0] at hv hI1
    rw [if_pos rfl] at hv2 hI2
    by_cases q2 : qwithin n 0 99999 = 0
    · rw [if_pos q2] at hv hI1 hv2 hI2
      exact ⟨idn hI1 hI2, hv.trans hv2.symm⟩
    rw [if_neg q2] at hv hI1 hv2 hI2
    rw [if_neg (by decide), if_neg (by decide), if_neg (by decide)] at hv2 hI2
    rw [if_neg (by decide)] at hv2 hI2
    exact ⟨⟨gx, g.fld cw hK hV c6 hc m1 hI1 hI2 (Or.inr (Or.inr (Or.inl ⟨rfl, rfl, (qwithin_y q2).2⟩)))⟩, by rw [hv, hv2, e119]⟩
theorem vINV.done {S S1 S2 : qSh} {I I1 I2 : qI} {J J1 J2 : qJ} {T T2 : qI → Prop} {v v2 : Option Value} {p b : Int32} (g : vINV S I J) (hb : qbool b) (pK : ∃ c, c ≤ 6 ∧ I 6 1 = nI c ∧ v = some (.int (ca_done I c p)) ∧ I1 = ci_done I c p b ∧ J1 = J) (cw : cW S S1 I I1) (hK : KQ0 S I J T v S1 I1 J1) (pR : v2 = some (.int (ga_Md_done I1 J1 p b)) ∧ I2 = gi_Md_done I1 J1 p b ∧ J2 = gj_Md_done I1 J1 p b) (hV : RQ0 S1 I1 J1 T2 v2 S2 I2 J2) : vINV S2 I2 J2 ∧ v = v2 := by
  have gx := g.1.done pK hK pR hV
  have cf := hK.2.2.1
  obtain ⟨c, c6, hc, hv, hI1, rfl⟩ := pK
  obtain ⟨hv2, hI2, hJ2⟩ := pR
  have hc1 : I1 114 0 = nI c := by rw [(cf 114 (by omega) (by omega)).1]; exact g.1.2.2.2.1.1.trans hc
  have idn : I1 = I → I2 = I1 → vINV S2 I2 J2 := fun h1 h2 => ⟨gx, g.still cw hK hV (by rw [h1]) (fun _ _ _ => by rw [h1]) (by rw [h1]) (fun _ _ _ _ => by rw [h1]) (by rw [h2]; exact rW.rf) (by rw [h2]) (fun _ _ _ => by rw [h2])⟩
  unfold ca_done at hv
  unfold ci_done at hI1
  unfold ga_Md_done at hv2
  unfold gi_Md_done at hI2
  rw [hc1] at hv2 hI2
  by_cases q0 : qwithin p 0 (nI c - 1) = 0
  · rw [if_pos q0] at hv hI1 hv2 hI2
    exact ⟨idn hI1 hI2, hv.trans hv2.symm⟩
  rw [if_neg q0] at hv hI1 hv2 hI2
  obtain ⟨m, m1, rfl⟩ := qisM_y (show c < 2 ^ 31 by omega) q0
  rw [qcl (n := m) (by omega)] at hv hI1 hv2 hI2
  rw [ite_self] at hv2
  obtain ⟨b1, b2, b3, b4, b5, -⟩ := g.2.2.1 c m c6 hc m1
  have e120 : I1 120 m = I (qm 6 m) 6 := by rw [(cf 120 (by omega) (by omega)).1, ← b4, kp_120 (by omega)]
  have ans : v = v2 := by
    rw [hv, hv2, e120]
    rcases b5 with q | q
    · rw [q, if_pos rfl]
    · rw [q, if_neg (by decide)]
  rcases hb with rfl | rfl
  · rw [if_pos rfl] at hI2
    exact ⟨⟨gx, g.fld cw hK hV c6 hc m1 hI1 hI2 (Or.inr (Or.inr (Or.inr ⟨rfl, rfl, Or.inl rfl⟩)))⟩, ans⟩
  · rw [if_neg (by decide)] at hI2
    exact ⟨⟨gx, g.fld cw hK hV c6 hc m1 hI1 hI2 (Or.inr (Or.inr (Or.inr ⟨rfl, rfl, Or.inr rfl⟩)))⟩, ans⟩
