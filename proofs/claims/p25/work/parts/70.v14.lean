/-! the object's islands keep its invariant -/
section H14
variable {E : qE} {S : qSh} {I : qI} {J : qJ} {w0 w1 w2 bl : Nat} {f : Nat → Int32} {n : Nat}
theorem cINV.tx (h : cINV S I J w0 w1 w2 bl) : ∃ n, n ≤ 100 ∧ I 87 1 = nI n ∧ qTx I (I 88) n bl := by
  obtain ⟨hO, hZ, hN, ⟨e0, e1, e2, eb, s0, s2, s3⟩, hd⟩ := h
  obtain ⟨hok, hI0, hI2, hah, him, hig, ⟨z, zz, hz, hb⟩, hts, hh⟩ := hd
  refine ⟨z, zz, hz, hz, zz, fun j hj => ⟨rfl, ?_⟩, Or.inr (by omega)⟩
  obtain ⟨k, k1, k2⟩ := hb j hj
  rw [k2]
  exact Int32.not_lt.mp (nI_pos (by omega))
/-- what the blank holds after it was read into -/
theorem qRc.isOK {I K : qI} {o : Nat} {c : qCl} (h : qRc I o n c K) : qIsOK K o := by
  obtain ⟨h1, h2, h3, h4, h5, h6, h7⟩ := h
  refine ⟨⟨c.2.1.length, h5, h4, fun j hj => ?_⟩, ⟨c.1.2.2.length, h1.2.2.2.2.2.2.1, h1.2.2.2.2.2.1⟩⟩
  obtain ⟨-, a, b⟩ := h6 j hj
  exact ⟨_, b, a⟩
theorem cRd0 {I : qI} (h : I 87 1 = 0) : cRd I := ⟨0, by omega, h, fun j hj => absurd hj (Nat.not_lt_zero _)⟩
/-- what an island leaves as it was -/
def cIs (I I' : qI) : Prop := (∀ a, ((6 ≤ a ∧ a ≤ 32) ∨ (60 ≤ a ∧ a ≤ 86) ∨ (99 ≤ a ∧ a ≤ 113)) → I' a = I a) ∧ I' 0 4 = I 0 4 ∧ I' 87 1 = 0
/-- an island that was read is the living's; the image's is as it was -/
def cWn (S S' : qSh) (I I' : qI) (f : Nat → Int32) (n : Nat) : Prop := ∃ (o : Nat) (K : qI), qR S' 6 5 = some o ∧ qR S' 60 5 = qR S 60 5 ∧ qRc I o n (rread f n) K ∧ (∀ b, b ≤ 3 → I' (o + b) = K (o + b)) ∧ ∀ w, qR S 60 5 = some w → ∀ b, b ≤ 3 → I' (w + b) = I (w + b)
theorem K_islandF (h : cINV S I J w0 w1 w2 bl) (hx : qTx I f n bl) (h6 : ¬ I 0 7 = 6) (hr : rok (rread f n) n = 0) : qMet E y_On_island b_On_island 2 (some .int) 17 0 0 [.ref (qb E + 0)] S I J (fun u S' I' J' => ((u = some (.int (-10 - nI (rread f n).1.1)) ∧ J' = J) ∧ cW S S' I I') ∧ KQ0 S I J (fun I' => cT I I' ∧ cIs I I' ∧ I' 0 7 = I 0 7) u S' I' J') := by
  have h0 := h
  obtain ⟨hO, hZ, hN, ⟨e0, e1, e2, eb, s0, s2, s3⟩, hd⟩ := h
  obtain ⟨hok, hI0, hI2, hah, him, hig, hrd, hts, ⟨g, g6, hg⟩⟩ := id hd
  have g5 : g < 6 := by
    rcases Nat.lt_or_ge g 6 with q | q
    · exact q
    · exact absurd (by rw [hg, show g = 6 by omega]; rfl) h6
  have hbl4 : bl + 4 < qN S := hO.2.2.2.2.2.2.2.2.2.2.2.2.2.2.2.1.2.2.2.2.1.1
  have e0' := e0
  have e2' := e2
  unfold qW1 at e0' e2'
  refine (c_On_islandF hO hZ hx g5 hg (by omega) hr).px (fun u S' I' J' hq => by
    obtain ⟨rfl, K, hK, ⟨-, h, rfl, rfl⟩ | ⟨q, -⟩⟩ := hq
    · have kO := hK.2.1
      exact ⟨⟨by rw [h, hK.1.2.2.2.1], rfl⟩, cW.gen hO rfl rfl (fun b hb => by rw [qup_row (by omega)]; exact kO _ (by omega) (by omega) (by omega) (by omega) (by omega)) (fun b hb => by rw [qup_row (by omega)]; exact kO _ (by omega) (by omega) (by omega) (by omega) (by omega))⟩
    · exact absurd hr q) (fun v S' I' J' hq => ?_)
  obtain ⟨rfl, K, hK, hR⟩ := hq
  rcases hR with ⟨-, -, rfl, rfl⟩ | ⟨q, -⟩
  · have kO := hK.2.1
    have fr : ∀ a, a ≠ 87 → (a < bl ∨ bl + 3 < a) → qup K 87 1 0 a = I a := fun a a1 a2 => by rw [qup_row a1]; exact kO a a1 (by omega) (by omega) (by omega) (by omega)
    refine ⟨⟨_, _, _, _, h0.new (hd.rd (cRd0 qup_at) (fun a ha a1 _ => fr a a1 ?_) e0 e2) (fun a ha => fr a (by omega) (by omega)) (fun _ _ => rfl)⟩, id, fun a a1 a2 => ⟨fr a (by omega) (by omega), rfl⟩, ⟨congrFun (fr 6 (by omega) (by omega)) 1, congrFun (fr 0 (by omega) (by omega)) 4, congrFun (fr 60 (by omega) (by omega)) 1⟩, ⟨fun a ha => fr a (by omega) (by omega), congrFun (fr 0 (by omega) (by omega)) 4, qup_at⟩, congrFun (fr 0 (by omega) (by omega)) 7⟩
    unfold cR at ha; omega
  · exact absurd hr q
theorem K_island (h : cINV S I J w0 w1 w2 bl) (hx : qTx I f n bl) (h6 : ¬ I 0 7 = 6) (hr : ¬ rok (rread f n) n = 0) : qMet E y_On_island b_On_island 2 (some .int) 17 5 133 [.ref (qb E + 0)] S I J (fun u S' I' J' => ((∃ g, g < 6 ∧ I 0 7 = nI g ∧ u = some (.int (nI g)) ∧ J' = J) ∧ cWn S S' I I' f n) ∧ KQ0 S I J (fun I' => cT I I' ∧ cIs I I' ∧ I' 0 7 = I 0 7 + 1) u S' I' J') := by
  have h0 := h
  obtain ⟨hO, hZ, hN, ⟨e0, e1, e2, eb, s0, s2, s3⟩, hd⟩ := h
  obtain ⟨hok, hI0, hI2, hah, him, hig, hrd, hts, ⟨g, g6, hg⟩⟩ := id hd
  have g5 : g < 6 := by
    rcases Nat.lt_or_ge g 6 with q | q
    · exact q
    · exact absurd (by rw [hg, show g = 6 by omega]; rfl) h6
  have hbl4 : bl + 4 < qN S := hO.2.2.2.2.2.2.2.2.2.2.2.2.2.2.2.1.2.2.2.2.1.1
  have hw2 : w2 + 4 < qN S := hO.2.2.2.2.2.2.2.2.2.2.2.2.2.1.is.2.2.2.2.1.1
  have e0' := e0
  have e1' := e1
  have e2' := e2
  unfold qW1 at e0' e1' e2'
  refine (c_On_island hO hZ hx g5 hg (by omega)).px (fun u S' I' J' hq => by
    obtain ⟨rfl, K, hK, ⟨q, -⟩ | ⟨-, h, rfl, rfl⟩⟩ := hq
    · exact absurd q hr
    · have kO := hK.2.1
      have p60 := hO.p6.2
      refine ⟨⟨g, g5, hg, h, rfl⟩, bl, K, ?_, ?_, hK, fun b hb => by rw [qup_row (by omega), qup_row (by omega)], fun w hw b hb => ?_⟩
      · exact (hO.isl (by omega) (by omega) (by omega)).p6.1
      · exact (hO.isl (by omega) (by omega) (by omega)).p6.2.trans p60.symm
      · rw [p60] at hw
        obtain rfl := Option.some.inj hw
        rw [qup_row (by omega), qup_row (by omega)]
        exact kO _ (by omega) (by omega) (by omega) (by omega) (by omega)) (fun v S' I' J' hq => ?_)
  obtain ⟨rfl, K, hK, hR⟩ := hq
  rcases hR with ⟨q, -⟩ | ⟨-, -, rfl, rfl⟩
  · exact absurd q hr
  · have kO := hK.2.1
    have fr : ∀ a, a ≠ 87 → a ≠ 0 → (a < bl ∨ bl + 3 < a) → qup (qup K 87 1 0) 0 7 (nI (g + 1)) a = I a := fun a a1 a0 a2 => by rw [qup_row a0, qup_row a1]; exact kO a a1 (by omega) (by omega) (by omega) (by omega)
    have fr0 : ∀ j, j ≠ 7 → qup (qup K 87 1 0) 0 7 (nI (g + 1)) 0 j = I 0 j := fun j hj => by rw [qup_j hj, qup_o (by decide), kO 0 (by decide) (by omega) (by omega) (by omega) (by omega)]
    have fb : ∀ a, a ≠ 87 → a ≠ 0 → qup (qup K 87 1 0) 0 7 (nI (g + 1)) a = K a := fun a a1 a0 => by rw [qup_row a0, qup_row a1]
    have isb : qIsOK (qup (qup K 87 1 0) 0 7 (nI (g + 1))) bl := hK.isOK.of (fb _ (by omega) (by omega)) (fb _ (by omega) (by omega))
    have is2 : qIsOK (qup (qup K 87 1 0) 0 7 (nI (g + 1))) w2 := hI2.of (fr _ (by omega) (by omega) (by omega)) (fr _ (by omega) (by omega) (by omega))
    have dat : cDat (qup (qup K 87 1 0) 0 7 (nI (g + 1))) bl w2 := by
      refine ⟨hok.fr2 (fun a a1 a2 => fr a (by omega) (by omega) (by omega)), isb, is2, hah.fr (fun a a1 a2 => fr a (by omega) (by omega) (by omega)), him.fr (fun a a1 a2 => fr a (by omega) (by omega) (by omega)), ?_, cRd0 (by rw [qup_o (by decide), qup_at]), hts.fr (fun a a1 a2 => fr a (by omega) (by omega) (by omega)), ⟨g + 1, by omega, qup_at⟩⟩
      rw [fr0 4 (by decide)]
      rcases hig with q | ⟨q, q2⟩
      · exact Or.inl q
      · exact Or.inr ⟨q, q2.fr2 (fun a a1 a2 => fr a (by omega) (by omega) (by omega))⟩
    have hqn : qN (qIslS S bl) = qN S + 5 := rfl
    refine ⟨⟨bl, w1, w2, qN S, hO.isl (by omega) (by omega) (by omega), fun a ha => ⟨?_, (hZ a (by omega)).2⟩, by omega, ⟨by unfold qW1; omega, e1, e2, by omega, by omega, by omega, by omega⟩, dat⟩, fun hM => ?_, fun a a1 a2 => ⟨fr a (by omega) (by omega) (by omega), rfl⟩, ⟨congrFun (fr 6 (by omega) (by omega) (by omega)) 1, fr0 4 (by decide), congrFun (fr 60 (by omega) (by omega) (by omega)) 1⟩, ⟨fun a ha => fr a (by omega) (by omega) (by omega), fr0 4 (by decide), by rw [qup_o (by decide), qup_at]⟩, by rw [qup_at, hg, q1]⟩
    · rw [fr a (by omega) (by omega) (by omega)]; exact (hZ a (by omega)).1
    · have k := isl_keep (S := S) (bl := bl)
      exact ⟨k.1 _ _ hM.1, fun t ht => ⟨(k.2.2 114 t.1 hM.1.1 (by omega) (by omega)).trans (hM.2 t ht).1, k.2.1 _ _ _ (hM.2 t ht).2⟩⟩
end H14
