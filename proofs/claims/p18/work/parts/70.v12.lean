/-! the object's calls keep its invariant: mourners, texts, tapes, acts, days -/
theorem cDat.rd {I I' : qI} {w0 w2 : Nat} (h : cDat I w0 w2) (hr : cRd I') (hf : ∀ a, cR w0 w2 a → a ≠ 87 → a ≠ 88 → I' a = I a) (e0 : qW1 w0) (e2 : qW1 w2) : cDat I' w0 w2 := by
  obtain ⟨h1, h2, h3, h4, h5, h6, h7, h8, h9⟩ := h
  unfold qW1 at e0 e2
  unfold cR at hf
  refine ⟨h1.fr2 (fun a a1 a2 => hf a (by omega) (by omega) (by omega)), h2.of (hf _ (by omega) (by omega) (by omega)) (hf _ (by omega) (by omega) (by omega)), h3.of (hf _ (by omega) (by omega) (by omega)) (hf _ (by omega) (by omega) (by omega)), h4.fr (fun a a1 a2 => hf a (by omega) (by omega) (by omega)), h5.fr (fun a a1 a2 => hf a (by omega) (by omega) (by omega)), ?_, hr, h8.fr (fun a a1 a2 => hf a (by omega) (by omega) (by omega)), ?_⟩
  · rw [hf 0 (by omega) (by omega) (by omega)]
    rcases h6 with q | ⟨q, q2⟩
    · exact Or.inl q
    · exact Or.inr ⟨q, q2.fr2 (fun a a1 a2 => hf a (by omega) (by omega) (by omega))⟩
  · rw [hf 0 (by omega) (by omega) (by omega)]; exact h9
theorem cDat.tp {I I' : qI} {w0 w2 : Nat} (h : cDat I w0 w2) (ht : cTs I') (hf : ∀ a, cR w0 w2 a → (a < 102 ∨ 113 < a) → I' a = I a) (e0 : qW1 w0) (e2 : qW1 w2) : cDat I' w0 w2 := by
  obtain ⟨h1, h2, h3, h4, h5, h6, h7, h8, h9⟩ := h
  unfold qW1 at e0 e2
  unfold cR at hf
  refine ⟨h1.fr2 (fun a a1 a2 => hf a (by omega) (by omega)), h2.of (hf _ (by omega) (by omega)) (hf _ (by omega) (by omega)), h3.of (hf _ (by omega) (by omega)) (hf _ (by omega) (by omega)), h4.fr (fun a a1 a2 => hf a (by omega) (by omega)), h5.fr (fun a a1 a2 => hf a (by omega) (by omega)), ?_, h7.fr (by rw [hf 87 (by omega) (by omega)]) (hf 88 (by omega) (by omega)), ht, ?_⟩
  · rw [hf 0 (by omega) (by omega)]
    rcases h6 with q | ⟨q, q2⟩
    · exact Or.inl q
    · exact Or.inr ⟨q, q2.fr2 (fun a a1 a2 => hf a (by omega) (by omega))⟩
  · rw [hf 0 (by omega) (by omega)]; exact h9
section H12
variable {E : qE} {S : qSh} {I : qI} {J : qJ} {w0 w1 w2 bl : Nat}
theorem K_mourner {kd v g : Int32} {c0 : Nat} (h : cINV S I J w0 w1 w2 bl) (hc0 : I 6 1 = nI c0) (hc06 : c0 ≤ 6) : qMet E y_On_mourner b_On_mourner 4 (some .int) 1 0 0 [.ref (qb E + 0), .int kd, .int v, .int g] S I J (fun r S' I' J' => ((r = some (.int (aMourner c0 kd v g)) ∧ I' = cMournerI I c0 kd v g ∧ J' = J) ∧ cW S S' I I') ∧ KQ0 S I J (fun I' => I' 6 1 = (if qwithin kd 0 6 = 0 then nI c0 else if qwithin v 0 9 = 0 then nI c0 else if qwithin g 0 99 = 0 then nI c0 else if c0 < 6 then nI (c0 + 1) else nI c0) ∧ I' 0 4 = I 0 4 ∧ I' 60 1 = I 60 1) r S' I' J') := by
  have h0 := h
  have hw4 := h.w4
  obtain ⟨hO, hZ, hN, ⟨e0, e1, e2, eb, s0, s2, s3⟩, hd⟩ := h
  obtain ⟨hok, hI0, hI2, hah, him, hig, hrd, hts, hh⟩ := id hd
  obtain ⟨c, hc6, hc⟩ := hok.1
  obtain ⟨l, hl6, hl⟩ := hok.2.1
  obtain ⟨d, hd9, hdd⟩ := hok.2.2.1
  obtain ⟨z1, y1, x1⟩ := hok.2.2.2.1
  obtain ⟨z2, y2, x2⟩ := hok.2.2.2.2.1
  obtain ⟨z3, y3, x3⟩ := hok.2.2.2.2.2.1
  refine (c_On_mourner hO hc0 hc06).post (fun r S' I' J' hq => ?_)
  obtain ⟨rfl, rfl, hI', rfl⟩ := hq
  have ok := ok_mourner (I := I) (c := c0) (kd := kd) (v := v) (g := g) hok hc0
  rw [← hI'] at ok
  have e0' := e0
  have e2' := e2
  unfold qW1 at e0' e2'
  have fr : ∀ a, (a < 6 ∨ 32 < a) → I' a = I a := fun a ha => ok.2.1 a ha
  exact ⟨⟨⟨rfl, hI', rfl⟩, cW.of hO e0 e2 rfl (fun a ha => by rw [hI']; exact ci_mo_fr hc06 (by omega) (by omega))⟩, ⟨_, _, _, _, h0.new (hd.on6 ok.1 (fun a _ h3 => fr a h3) e0 e2) (fun a ha => fr a (by omega)) (fun _ _ => rfl)⟩, id, fun a a1 a2 => ⟨fr a (by omega), rfl⟩, ok.2.2, congrFun (fr 0 (by omega)) 4, congrFun (fr 60 (by omega)) 1⟩
theorem K_feed {x : Int32} (h : cINV S I J w0 w1 w2 bl) : qMet E y_On_feed b_On_feed 2 (some .int) 1 0 0 [.ref (qb E + 0), .int x] S I J (fun u S' I' J' => ((∃ z, z ≤ 100 ∧ I 87 1 = nI z ∧ u = some (.int (ca_feed z x)) ∧ I' = ci_feed I z x ∧ J' = J) ∧ cW S S' I I') ∧ KQ0 S I J (cT I) u S' I' J') := by
  have h0 := h
  have hw4 := h.w4
  obtain ⟨hO, hZ, hN, ⟨e0, e1, e2, eb, s0, s2, s3⟩, hd⟩ := h
  obtain ⟨hok, hI0, hI2, hah, him, hig, hrd, hts, hh⟩ := id hd
  obtain ⟨c, hc6, hc⟩ := hok.1
  obtain ⟨l, hl6, hl⟩ := hok.2.1
  obtain ⟨d, hd9, hdd⟩ := hok.2.2.1
  obtain ⟨z1, y1, x1⟩ := hok.2.2.2.1
  obtain ⟨z2, y2, x2⟩ := hok.2.2.2.2.1
  obtain ⟨z3, y3, x3⟩ := hok.2.2.2.2.2.1
  obtain ⟨z, zz, hz, hb⟩ := hrd
  refine (c_On_feed hO hz zz).px (fun u S' I' J' hq => ⟨⟨z, zz, hz, hq.1, hq.2.2.1, hq.2.2.2.symm⟩, cW.of hO e0 e2 hq.2.1 (fun a ha => by rw [hq.2.2.1]; exact ci_feed_fr (by omega) (by omega))⟩) (fun v S' I' J' hq => ?_)
  obtain ⟨-, rfl, hI', rfl⟩ := hq
  have e0' := e0
  have e2' := e2
  unfold qW1 at e0' e2'
  have fr : ∀ a, a ≠ 87 → a ≠ 88 → I' a = I a := fun a a1 a2 => by
    rw [hI']; unfold ci_feed
    split
    · rfl
    · split
      · rw [qup_row a1, qup_row a2]
      · rfl
  have rd : cRd I' := by
    rw [hI']; unfold ci_feed
    split
    · exact ⟨z, zz, hz, hb⟩
    · rename_i c1
      split
      · rename_i c2
        refine ⟨z + 1, by omega, qup_at, fun j hj => ?_⟩
        rw [qup_o (by decide)]
        by_cases e : j = z
        · subst e; rw [qup_at]; exact qw127 c1
        · rw [qup_j e]; exact hb j (by omega)
      · exact ⟨z, zz, hz, hb⟩
  exact ⟨⟨_, _, _, _, h0.new (hd.rd rd (fun a _ h3 h4 => fr a h3 h4) e0 e2) (fun a ha => fr a (by omega) (by omega)) (fun _ _ => rfl)⟩, id, fun a a1 a2 => ⟨fr a (by omega) (by omega), rfl⟩, congrFun (fr 6 (by omega) (by omega)) 1, congrFun (fr 0 (by omega) (by omega)) 4, congrFun (fr 60 (by omega) (by omega)) 1⟩
theorem K_act {x a y : Int32} (h : cINV S I J w0 w1 w2 bl) : qMet E y_On_act b_On_act 5 (some .int) 25 0 0 [.ref (qb E + 0), .int x, .int a, .int y] S I J (fun u S' I' J' => ((∃ c, c ≤ 6 ∧ I 6 1 = nI c ∧ u = some (.int (ca_act I c x a y).1) ∧ I' = qtrace (qup I 99 1 0) (ca_act I c x a y).2 ∧ J' = J) ∧ cW S S' I I') ∧ KQ0 S I J (cT I) u S' I' J') := by
  have h0 := h
  have hw4 := h.w4
  obtain ⟨hO, hZ, hN, ⟨e0, e1, e2, eb, s0, s2, s3⟩, hd⟩ := h
  obtain ⟨hok, hI0, hI2, hah, him, hig, hrd, hts, hh⟩ := id hd
  obtain ⟨c, hc6, hc⟩ := hok.1
  obtain ⟨l, hl6, hl⟩ := hok.2.1
  obtain ⟨d, hd9, hdd⟩ := hok.2.2.1
  obtain ⟨z1, y1, x1⟩ := hok.2.2.2.1
  obtain ⟨z2, y2, x2⟩ := hok.2.2.2.2.1
  obtain ⟨z3, y3, x3⟩ := hok.2.2.2.2.2.1
  refine (c_On_actX hO hc hc6).px (fun u S' I' J' hq => ⟨⟨c, hc6, hc, hq.1, hq.2.2.2.2, hq.2.2.2.1.symm⟩, cW.of hO e0 e2 hq.2.1 (fun a ha => hq.2.2.1 a (by omega))⟩) (fun v S' I' J' hq => ?_)
  obtain ⟨-, rfl, fr, rfl, -⟩ := hq
  have e0' := e0
  have e2' := e2
  unfold qW1 at e0' e2'
  refine ⟨⟨_, _, _, _, h0.new (hd.fr (fun a ha => fr a ?_) e0 e2) (fun a ha => fr a ?_) (fun a ha => rfl)⟩, id, fun a a1 a2 => ⟨fr a ?_, rfl⟩, congrFun (fr 6 ?_) 1, congrFun (fr 0 ?_) 4, congrFun (fr 60 ?_) 1⟩
  · unfold cR at ha; omega
  all_goals omega
theorem K_tape {tp s n : Int32} (h : cINV S I J w0 w1 w2 bl) : qMet E y_On_tape b_On_tape 4 (some .int) 2 0 0 [.ref (qb E + 0), .int tp, .int s, .int n] S I J (fun u S' I' J' => ((u = some (.int (ca_tape tp s n)) ∧ I' = ci_tape I tp s n ∧ J' = cj_tape J tp s n) ∧ cW S S' I I') ∧ KQ0 S I J (cT I) u S' I' J') := by
  have h0 := h
  have hw4 := h.w4
  obtain ⟨hO, hZ, hN, ⟨e0, e1, e2, eb, s0, s2, s3⟩, hd⟩ := h
  obtain ⟨hok, hI0, hI2, hah, him, hig, hrd, hts, hh⟩ := id hd
  obtain ⟨c, hc6, hc⟩ := hok.1
  obtain ⟨l, hl6, hl⟩ := hok.2.1
  obtain ⟨d, hd9, hdd⟩ := hok.2.2.1
  obtain ⟨z1, y1, x1⟩ := hok.2.2.2.1
  obtain ⟨z2, y2, x2⟩ := hok.2.2.2.2.1
  obtain ⟨z3, y3, x3⟩ := hok.2.2.2.2.2.1
  refine (c_On_tape hO).px (fun u S' I' J' hq => ⟨⟨hq.1, hq.2.2.1, hq.2.2.2⟩, cW.of hO e0 e2 hq.2.1 (fun a ha => by rw [hq.2.2.1]; exact ci_tape_fr (by omega))⟩) (fun v S' I' J' hq => ?_)
  obtain ⟨-, rfl, hI', hJ'⟩ := hq
  have e0' := e0
  have e2' := e2
  unfold qW1 at e0' e2'
  have key : ((∀ a, (a < 102 ∨ 113 < a) → I' a = I a) ∧ ∀ a, (a < 102 ∨ 113 < a) → J' a = J a) ∧ cTs I' := by
    rw [hI', hJ']
    unfold ci_tape cj_tape
    split
    · exact ⟨⟨fun _ _ => rfl, fun _ _ => rfl⟩, hts⟩
    · rename_i c1
      obtain ⟨t, ht, rfl⟩ := qtape_y c1
      have ec : ctp (nI t) = 102 + 2 * t := by unfold ctp; rw [qcl (by omega)]
      rw [ec]
      have fj : ∀ a, (a < 102 ∨ 113 < a) → qfilJ J (102 + 2 * t + 1) 60 (fun _ => 0) a = J a := fun a ha => by funext k; unfold qfilJ; rw [if_neg (by omega)]
      have fi : ∀ (x y : Int32) a, (a < 102 ∨ 113 < a) → qup (qup I (102 + 2 * t) 0 x) (102 + 2 * t) 1 y a = I a := fun x y a ha => by rw [qup_row (by omega), qup_row (by omega)]
      have ts : ∀ (x y : Int32), (∃ z, z ≤ 60 ∧ y = nI z) → cTs (qup (qup I (102 + 2 * t) 0 x) (102 + 2 * t) 1 y) := fun x y hy u hu => by
        by_cases e : u = t
        · subst e; rw [qup_at]; exact hy
        · rw [qup_o (by omega), qup_o (by omega)]; exact hts u hu
      split
      · exact ⟨⟨fi _ _, fj⟩, ts _ _ ⟨0, by omega, rfl⟩⟩
      · split
        · exact ⟨⟨fun _ _ => rfl, fun _ _ => rfl⟩, hts⟩
        · split
          · rename_i c4
            split
            · rename_i c5
              obtain ⟨k, k1, k2⟩ := nI_of2 (M := 60) (n := 60) rfl (Int32.not_lt.mpr c5) c4
              exact ⟨⟨fi _ _, fj⟩, ts _ _ ⟨k, k1, k2⟩⟩
            · exact ⟨⟨fun _ _ => rfl, fun _ _ => rfl⟩, hts⟩
          · exact ⟨⟨fun _ _ => rfl, fun _ _ => rfl⟩, hts⟩
  obtain ⟨⟨fr, fj⟩, ts⟩ := key
  exact ⟨⟨_, _, _, _, h0.new (hd.tp ts (fun a _ h3 => fr a h3) e0 e2) (fun a ha => fr a (by omega)) (fun a ha => fj a (by omega))⟩, id, fun a a1 a2 => ⟨fr a (by omega), fj a (by omega)⟩, congrFun (fr 6 (by omega)) 1, congrFun (fr 0 (by omega)) 4, congrFun (fr 60 (by omega)) 1⟩
theorem K_item {tp i : Int32} {v : Int64} (h : cINV S I J w0 w1 w2 bl) : qMet E y_On_item b_On_item 6 (some .int) 2 0 0 [.ref (qb E + 0), .int tp, .int i, .long v] S I J (fun u S' I' J' => ((u = some (.int (ca_item I tp i)) ∧ I' = I ∧ J' = cj_item I J tp i v) ∧ cW S S' I I') ∧ KQ0 S I J (cT I) u S' I' J') := by
  have h0 := h
  have hw4 := h.w4
  obtain ⟨hO, hZ, hN, ⟨e0, e1, e2, eb, s0, s2, s3⟩, hd⟩ := h
  obtain ⟨hok, hI0, hI2, hah, him, hig, hrd, hts, hh⟩ := id hd
  obtain ⟨c, hc6, hc⟩ := hok.1
  obtain ⟨l, hl6, hl⟩ := hok.2.1
  obtain ⟨d, hd9, hdd⟩ := hok.2.2.1
  obtain ⟨z1, y1, x1⟩ := hok.2.2.2.1
  obtain ⟨z2, y2, x2⟩ := hok.2.2.2.2.1
  obtain ⟨z3, y3, x3⟩ := hok.2.2.2.2.2.1
  refine (c_On_item hO hts).px (fun u S' I' J' hq => ⟨⟨hq.1, hq.2.2.1.symm, hq.2.2.2⟩, (by obtain ⟨-, rfl, rfl, -⟩ := hq; exact cW.rf)⟩) (fun v S' I' J' hq => ?_)
  obtain ⟨-, rfl, rfl, hJ'⟩ := hq
  have fj : ∀ a, 114 ≤ a → J' a = J a := fun a ha => by
    rw [hJ']; unfold cj_item
    split
    · rfl
    · rename_i c1
      obtain ⟨t, ht, rfl⟩ := qtape_y c1
      have ec : ctp (nI t) = 102 + 2 * t := by unfold ctp; rw [qcl (by omega)]
      rw [ec]
      split
      · rfl
      · split
        · rfl
        · rw [qup_row (by omega)]
  exact ⟨⟨_, _, _, _, h0.new hd (fun a ha => rfl) fj⟩, id, fun a a1 a2 => ⟨rfl, fj a a1⟩, rfl, rfl, rfl⟩
theorem K_shift {tp i tq j n : Int32} (h : cINV S I J w0 w1 w2 bl) : qMet E y_On_shift b_On_shift 8 (some .int) 2 0 0 [.ref (qb E + 0), .int tp, .int i, .int tq, .int j, .int n] S I J (fun u S' I' J' => ((u = some (.int (ca_shift I tp i tq j n)) ∧ I' = I ∧ J' = cj_shift I J tp i tq j n) ∧ cW S S' I I') ∧ KQ0 S I J (cT I) u S' I' J') := by
  have h0 := h
  have hw4 := h.w4
  obtain ⟨hO, hZ, hN, ⟨e0, e1, e2, eb, s0, s2, s3⟩, hd⟩ := h
  obtain ⟨hok, hI0, hI2, hah, him, hig, hrd, hts, hh⟩ := id hd
  obtain ⟨c, hc6, hc⟩ := hok.1
  obtain ⟨l, hl6, hl⟩ := hok.2.1
  obtain ⟨d, hd9, hdd⟩ := hok.2.2.1
  obtain ⟨z1, y1, x1⟩ := hok.2.2.2.1
  obtain ⟨z2, y2, x2⟩ := hok.2.2.2.2.1
  obtain ⟨z3, y3, x3⟩ := hok.2.2.2.2.2.1
  refine (c_On_shift hO hts).px (fun u S' I' J' hq => ⟨⟨hq.1, hq.2.2.1.symm, hq.2.2.2⟩, (by obtain ⟨-, rfl, rfl, -⟩ := hq; exact cW.rf)⟩) (fun v S' I' J' hq => ?_)
  obtain ⟨-, rfl, rfl, hJ'⟩ := hq
  have fj : ∀ a, 114 ≤ a → J' a = J a := fun a ha => by
    rw [hJ']; unfold cj_shift
    (repeat' split) <;> first
      | rfl
      | (rename_i c1 c2 _ _ _ _ _
         obtain ⟨u, hu, rfl⟩ := qtape_y c2
         have ec : ctp (nI u) = 102 + 2 * u := by unfold ctp; rw [qcl (by omega)]
         rw [ec]
         exact qrow_ne (by omega))
  exact ⟨⟨_, _, _, _, h0.new hd (fun a ha => rfl) fj⟩, id, fun a a1 a2 => ⟨rfl, fj a a1⟩, rfl, rfl, rfl⟩
end H12
