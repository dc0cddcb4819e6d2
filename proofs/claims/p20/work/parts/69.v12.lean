/-! the object's calls keep its invariant: mourners, texts, tapes, acts, days -/
theorem cDat.rd {I I' : qI} {w0 w2 : Nat} (h : cDat I w0 w2) (hr : cRd I') (hf : ∀ a, cR w0 w2 a → a ≠ 87 → a ≠ 88 → I' a = I a) (e0 : qW1 w0) (e2 : qW1 w2) : cDat I' w0 w2 := by
  obtain ⟨h1, h2, h3, h4, h5, h6, h7, h8, h9⟩ := h
  unfold qW1 at e0 e2
  unfold cR at hf
  refine ⟨h1.fr2 (fun a a1 a2 => hf a (by omega) (by omega) (by omega)), h2.of (hf _ (by omega) (by omega) (by omega)) (hf _ (by omega) (by omega) (by omega)), h3.of (hf _ (by omega) (by omega) (by omega)) (hf _ (by omega) (by omega) (by omega)), h4.fr (fun a a1 a2 => hf a (by omega) (by omega) (by omega)), h5.fr (fun a a1 a2 => hf a (by omega) (by omega) (by omega)), ?_, hr, h8.fr (fun a a1 a2 => hf a (by omega) (by omega) (by omega)), ?_⟩
  · rw [hf 0 (by omega) (by omega) (by omega)]
    rcases h6 with q | ⟨q, q2⟩
    · exact Or.inl q
    · exact Or.inr ⟨q, q2.fr2 (fun a a1 a2 => hf a (by omega) (by omega) (by omega))⟩
  · rw [hf 0 (by omega) (by omega) (by omega)]; exact h9
theorem cDat.tp {I I' : qI} {w0 w2 : Nat} (h : cDat I w0 w2) (ht : cTs I') (hf : ∀ a, cR w0 w2 a → (a < 102 ∨ 113 < a) → I' a = I a) (e0 : qW1 w0) (e2 : qW1 w2) : cDat I' w0 w2 := by
  obtain ⟨h1, h2, h3, h4, h5, h6, h7, h8, h9⟩ := h
  unfold qW1 at e0 e2
  unfold cR at hf
  refine ⟨h1.fr2 (fun a a1 a2 => hf a (by omega) (by omega)), h2.of (hf _ (by omega) (by omega)) (hf _ (by omega) (by omega)), h3.of (hf _ (by omega) (by omega)) (hf _ (by omega) (by omega)), h4.fr (fun a a1 a2 => hf a (by omega) (by omega)), h5.fr (fun a a1 a2 => hf a (by omega) (by omega)), ?_, h7.fr (by rw [hf 87 (by omega) (by omega)]) (hf 88 (by omega) (by omega)), ht, ?_⟩
  · rw [hf 0 (by omega) (by omega)]
    rcases h6 with q | ⟨q, q2⟩
    · exact Or.inl q
    · exact Or.inr ⟨q, q2.fr2 (fun a a1 a2 => hf a (by omega) (by omega))⟩
  · rw [hf 0 (by omega) (by omega)]; exact h9
section H12
variable {E : qE} {S : qSh} {I : qI} {J : qJ} {w0 w1 w2 bl : Nat}
theorem K_mourner {kd v g : Int32} {c0 : Nat} (h : cINV S I J w0 w1 w2 bl) (hc0 : I 6 1 = nI c0) (hc06 : c0 ≤ 6) : qMet E y_On_mourner b_On_mourner 4 (some .int) 1 0 0 [.ref (qb E + 0), .int kd, .int v, .int g] S I J (fun r S' I' J' => ((r = some (.int (aMourner c0 kd v g)) ∧ I' = cMournerI I c0 kd v g ∧ J' = J) ∧ cW S S' I I') ∧ KQ0 S I J (fun I' => I' 6 1 = (if qwithin kd 0 6 = 0 then nI c0 else if qwithin v 0 9 = 0 then nI c0 else if qwithin g 0 99 = 0 then nI c0 else if c0 < 6 then nI (c0 + 1) else nI c0) ∧ I' 0 4 = I 0 4 ∧ I' 60 1 = I 60 1) r S' I' J') := by
  have h0 := h
  have hw4 := h.w4
  obtain ⟨hO, hZ, hN, ⟨e0, e1, e2, eb, s0, s2, s3⟩, hd⟩ := h
  obtain ⟨hok, hI0, hI2, hah, him, hig, hrd, hts, hh⟩ := id hd
  obtain ⟨c, hc6, hc⟩ := hok.1
  obtain ⟨l, hl6, hl⟩ := hok.2.1
  obtain ⟨d, hd9, hdd⟩ := hok.2.2.1
  obtain ⟨z1, y1, x1⟩ := hok.2.2.2.1
  obtain ⟨z2, y2, x2⟩ := hok.2.2.2.2.1
  obtain ⟨z3, y3, x3⟩ := hok.2.2.2.2.2.1
  refine (c_On_mourner hO hc0 hc06).post (fun r S' I' J' hq => ?_)
  obtain ⟨rfl, rfl, hI', rfl⟩ := hq
  have ok := ok_mourner (I := I) (c := c0) (kd := kd) (v := v) (g := g) hok hc0
  rw [← hI'] at ok
  have e0' := e0
  have e2' := e2
  unfold qW1 at e0' e2'
  have fr : ∀ a, (a < 6 ∨ 32 < a) → I' a = I a := fun a ha => ok.2.1 a ha
  exact ⟨⟨⟨rfl, hI', rfl⟩, cW.of hO e0 e2 rfl (fun a ha => by rw [hI']; exact ci_mo_fr hc06 (by omega) (by omega))⟩, ⟨_, _, _, _, h0.new (hd.on6 ok.1 (fun a _ h3 => fr a h3) e0 e2) (fun a ha => fr a (by omega)) (fun _ _ => rfl)⟩, id, fun a a1 a2 => ⟨fr a (by omega), rfl⟩, ok.2.2, congrFun (fr 0 (by omega)) 4, congrFun (fr 60 (by omega)) 1⟩
theorem K_feed {x : Int32} (h : cINV S I J w0 w1 w2 bl) : qMet E y_On_feed b_On_feed 2 (some .int) 1 0 0 [.ref (qb E + 0), .int x] S I J (fun u S' I' J' => ((∃ z, z ≤ 100 ∧ I 87 1 = nI z ∧ u = some (.int (ca_feed z x)) ∧ I' = ci_feed I z x ∧ J' = J) ∧ cW S S' I I') ∧ KQ0 S I J (cT I) u S' I' J') := by
  have h0 := h
  have hw4 := h.w4
  obtain ⟨hO, hZ, hN, ⟨e0, e1, e2, eb, s0, s2, s3⟩, hd⟩ := h
  obtain ⟨hok, hI0, hI2, hah, him, hig, hrd, hts, hh⟩ := id hd
  obtain ⟨c, hc6, hc⟩ := hok.1
  obtain ⟨l, hl6, hl⟩ := hok.2.1
  obtain ⟨d, hd9, hdd⟩ := hok.2.2.1
  obtain ⟨z1, y1, x1⟩ := hok.2.2.2.1
  obtain ⟨z2, y2, x2⟩ := hok.2.2.2.2.1
  obtain ⟨z3, y3, x3⟩ := hok.2.2.2.2.2.1
  obtain ⟨z, zz, hz, hb⟩ := hrd
  refine (c_On_feed hO hz zz).px (fun u S' I' J' hq => ⟨⟨z, zz, hz, hq.1, hq.2.2.1, hq.2.2.2.symm⟩, cW.of hO e0 e2 hq.2.1 (fun a ha => by rw [hq.2.2.1]; exact ci_feed_fr (by omega) (by omega))⟩) (fun v S' I' J' hq => ?_)
  obtain ⟨-, rfl, hI', rfl⟩ := hq
  have e0' := e0
  have e2' := e2
  unfold qW1 at e0' e2'
  have fr : ∀ a, a ≠ 87 → a ≠ 88 → I' a = I a := fun a a1 a2 => by
    rw [hI']; unfold ci_feed
    split
    · rfl
    · split
      · rw [qup_row a1, qup_row a2]
      · rfl
  have rd : cRd I' := by
    rw [hI']; unfold ci_feed
    split
    · exact ⟨z, zz, hz, hb⟩
    · rename_i c1
      split
      · rename_i c2
        refine ⟨z + 1, by omega, qup_at, fun j hj => ?_⟩
        rw [qup_o (by decide)]
        by_cases e : j = z
        · subst e; rw [qup_at]; exact qw127 c1
        · rw [qup_j e]; exact hb j (by omega)
      · exact ⟨z, zz, hz, hb⟩
  exact ⟨⟨_, _, _, _, h0.new (hd.rd rd (fun a _ h3 h4 => fr a h3 h4) e0 e2) (fun a ha => fr a (by omega) (by omega)) (fun _ _ => rfl)⟩, id, fun a a1 a2 => ⟨fr a (by omega) (by omega), rfl⟩, congrFun (fr 6 (by omega) (by omega)) 1, congrFun (fr 0 (by omega) (by omega)) 4, congrFun (fr 60 (by omega) (by omega)) 1⟩
theorem K_act {x a y : Int32} (h : cINV S I J w0 w1 w2 bl) : qMet E y_On_act b_On_act 5 (some .int) 25 0 0 [.ref (qb E + 0), .int x, .int a, .int y] S I J (fun u S' I' J' => ((∃ c, c ≤ 6 ∧ I 6 1 = nI c ∧ u = some (.int (ca_act I c x a y).1) ∧ I' = qtrace (qup I 99 1 0) (ca_act I c x a y).2 ∧ J' = J) ∧ cW S S' I I') ∧ KQ0 S I J (cT I) u S' I' J') := by
  have h0 := h
  have hw4 := h.w4
  obtain ⟨hO, hZ, hN, ⟨e0, e1, e2, eb, s0, s2, s3⟩, hd⟩ := h
  obtain ⟨hok, hI0, hI2, hah, him, hig, hrd, hts, hh⟩ := id hd
  obtain ⟨c, hc6, hc⟩ := hok.1
  obtain ⟨l, hl6, hl⟩ := hok.2.1
  obtain ⟨d, hd9, hdd⟩ := hok.2.2.1
  obtain ⟨z1, y1, x1⟩ := hok.2.2.2.1
  obtain ⟨z2, y2, x2⟩ := hok.2.2.2.2.1
  obtain ⟨z3, y3, x3⟩ := hok.2.2.2.2.2.1
  refine (c_On_actX hO hc hc6).px (fun u S' I' J' hq => ⟨⟨c, hc6, hc, hq.1, hq.2.2.2.2, hq.2.2.2.1.symm⟩, cW.of hO e0 e2 hq.2.1 (fun a ha => hq.2.2.1 a (by omega))⟩) (fun v S' I' J' hq => ?_)
  obtain ⟨-, rfl, fr, rfl, -⟩ := hq
  have e0' := e0
  have e2' := e2
  unfold qW1 at e0' e2'
  refine ⟨⟨_, _, _, _, h0.new (hd.fr (fun a ha => fr a ?_) e0 e2) (fun a ha => fr a ?_) (fun a ha => rfl)⟩, id, fun a a1 a2 => ⟨fr a ?_, rfl⟩, congrFun (fr 6 ?_) 1, congrFun (fr 0 ?_) 4, congrFun (fr 60 ?_) 1⟩
  · unfold cR at ha; omega
  all_goals omega
theorem K_tape {tp s n : Int32} (h : cINV S I J w0 w1 w2 bl) : qMet E y_On_tape b_On_tape 4 (some .int) 2 0 0 [.ref (qb E + 0), .int tp, .int s, .int n] S I J (fun u S' I' J' => ((u = some (.int (ca_tape tp s n)) ∧ I' = ci_tape I tp s n ∧ J' = cj_tape J tp s n) ∧ cW S S' I I') ∧ KQ0 S I J (cT I) u S' I' J') := by
  have h0 := h
  have hw4 := h.w4
  obtain ⟨hO, hZ, hN, ⟨e0, e1, e2, eb, s0, s2, s3⟩, hd⟩ := h
  obtain ⟨hok, hI0, hI2, hah, him, hig, hrd, hts, hh⟩ := id hd
  obtain ⟨c, hc6, hc⟩ := hok.1
  obtain ⟨l, hl6, hl⟩ := hok.2.1
  obtain ⟨d, hd9, hdd⟩ := hok.2.2.1
  obtain ⟨z1, y1, x1⟩ := hok.2.2.2.1
  obtain ⟨z2, y2, x2⟩ := hok.2.2.2.2.1
  obtain ⟨z3, y3, x3⟩ := hok.2.2.2.2.2.1
  refine (c_On_tape hO).px (fun u S' I' J' hq => ⟨⟨hq.1, hq.2.2.1, hq.2.2.2⟩, cW.of hO e0 e2 hq.2.1 (fun a ha => by rw [hq.2.2.1]; exact ci_tape_fr (by omega))⟩) (fun v S' I' J' hq => ?_)
  obtain ⟨-, rfl, hI', hJ'⟩ := hq
  have e0' := e0
  have e2' := e2
  unfold qW1 at e0' e2'
  have key : ((∀ a, (a < 102 ∨ 113 < a) → I' a = I a) ∧ ∀ a, (a < 102 ∨ 113 < a) → J' a = J a) ∧ cTs I' := by
    rw [hI', hJ']
    unfold ci_tape cj_tape
    split
    · exact ⟨⟨fun _ _ => rfl, fun _ _ => rfl⟩, hts⟩
    · rename_i c1
      obtain ⟨t, ht, rfl⟩ := qtape_y c1
      have ec : ctp (nI t) = 102 + 2 * t := by unfold ctp; rw [qcl (by omega)]
      rw [ec]
      have fj : ∀ a, (a < 102 ∨ 113 < a) → qfilJ J (102 + 2 * t + 1) 60 (fun _ => 0) a = J a := fun a ha => by funext k; unfold qfilJ; rw [if_neg (by omega)]
      have fi : ∀ (x y : Int32) a, (a < 102 ∨ 113 < a) → qup (qup I (102 + 2 * t) 0 x) (102 + 2 * t) 1 y a = I a := fun x y a ha => by rw [qup_row (by omega), qup_row (by omega)]
      have ts : ∀ (x y : Int32), (∃ z, z ≤ 60 ∧ y = nI z) → cTs (qup (qup I (102 + 2 * t) 0 x) (102 + 2 * t) 1 y) := fun x y hy u hu => by
        by_cases e : u = t
        · subst e; rw [qup_at]; exact hy
        · rw [qup_o (by omega), qup_o (by omega)]; exact hts u hu
      split
      · exact ⟨⟨fi _ _, fj⟩, ts _ _ ⟨0, by omega, rfl⟩⟩
      · split
        · exact ⟨⟨fun _ _ => rfl, fun _ _ => rfl⟩, hts⟩
        · split
          · rename_i c4
            split
            · rename_i c5
              obtain ⟨k, k1, k2⟩ := nI_of2 (M := 60) (n := 60) rfl (Int32.not_lt.mpr c5) c4
              exact ⟨⟨fi _ _, fj⟩, ts _ _ ⟨k, k1, k2⟩⟩
            · exact ⟨⟨fun _ _ => rfl, fun _ _ => rfl⟩, hts⟩
          · exact ⟨⟨fun _ _ => rfl, fun _ _ => rfl⟩, hts⟩
  obtain ⟨⟨fr, fj⟩, ts⟩ := key
  exact ⟨⟨_, _, _, _, h0.new (hd.tp ts (fun a _ h3 => fr a h3) e0 e2) (fun a ha => fr a (by omega)) (fun a ha => fj a (by omega))⟩, id, fun a a1 a2 => ⟨fr a (by omega), fj a (by omega)⟩, congrFun (fr 6 (by omega)) 1, congrFun (fr 0 (by omega)) 4, congrFun (fr 60 (by omega)) 1⟩
theorem K_item {tp i : Int32} {v : Int64} (h : cINV S I J w0 w1 w2 bl) : qMet E y_On_item b_On_item 6 (some .int) 2 0 0 [.ref (qb E + 0), .int tp, .int i, .long v] S I J (fun u S' I' J' => ((u = some (.int (ca_item I tp i)) ∧ I' = I ∧ J' = cj_item I J tp i v) ∧ cW S S' I I') ∧ KQ0 S I J (cT I) u S' I' J') := by
  have h0 := h
  have hw4 := h.w4
  obtain ⟨hO, hZ, hN, ⟨e0, e1, e2, eb, s0, s2, s3⟩, hd⟩ := h
  obtain ⟨hok, hI0, hI2, hah, him, hig, hrd, hts, hh⟩ := id hd
  obtain ⟨c, hc6, hc⟩ := hok.1
  obtain ⟨l, hl6, hl⟩ := hok.2.1
  obtain ⟨d, hd9, hdd⟩ := hok.2.2.1
  obtain ⟨z1, y1, x1⟩ := hok.2.2.2.1
  obtain ⟨z2, y2, x2⟩ := hok.2.2.2.2.1
  obtain ⟨z3, y3, x3⟩ := hok.2.2.2.2.2.1
  refine (c_On_item hO hts).px (fun u S' I' J' hq => ⟨⟨hq.1, hq.2.2.1.symm, hq.2.2.2⟩, (by obtain ⟨-, rfl, rfl, -⟩ := hq; exact cW.rf)⟩) (fun v S' I' J' hq => ?_)
  obtain ⟨-, rfl, rfl, hJ'⟩ := hq
  have fj : ∀ a, 114 ≤ a → J' a = J a := fun a ha => by
    rw [hJ']; unfold cj_item
    split
    · rfl
    · rename_i c1
      obtain ⟨t, ht, rfl⟩ := qtape_y c1
      have ec : ctp (nI t) = 102 + 2 * t := by unfold ctp; rw [qcl (by omega)]
      rw [ec]
      split
      · rfl
      · split
        · rfl
        · rw [qup_row (by omega)]
  exact ⟨⟨_, _, _, _, h0.new hd (fun a ha => rfl) fj⟩, id, fun a a1 a2 => ⟨rfl, fj a a1⟩, rfl, rfl, rfl⟩
theorem K_shift {tp i tq j n : Int32} (h : cINV S I J w0 w1 w2 bl) : qMet E y_On_shift b_On_shift 8 (some .int) 2 0 0 [.ref (qb E + 0), .int tp, .int i, .int tq, .int j, .int n] S I J (fun u S' I' J' => ((u = some (.int (ca_shift I tp i tq j n)) ∧ I' = I ∧ J' = cj_shift I J tp i tq j n) ∧ cW S S' I I') ∧ KQ0 S I J (cT I) u S' I' J') := by
  have h0 := h
  have hw4 := h.w4
  obtain ⟨hO, hZ, hN, ⟨e0, e1, e2, eb, s0, s2, s3⟩, hd⟩ := h
  obtain ⟨hok, hI0, hI2, hah, him, hig, hrd, hts, hh⟩ := id hd
  obtain ⟨c, hc6, hc⟩ := hok.1
  obtain ⟨l, hl6, hl⟩ := hok.2.1
  obtain ⟨d, hd9, hdd⟩ := hok.2.2.1
  obtain ⟨z1, y1, x1⟩ := hok.2.2.2.1
  obtain ⟨z2, y2, x2⟩ := hok.2.2.2.2.1
  obtain ⟨z3, y3, x3⟩ := hok.2.2.2.2.2.1
  refine (c_On_shift hO hts).px (fun u S' I' J' hq => ⟨⟨hq.1, hq.2.2.1.symm, hq.2.2.2⟩, (by obtain ⟨-, rfl, rfl, -⟩ := hq; exact cW.rf)⟩) (fun v S' I' J' hq => ?_)
  obtain ⟨-, rfl, rfl, hJ'⟩ := hq
  have fj : ∀ a, 114 ≤ a → J' a = J a := fun a ha => by
    rw [hJ']; unfold cj_shift
    (repeat' split) <;> first
      | rfl
      | (rename_i c1 c2 _ _ _ _ _
         obtain ⟨u, hu, rfl⟩ := qtape_y c2
         have ec : ctp (nI u) = 102 + 2 * u := by unfold ctp; rw [qcl (by omega)]
         rw [ec]
         exact qrow_ne (by omega))
  exact ⟨⟨_, _, _, _, h0.new hd (fun a ha => rfl) fj⟩, id, fun a a1 a2 => ⟨rfl, fj a a1⟩, rfl, rfl, rfl⟩
end H12
/-! the object's calls keep its invariant: days, the image, islands -/
section H13
variable {E : qE} {S : qSh} {I : qI} {J : qJ} {w0 w1 w2 bl : Nat}
theorem K_pass {n : Int32} (h : cINV S I J w0 w1 w2 bl) : qMet E y_On_pass b_On_pass 2 (some .int) 5 0 0 [.ref (qb E + 0), .int n] S I J (fun u S' I' J' => ((∃ d w, d ≤ 9999 ∧ I 6 4 = nI d ∧ qW1 w ∧ qMgOK I 6 9999 ∧ u = some (.int (ca_pass I d n)) ∧ qEq (w + 4) (ci_pass I w d n) I' ∧ J' = J) ∧ cW S S' I I' ∧ ∃ d w, d ≤ 9999 ∧ I 6 4 = nI d ∧ qR S 6 5 = some w ∧ qEq (w + 4) (ci_pass I w d n) I') ∧ KQ0 S I J (cT I) u S' I' J') := by
  have h0 := h
  have hw4 := h.w4
  obtain ⟨hO, hZ, hN, ⟨e0, e1, e2, eb, s0, s2, s3⟩, hd⟩ := h
  obtain ⟨hok, hI0, hI2, hah, him, hig, hrd, hts, hh⟩ := id hd
  obtain ⟨c, hc6, hc⟩ := hok.1
  obtain ⟨l, hl6, hl⟩ := hok.2.1
  obtain ⟨d, hd9, hdd⟩ := hok.2.2.1
  obtain ⟨z1, y1, x1⟩ := hok.2.2.2.1
  obtain ⟨z2, y2, x2⟩ := hok.2.2.2.2.1
  obtain ⟨z3, y3, x3⟩ := hok.2.2.2.2.2.1
  have e0' := e0
  have e2' := e2
  unfold qW1 at e0' e2'
  have hap : qApart 6 w0 := by unfold qApart; omega
  refine (c_On_pass hO hok hI0 hap hdd hd9).px (fun u S' I' J' hq => ⟨⟨d, w0, hd9, hdd, e0, hok, hq.1, hq.2.2.1, hq.2.2.2.symm⟩, cW.ps hO e0 e2 s3 hq.2.1 hq.2.2.1 hok, d, w0, hd9, hdd, hO.p6.1, hq.2.2.1⟩) (fun v S' I' J' hq => ?_)
  obtain ⟨-, rfl, he, rfl⟩ := hq
  have key : qMgOK I' 6 9999 ∧ (∀ a, (a < 6 ∨ 32 < a) → a ≠ w0 + 4 → I' a = I a) ∧ I' 6 1 = I 6 1 := by
    have id1 : qEq (w0 + 4) I I' → qMgOK I' 6 9999 ∧ (∀ a, (a < 6 ∨ 32 < a) → a ≠ w0 + 4 → I' a = I a) ∧ I' 6 1 = I 6 1 := fun he => ⟨hok.eq hap he, fun a _ h2 => he a h2, congrFun (he 6 (by omega)) 1⟩
    unfold ci_pass at he
    split at he
    · exact id1 he
    · rename_i c1
      obtain ⟨g1, g2⟩ := qwithin_y c1
      obtain ⟨k, k1, rfl⟩ := nI_of2 (M := 60) (n := 60) rfl (Int32.not_lt.mpr g1) g2
      split at he
      · rename_i c2
        rw [nI_add] at c2
        have hdk : d + k ≤ 9999 := (nI_leI (by omega) (by omega)).mp (show nI (d + k) ≤ nI 9999 from c2)
        rw [qcl (n := k) (by omega)] at he
        refine ⟨((hok.goN k).eq hap he).day ⟨d + k, hdk, ?_⟩, fun a h1 h2 => ?_, ?_⟩
        · rw [he 6 (by omega)]; exact qgoN_day hdd k
        · rw [he a h2]; exact qgoN_row hok (by omega) k
        · rw [he 6 (by omega)]; exact qgoN_o (by decide) k
      · exact id1 he
  obtain ⟨ok, fr, t1⟩ := key
  refine ⟨⟨_, _, _, _, h0.new (hd.on6 ok (fun a ha h3 => fr a h3 ?_) e0 e2) (fun a ha => fr a (by omega) (by omega)) (fun _ _ => rfl)⟩, id, fun a a1 a2 => ⟨fr a (by omega) (by omega), rfl⟩, t1, congrFun (fr 0 (by omega) (by omega)) 4, congrFun (fr 60 (by omega) (by omega)) 1⟩
  unfold cR at ha; omega
theorem isMd.set5 {o w : Nat} (h : isMd S) (ho : o ≠ 114) : isMd (qsetR S o 5 (some w)) := ⟨h.1, fun t ht => ⟨(show qup (qR S) o 5 (some w) 114 t.1 = some t.2.1 from (qup_o (Ne.symm ho)).trans (h.2 t ht).1), (h.2 t ht).2⟩⟩
theorem K_image {c0 : Nat} (h : cINV S I J w0 w1 w2 bl) (hc0 : I 6 1 = nI c0) (hc06 : c0 ≤ 6) : qMet E y_On_image b_On_image 1 (some .int) 3 0 0 [.ref (qb E + 0)] S I J (fun r S' I' J' => ((r = some (.int (nI c0)) ∧ I' = qup (qmbec I 60 6) 0 4 1 ∧ J' = J ∧ qMgOK I 6 9999) ∧ cWi S S' I I') ∧ KQ0 S I J (fun I' => I' 6 1 = nI c0 ∧ I' 0 4 = 1 ∧ I' 60 1 = nI c0) r S' I' J') := by
  have h0 := h
  have hw4 := h.w4
  obtain ⟨hO, hZ, hN, ⟨e0, e1, e2, eb, s0, s2, s3⟩, hd⟩ := h
  obtain ⟨hok, hI0, hI2, hah, him, hig, hrd, hts, hh⟩ := id hd
  obtain ⟨c, hc6, hc⟩ := hok.1
  obtain ⟨l, hl6, hl⟩ := hok.2.1
  obtain ⟨d, hd9, hdd⟩ := hok.2.2.1
  obtain ⟨z1, y1, x1⟩ := hok.2.2.2.1
  obtain ⟨z2, y2, x2⟩ := hok.2.2.2.2.1
  obtain ⟨z3, y3, x3⟩ := hok.2.2.2.2.2.1
  refine (c_On_image hO hok hc0 hc06).post (fun v S' I' J' hq => ?_)
  obtain ⟨rfl, rfl, rfl, rfl⟩ := hq
  have e0' := e0
  unfold qW1 at e0'
  have b1 : isMg S 6 w0 := hO.2.2.2.2.2.2.2.2.2.2.2.1
  have ap : qApM 60 6 := by unfold qApM; omega
  have q : ∀ a, a ≠ 0 → (a < 60 ∨ 86 < a) → qup (qmbec I 60 6) 0 4 1 a = I a := fun a a0 ha => by rw [qup_row a0, qmbec_row hok (by omega)]
  have q0 : ∀ j, j ≠ 4 → qup (qmbec I 60 6) 0 4 1 0 j = I 0 j := fun j hj => by rw [qup_j hj, qmbec_row hok (by omega)]
  have ok60 : qMgOK (qup (qmbec I 60 6) 0 4 1) 60 9999 := (qmbec_ok hok ap him.1 him.2).fr2 (fun a a1 a2 => qup_row (by omega))
  have dat : cDat (qup (qmbec I 60 6) 0 4 1) w0 w0 := by
    have is0 : qIsOK (qup (qmbec I 60 6) 0 4 1) w0 := hI0.of (q _ (by omega) (by omega)) (q _ (by omega) (by omega))
    refine ⟨hok.fr2 (fun a a1 a2 => q a (by omega) (by omega)), is0, is0, hah.fr (fun a a1 a2 => q a (by omega) (by omega)), ok60.im, Or.inr ⟨qup_at, ok60⟩, hrd.fr (by rw [q 87 (by omega) (by omega)]) (q 88 (by omega) (by omega)), hts.fr (fun a a1 a2 => q a (by omega) (by omega)), ?_⟩
    rw [q0 7 (by decide)]; exact hh
  have cwi : cWi S (qsetR S 60 5 (some w0)) I (qup (qmbec I 60 6) 0 4 1) := by
    have p6 := hO.p6.1
    refine ⟨show qup (qR S) 60 5 (some w0) 6 5 = qR S 6 5 from qup_o (by decide), (show qup (qR S) 60 5 (some w0) 60 5 = some w0 from qup_at).trans p6.symm, fun w hw b hb => ?_⟩
    rw [p6] at hw
    obtain rfl := Option.some.inj hw
    exact q _ (by omega) (by omega)
  refine ⟨⟨⟨rfl, rfl, rfl, hok⟩, cwi⟩, ⟨w0, w1, w0, bl, hO.set60 b1.is, fun a ha => ⟨?_, (hZ a ha).2⟩, hN, ⟨e0, e1, e0, eb, s0, s0, Or.inl rfl⟩, dat⟩, fun hM => hM.set5 (by decide), fun a a1 a2 => ⟨q a (by omega) (by omega), rfl⟩, ?_, qup_at, ?_⟩
  · have ha' : qN S ≤ a := ha
    rw [q a (by omega) (by omega)]; exact (hZ a ha).1
  · rw [q 6 (by omega) (by omega)]; exact hc0
  · rw [qup_o (by decide)]; exact qmbec_1 hc0 hc06
theorem K_undo0 (h : cINV S I J w0 w1 w2 bl) (hz : I 0 4 = 0) : qMet E y_On_undo b_On_undo 1 (some .int) 3 0 0 [.ref (qb E + 0)] S I J (fun u S' I' J' => ((u = some (.int (-3)) ∧ cU I I' J J') ∧ cW S S' I I') ∧ KQ0 S I J (cT I) u S' I' J') := by
  refine (c_On_undo0 h.1 hz).px (fun u S' I' J' hq => ⟨(by obtain ⟨h, -, rfl, rfl⟩ := hq; exact ⟨h, cU.rf⟩), (by obtain ⟨-, rfl, rfl, -⟩ := hq; exact cW.rf)⟩) (fun v S' I' J' hq => ?_)
  obtain ⟨-, rfl, rfl, rfl⟩ := hq
  exact ⟨⟨_, _, _, _, h⟩, id, fun _ _ _ => ⟨rfl, rfl⟩, rfl, rfl, rfl⟩
theorem K_undo1 (h : cINV S I J w0 w1 w2 bl) (hz : I 0 4 = 1) : qMet E y_On_undo b_On_undo 1 (some .int) 3 0 0 [.ref (qb E + 0)] S I J (fun u S' I' J' => ((u = some (.int (I 60 1)) ∧ I' = qmbec I 6 60 ∧ J' = J ∧ qMgOK I 60 9999) ∧ cWu S S' I I') ∧ KQ0 S I J (fun I' => I' 6 1 = I 60 1 ∧ I' 0 4 = 1 ∧ I' 60 1 = I 60 1) u S' I' J') := by
  have h0 := h
  have hw4 := h.w4
  obtain ⟨hO, hZ, hN, ⟨e0, e1, e2, eb, s0, s2, s3⟩, hd⟩ := h
  obtain ⟨hok, hI0, hI2, hah, him, hig, hrd, hts, hh⟩ := id hd
  obtain ⟨c, hc6, hc⟩ := hok.1
  obtain ⟨l, hl6, hl⟩ := hok.2.1
  obtain ⟨d, hd9, hdd⟩ := hok.2.2.1
  obtain ⟨z1, y1, x1⟩ := hok.2.2.2.1
  obtain ⟨z2, y2, x2⟩ := hok.2.2.2.2.1
  obtain ⟨z3, y3, x3⟩ := hok.2.2.2.2.2.1
  have ok60 : qMgOK I 60 9999 := by
    rcases hig with q | q
    · rw [hz] at q; exact absurd q (by decide)
    · exact q.2
  obtain ⟨k, k6, hk⟩ := ok60.1
  refine (c_On_undo1 hO hz ok60 hk k6).px (fun u S' I' J' hq => ⟨⟨hq.1.trans (by rw [hk]), hq.2.2.1, hq.2.2.2.symm, ok60⟩, by
    obtain ⟨-, rfl, rfl, -⟩ := hq
    have p60 := hO.p6.2
    have e2' := e2
    unfold qW1 at e2'
    refine ⟨(show qup (qR S) 6 5 (some w2) 6 5 = some w2 from qup_at).trans p60.symm, show qup (qR S) 6 5 (some w2) 60 5 = qR S 60 5 from qup_o (by decide), fun w hw b hb => ?_⟩
    rw [p60] at hw
    obtain rfl := Option.some.inj hw
    exact qmbec_row ok60 (by omega)⟩) (fun v S' I' J' hq => ?_)
  obtain ⟨-, rfl, rfl, rfl⟩ := hq
  have e2' := e2
  unfold qW1 at e2'
  have b3 : isMg S 60 w2 := hO.2.2.2.2.2.2.2.2.2.2.2.2.2.1
  have ap : qApM 6 60 := by unfold qApM; omega
  have q : ∀ a, (a < 6 ∨ 32 < a) → qmbec I 6 60 a = I a := fun a ha => qmbec_row ok60 (by omega)
  have ok6 : qMgOK (qmbec I 6 60) 6 9999 := qmbec_ok ok60 ap hok.2.2.2.2.2.2.1 hok.2.2.2.2.2.2.2
  have dat : cDat (qmbec I 6 60) w2 w2 := by
    have is0 : qIsOK (qmbec I 6 60) w2 := hI2.of (q _ (by omega)) (q _ (by omega))
    have k60 : qMgOK (qmbec I 6 60) 60 9999 := ok60.fr2 (fun a a1 a2 => q a (by omega))
    refine ⟨ok6, is0, is0, hah.fr (fun a a1 a2 => q a (by omega)), k60.im, Or.inr ⟨by rw [q 0 (by omega)]; exact hz, k60⟩, hrd.fr (by rw [q 87 (by omega)]) (q 88 (by omega)), hts.fr (fun a a1 a2 => q a (by omega)), ?_⟩
    rw [q 0 (by omega)]; exact hh
  refine ⟨⟨w2, w1, w2, bl, hO.set6 b3.is, fun a ha => ⟨?_, (hZ a ha).2⟩, hN, ⟨e2, e1, e2, eb, s2, s2, Or.inl rfl⟩, dat⟩, fun hM => hM.set5 (by decide), fun a a1 a2 => ⟨q a (by omega), rfl⟩, ?_, by rw [q 0 (by omega)]; exact hz, by rw [q 60 (by omega)]⟩
  · have ha' : qN S ≤ a := ha
    rw [q a (by omega)]; exact (hZ a ha).1
  · rw [hk]; exact qmbec_1 hk k6
theorem K_island6 (h : cINV S I J w0 w1 w2 bl) (h6 : I 0 7 = 6) : qMet E y_On_island b_On_island 2 (some .int) 17 0 0 [.ref (qb E + 0)] S I J (fun u S' I' J' => ((u = some (.int (-4)) ∧ cU I I' J J') ∧ cW S S' I I') ∧ KQ0 S I J (cT I) u S' I' J') := by
  refine (c_On_island6 h.1 h6).px (fun u S' I' J' hq => ⟨⟨hq.1, by obtain ⟨-, -, rfl, rfl⟩ := hq; exact cU.rf⟩, (by obtain ⟨-, rfl, rfl, -⟩ := hq; exact cW.rf)⟩) (fun v S' I' J' hq => ?_)
  obtain ⟨-, rfl, rfl, rfl⟩ := hq
  exact ⟨⟨_, _, _, _, h⟩, id, fun _ _ _ => ⟨rfl, rfl⟩, rfl, rfl, rfl⟩
end H13
/-! the object's islands keep its invariant -/
section H14
variable {E : qE} {S : qSh} {I : qI} {J : qJ} {w0 w1 w2 bl : Nat} {f : Nat → Int32} {n : Nat}
theorem cINV.tx (h : cINV S I J w0 w1 w2 bl) : ∃ n, n ≤ 100 ∧ I 87 1 = nI n ∧ qTx I (I 88) n bl := by
  obtain ⟨hO, hZ, hN, ⟨e0, e1, e2, eb, s0, s2, s3⟩, hd⟩ := h
  obtain ⟨hok, hI0, hI2, hah, him, hig, ⟨z, zz, hz, hb⟩, hts, hh⟩ := hd
  refine ⟨z, zz, hz, hz, zz, fun j hj => ⟨rfl, ?_⟩, Or.inr (by omega)⟩
  obtain ⟨k, k1, k2⟩ := hb j hj
  rw [k2]
  exact Int32.not_lt.mp (nI_pos (by omega))
/-- what the blank holds after it was read into -/
theorem qRc.isOK {I K : qI} {o : Nat} {c : qCl} (h : qRc I o n c K) : qIsOK K o := by
  obtain ⟨h1, h2, h3, h4, h5, h6, h7⟩ := h
  refine ⟨⟨c.2.1.length, h5, h4, fun j hj => ?_⟩, ⟨c.1.2.2.length, h1.2.2.2.2.2.2.1, h1.2.2.2.2.2.1⟩⟩
  obtain ⟨-, a, b⟩ := h6 j hj
  exact ⟨_, b, a⟩
theorem cRd0 {I : qI} (h : I 87 1 = 0) : cRd I := ⟨0, by omega, h, fun j hj => absurd hj (Nat.not_lt_zero _)⟩
/-- what an island leaves as it was -/
def cIs (I I' : qI) : Prop := (∀ a, ((6 ≤ a ∧ a ≤ 86) ∨ (99 ≤ a ∧ a ≤ 113)) → I' a = I a) ∧ I' 0 4 = I 0 4 ∧ I' 87 1 = 0
/-- an island that was read is the living's; the image's is as it was -/
def cWn (S S' : qSh) (I I' : qI) (f : Nat → Int32) (n : Nat) : Prop := ∃ (o : Nat) (K : qI), qR S' 6 5 = some o ∧ qR S' 60 5 = qR S 60 5 ∧ qRc I o n (rread f n) K ∧ (∀ b, b ≤ 3 → I' (o + b) = K (o + b)) ∧ ∀ w, qR S 60 5 = some w → ∀ b, b ≤ 3 → I' (w + b) = I (w + b)
theorem K_islandF (h : cINV S I J w0 w1 w2 bl) (hx : qTx I f n bl) (h6 : ¬ I 0 7 = 6) (hr : rok (rread f n) n = 0) : qMet E y_On_island b_On_island 2 (some .int) 17 0 0 [.ref (qb E + 0)] S I J (fun u S' I' J' => ((u = some (.int (-10 - nI (rread f n).1.1)) ∧ J' = J) ∧ cW S S' I I') ∧ KQ0 S I J (fun I' => cT I I' ∧ cIs I I' ∧ I' 0 7 = I 0 7) u S' I' J') := by
  have h0 := h
  obtain ⟨hO, hZ, hN, ⟨e0, e1, e2, eb, s0, s2, s3⟩, hd⟩ := h
  obtain ⟨hok, hI0, hI2, hah, him, hig, hrd, hts, ⟨g, g6, hg⟩⟩ := id hd
  have g5 : g < 6 := by
    rcases Nat.lt_or_ge g 6 with q | q
    · exact q
    · exact absurd (by rw [hg, show g = 6 by omega]; rfl) h6
  have hbl4 : bl + 4 < qN S := hO.2.2.2.2.2.2.2.2.2.2.2.2.2.2.2.1.2.2.2.2.1.1
  have e0' := e0
  have e2' := e2
  unfold qW1 at e0' e2'
  refine (c_On_islandF hO hZ hx g5 hg (by omega) hr).px (fun u S' I' J' hq => by
    obtain ⟨rfl, K, hK, ⟨-, h, rfl, rfl⟩ | ⟨q, -⟩⟩ := hq
    · have kO := hK.2.1
      exact ⟨⟨by rw [h, hK.1.2.2.2.1], rfl⟩, cW.gen hO rfl rfl (fun b hb => by rw [qup_row (by omega)]; exact kO _ (by omega) (by omega) (by omega) (by omega) (by omega)) (fun b hb => by rw [qup_row (by omega)]; exact kO _ (by omega) (by omega) (by omega) (by omega) (by omega))⟩
    · exact absurd hr q) (fun v S' I' J' hq => ?_)
  obtain ⟨rfl, K, hK, hR⟩ := hq
  rcases hR with ⟨-, -, rfl, rfl⟩ | ⟨q, -⟩
  · have kO := hK.2.1
    have fr : ∀ a, a ≠ 87 → (a < bl ∨ bl + 3 < a) → qup K 87 1 0 a = I a := fun a a1 a2 => by rw [qup_row a1]; exact kO a a1 (by omega) (by omega) (by omega) (by omega)
    refine ⟨⟨_, _, _, _, h0.new (hd.rd (cRd0 qup_at) (fun a ha a1 _ => fr a a1 ?_) e0 e2) (fun a ha => fr a (by omega) (by omega)) (fun _ _ => rfl)⟩, id, fun a a1 a2 => ⟨fr a (by omega) (by omega), rfl⟩, ⟨congrFun (fr 6 (by omega) (by omega)) 1, congrFun (fr 0 (by omega) (by omega)) 4, congrFun (fr 60 (by omega) (by omega)) 1⟩, ⟨fun a ha => fr a (by omega) (by omega), congrFun (fr 0 (by omega) (by omega)) 4, qup_at⟩, congrFun (fr 0 (by omega) (by omega)) 7⟩
    unfold cR at ha; omega
  · exact absurd hr q
theorem K_island (h : cINV S I J w0 w1 w2 bl) (hx : qTx I f n bl) (h6 : ¬ I 0 7 = 6) (hr : ¬ rok (rread f n) n = 0) : qMet E y_On_island b_On_island 2 (some .int) 17 5 133 [.ref (qb E + 0)] S I J (fun u S' I' J' => ((∃ g, g < 6 ∧ I 0 7 = nI g ∧ u = some (.int (nI g)) ∧ J' = J) ∧ cWn S S' I I' f n) ∧ KQ0 S I J (fun I' => cT I I' ∧ cIs I I' ∧ I' 0 7 = I 0 7 + 1) u S' I' J') := by
  have h0 := h
  obtain ⟨hO, hZ, hN, ⟨e0, e1, e2, eb, s0, s2, s3⟩, hd⟩ := h
  obtain ⟨hok, hI0, hI2, hah, him, hig, hrd, hts, ⟨g, g6, hg⟩⟩ := id hd
  have g5 : g < 6 := by
    rcases Nat.lt_or_ge g 6 with q | q
    · exact q
    · exact absurd (by rw [hg, show g = 6 by omega]; rfl) h6
  have hbl4 : bl + 4 < qN S := hO.2.2.2.2.2.2.2.2.2.2.2.2.2.2.2.1.2.2.2.2.1.1
  have hw2 : w2 + 4 < qN S := hO.2.2.2.2.2.2.2.2.2.2.2.2.2.1.is.2.2.2.2.1.1
  have e0' := e0
  have e1' := e1
  have e2' := e2
  unfold qW1 at e0' e1' e2'
  refine (c_On_island hO hZ hx g5 hg (by omega)).px (fun u S' I' J' hq => by
    obtain ⟨rfl, K, hK, ⟨q, -⟩ | ⟨-, h, rfl, rfl⟩⟩ := hq
    · exact absurd q hr
    · have kO := hK.2.1
      have p60 := hO.p6.2
      refine ⟨⟨g, g5, hg, h, rfl⟩, bl, K, ?_, ?_, hK, fun b hb => by rw [qup_row (by omega), qup_row (by omega)], fun w hw b hb => ?_⟩
      · exact (hO.isl (by omega) (by omega) (by omega)).p6.1
      · exact (hO.isl (by omega) (by omega) (by omega)).p6.2.trans p60.symm
      · rw [p60] at hw
        obtain rfl := Option.some.inj hw
        rw [qup_row (by omega), qup_row (by omega)]
        exact kO _ (by omega) (by omega) (by omega) (by omega) (by omega)) (fun v S' I' J' hq => ?_)
  obtain ⟨rfl, K, hK, hR⟩ := hq
  rcases hR with ⟨q, -⟩ | ⟨-, -, rfl, rfl⟩
  · exact absurd q hr
  · have kO := hK.2.1
    have fr : ∀ a, a ≠ 87 → a ≠ 0 → (a < bl ∨ bl + 3 < a) → qup (qup K 87 1 0) 0 7 (nI (g + 1)) a = I a := fun a a1 a0 a2 => by rw [qup_row a0, qup_row a1]; exact kO a a1 (by omega) (by omega) (by omega) (by omega)
    have fr0 : ∀ j, j ≠ 7 → qup (qup K 87 1 0) 0 7 (nI (g + 1)) 0 j = I 0 j := fun j hj => by rw [qup_j hj, qup_o (by decide), kO 0 (by decide) (by omega) (by omega) (by omega) (by omega)]
    have fb : ∀ a, a ≠ 87 → a ≠ 0 → qup (qup K 87 1 0) 0 7 (nI (g + 1)) a = K a := fun a a1 a0 => by rw [qup_row a0, qup_row a1]
    have isb : qIsOK (qup (qup K 87 1 0) 0 7 (nI (g + 1))) bl := hK.isOK.of (fb _ (by omega) (by omega)) (fb _ (by omega) (by omega))
    have is2 : qIsOK (qup (qup K 87 1 0) 0 7 (nI (g + 1))) w2 := hI2.of (fr _ (by omega) (by omega) (by omega)) (fr _ (by omega) (by omega) (by omega))
    have dat : cDat (qup (qup K 87 1 0) 0 7 (nI (g + 1))) bl w2 := by
      refine ⟨hok.fr2 (fun a a1 a2 => fr a (by omega) (by omega) (by omega)), isb, is2, hah.fr (fun a a1 a2 => fr a (by omega) (by omega) (by omega)), him.fr (fun a a1 a2 => fr a (by omega) (by omega) (by omega)), ?_, cRd0 (by rw [qup_o (by decide), qup_at]), hts.fr (fun a a1 a2 => fr a (by omega) (by omega) (by omega)), ⟨g + 1, by omega, qup_at⟩⟩
      rw [fr0 4 (by decide)]
      rcases hig with q | ⟨q, q2⟩
      · exact Or.inl q
      · exact Or.inr ⟨q, q2.fr2 (fun a a1 a2 => fr a (by omega) (by omega) (by omega))⟩
    have hqn : qN (qIslS S bl) = qN S + 5 := rfl
    refine ⟨⟨bl, w1, w2, qN S, hO.isl (by omega) (by omega) (by omega), fun a ha => ⟨?_, (hZ a (by omega)).2⟩, by omega, ⟨by unfold qW1; omega, e1, e2, by omega, by omega, by omega, by omega⟩, dat⟩, fun hM => ?_, fun a a1 a2 => ⟨fr a (by omega) (by omega) (by omega), rfl⟩, ⟨congrFun (fr 6 (by omega) (by omega) (by omega)) 1, fr0 4 (by decide), congrFun (fr 60 (by omega) (by omega) (by omega)) 1⟩, ⟨fun a ha => fr a (by omega) (by omega) (by omega), fr0 4 (by decide), by rw [qup_o (by decide), qup_at]⟩, by rw [qup_at, hg, q1]⟩
    · rw [fr a (by omega) (by omega) (by omega)]; exact (hZ a (by omega)).1
    · have k := isl_keep (S := S) (bl := bl)
      exact ⟨k.1 _ _ hM.1, fun t ht => ⟨(k.2.2 114 t.1 hM.1.1 (by omega) (by omega)).trans (hM.2 t ht).1, k.2.1 _ _ _ (hM.2 t ht).2⟩⟩
end H14
