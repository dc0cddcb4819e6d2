/-! class and reference side by side: islands -/
theorem xIl.fr2 {K K2 M M2 : qI} {w g cz C2 : Nat} {hv : Int32} (h : xIl K M w hv) (hk : ∀ b, b ≤ 3 → K2 (w + b) = K (w + b)) (hlt : hv = -1 ∨ ∃ h, h < g ∧ hv = nI h) (g6 : g ≤ 6) (h124 : ∀ j, j < g → M2 124 j = M 124 j) (htab : ∀ a j, 125 ≤ a → a ≤ 128 → j < 10 * g → M2 a j = M a j) (h129 : ∀ j, j < cz → M2 129 j = M 129 j) (hcz : M 114 25 = nI cz) (c6 : cz ≤ 600) (hC2 : M2 114 25 = nI C2) (C26 : C2 ≤ 600) (hle : cz ≤ C2) : xIl K2 M2 w hv := by
  have k0 : K2 w = K w := hk 0 (by omega)
  rcases h with ⟨e, e4, e5⟩ | ⟨h, cz', P, mm, L, z, h6, e, m10, e124, hx, hl, e4, hrow, e5, g1', g2', hP, C, hC, hC2', hCz⟩
  · exact Or.inl ⟨e, by rw [k0]; exact e4, by rw [k0]; exact e5⟩
  · have n1 : ∀ h, h < 6 → ¬ nI h = -1 := by decide
    have hg : h < g := by
      rcases hlt with q | ⟨h', h1, q⟩
      · exact absurd (e.symm.trans q) (n1 h h6)
      · have := (nI_eq (by omega) (by omega)).mp (e.symm.trans q)
        omega
    have eC : C = cz := (nI_eq (by omega) (by omega)).mp (hC2'.symm.trans hcz)
    refine Or.inr ⟨h, cz', P, mm, L, z, h6, e, m10, by rw [h124 h hg]; exact e124, ?_, hl, by rw [k0]; exact e4, fun j hj => by rw [hk 2 (by omega), hk 3 (by omega)]; exact hrow j hj, by rw [k0]; exact e5, fun j hj => by rw [hk 1 (by omega)]; exact g1' j hj, fun j hj => by rw [h129 (cz' + j) (by omega)]; exact g2' j hj, hP, C2, C26, hC2, by omega⟩
    have := xCs.more (B := M) (B2 := M2) [] mm L z (fun a j b1 b2 b3 _ => htab a j b1 b2 (by omega)) hx
    rw [List.append_nil] at this
    exact this
theorem vINV.isl6 {S S1 S2 : qSh} {I I1 I2 : qI} {J J1 J2 : qJ} {T T2 : qI → Prop} {v v2 : Option Value} (g : vINV S I J) (h6 : I 0 7 = 6) (pK : v = some (.int (-4)) ∧ cU I I1 J J1) (cw : cW S S1 I I1) (hK : KQ0 S I J T v S1 I1 J1) (pR : xRi I1 v2 I2 ∧ xRn I1 I2) (hr : rIs I1 I2 J1 J2) (hV : RQ0 S1 I1 J1 T2 v2 S2 I2 J2) : vINV S2 I2 J2 ∧ v = v2 := by
  obtain ⟨gx, ev⟩ := g.1.isl6 h6 pK hK pR.1 hr hV
  refine ⟨⟨gx, ?_⟩, ev⟩
  have u := pK.2
  have c114 := (hK.2.2.1 114 (by omega) (by omega)).1
  have hw : rW I1 I2 := by
    rcases pR.2 with ⟨-, h⟩ | ⟨g', z, cz, g6, hg, -⟩
    · exact h
    · exfalso
      rw [c114, ← g.1.2.2.2.2.2.2.2.2.1, h6] at hg
      have := (nI_eq (by omega) (by omega)).mp (show nI 6 = nI g' from hg)
      omega
  exact g.still cw hK hV u.2.1 (fun a a1 a2 => (u.1 a (by omega)).1) (by rw [(u.1 6 (by omega)).1]) (fun p j hp _ => by rw [(u.1 (qm 6 p) (by unfold qm; omega)).1]) hw hr.2.1 (fun j _ h2 => hr.1 j (by omega))
theorem vINV.isl {S S1 S2 : qSh} {I I1 I2 : qI} {J J1 J2 : qJ} {T T2 : qI → Prop} {v v2 : Option Value} {n : Nat} (g : vINV S I J) (h6 : ¬ I 0 7 = 6) (hn : I 87 1 = nI n) (n100 : n ≤ 100) (hJ : J1 = J) (hc : cIs I I1) (hK : KQ0 S I J T v S1 I1 J1) (pR : xRi I1 v2 I2 ∧ xRn I1 I2) (hr : rIs I1 I2 J1 J2) (hV : RQ0 S1 I1 J1 T2 v2 S2 I2 J2) (hk : (rok (rread (I 123) n) n = 0 ∧ v = some (.int (-10 - nI (rread (I 123) n).1.1)) ∧ I1 0 7 = I 0 7) ∨ (¬ rok (rread (I 123) n) n = 0 ∧ (∃ g, g < 6 ∧ I 0 7 = nI g ∧ v = some (.int (nI g))) ∧ I1 0 7 = I 0 7 + 1)) (cw : (rok (rread (I 123) n) n = 0 ∧ cW S S1 I I1) ∨ (¬ rok (rread (I 123) n) n = 0 ∧ cWn S S1 I I1 (I 123) n)) : vINV S2 I2 J2 ∧ v = v2 := by
  obtain ⟨gx, ev⟩ := g.1.isl h6 hn n100 hJ hc hK pR.1 hr hV hk
  refine ⟨⟨gx, ?_⟩, ev⟩
  have cf := hK.2.2.1
  have w1 := cINV.w6 hK.1
  obtain ⟨hS, -, rf, -⟩ := hV
  subst hS
  have wq := g.1.w6
  obtain ⟨t1, t2, t3⟩ := g.2
  obtain ⟨n', hIs, hsn, him, -⟩ := g.1.2.2.1
  have tie := g.1.2.2.2
  obtain ⟨x1, x2, x3⟩ := tie.2.2.2.2.2
  have c114 := (cf 114 (by omega) (by omega)).1
  have e123 : I1 123 = I 123 := (cf 123 (by omega) (by omega)).1
  rcases pR.2 with ⟨h17, -⟩ | ⟨g', z, cz, g6, hg, z100, hz, hcz, h25, htab, h129, hR⟩
  · rw [c114, ← x1] at h17
    exact absurd h17 h6
  have ez : z = n := (nI_eq (by omega) (by omega)).mp (hz.symm.trans (by rw [c114, ← x2]; exact hn))
  subst ez
  have en : n' = g' := (nI_eq (by have := hIs.1; omega) (by omega)).mp (hIs.2.1.symm.trans (by rw [← c114]; exact hg))
  subst en
  rw [e123] at htab hR
  have hf : ∀ j, j < z → ∃ k, k < 128 ∧ I 123 j = nI k := by
    obtain ⟨-, -, -, -, ⟨z0, z01, hz0, hf0⟩, -⟩ := g.1.2.2.1
    have : z0 = z := (nI_eq (by omega) (by omega)).mp (hz0.symm.trans (by rw [← c114]; exact hz))
    subst this
    exact hf0
  obtain ⟨p1, p2⟩ := x_parse (f := I 123) (n := z) hf z100 (h := n') (cz := cz) (B := I1)
  obtain ⟨o1, -, ⟨-, o3⟩, -, -⟩ := pisl_off (f := I 123) (n := z) (h := n') (cz := cz) 10 0 I1 (0, [])
  have h25' : I 114 25 = nI cz := by rw [← c114]; exact h25
  have tab' : ∀ a j, 125 ≤ a → a ≤ 128 → j < 10 * n' → I2 a j = I a j := fun a j a1 a2 hj => by rw [htab a a1 a2, o1 a j hj, (cf a (by omega) (by omega)).1]
  have c129 : ∀ j, j < cz → I2 129 j = I 129 j := fun j hj => by rw [h129 j hj, (cf 129 (by omega) (by omega)).1]
  have lt18 : I 114 18 = -1 ∨ ∃ h, h < n' ∧ I 114 18 = nI h := by
    obtain ⟨-, -, -, -, -, -, -, h8, -⟩ := hsn
    unfold kp at h8
    rw [kpa_nf18] at h8
    exact h8
  have lt139 : I 0 4 = 1 → (I 139 123 = -1 ∨ ∃ h, h < n' ∧ I 139 123 = nI h) := fun h1 => by
    rcases him with q | ⟨-, q⟩
    · exact absurd ((tie.2.1.symm.trans q).symm.trans h1) (by decide)
    · exact q.2.2.2.2.2.2.2.1
  have e04 : I2 0 4 = I 0 4 := by rw [(rf 0 (by omega)).1]; exact hc.2.1
  have e139 : I2 139 = I 139 := by rw [hr.2.1, (cf 139 (by omega) (by omega)).1]
  have hu6 : vH I2 6 (kp I2) := t2.rows (fun a a1 a2 => by rw [(rf a (by omega)).1, hc.1 a (by omega)]) (fun j _ h2 => by rw [hr.1 j (by omega), kp_far cf (by omega)])
  have hu60 : I 0 4 = 1 → vH I2 60 (I2 139) := fun h1 => by
    rw [e139]
    exact (t3 h1).2.rows (fun a a1 a2 => by rw [(rf a (by omega)).1, hc.1 a (by omega)]) (fun j _ _ => rfl)
  rcases hR with ⟨c, h18, h124, hC2, hcod⟩ | ⟨c, h18, h124, hC2⟩
  · -- read: a new island
    have q := p2.mp c
    rcases cw with ⟨q', -⟩ | ⟨-, o, K, r6, r60, hRc, ho, hold⟩
    · exact absurd q' q
    obtain ⟨C, L2, z2, b1, b2, b3, hx, hl, m10⟩ := read_lst (f := I 123) (n := z) hf z100 (h := n') (cz := cz) 9 0 I1 0 [] [] 0 (Nat.le_refl _) (Nat.zero_le _) (by omega) (Nat.le_refl _) ⟨rfl, rfl⟩ rfl c
    have lC : C.length ≤ 100 := by
      have k1 := hRc.1.2.2.2.2.2.2.1
      have k2 : (rread (I 123) z).1.2.2 = C.map trc := b2
      rw [k2, List.length_map] at k1
      exact k1
    rw [b1] at hC2 hcod
    have wo := w1 o (Or.inl r6)
    unfold qW1 at wo
    have eo : ∀ b, b ≤ 3 → I2 (o + b) = K (o + b) := fun b hb => by rw [(rf (o + b) (by omega)).1, ho b hb]
    have eo0 : I2 o = K o := eo 0 (by omega)
    have rr : (rread (I 123) z).2 = (L2, z2) := b3
    obtain ⟨hRd, -, -, k4, -, k6, k7⟩ := hRc
    rw [rr] at k4 k6 k7
    have new : xIl I2 I2 o (nI n') := by
      refine Or.inr ⟨n', cz, C, (pisl (I 123) z n' cz 10 0 I1 (0, [])).2.1, L2, z2, g6, rfl, m10, by rw [h124 n', if_pos rfl], ?_, hl, by rw [eo0]; exact k4, fun j hj => ?_, by rw [eo0]; exact k7, fun j hj => ?_, fun j hj => hcod j hj, lC, cz + C.length, by omega, hC2, Nat.le_refl _⟩
      · have := xCs.more (B := (pisl (I 123) z n' cz 10 0 I1 (0, [])).2.2.2) (B2 := I2) [] _ L2 z2 (fun a j a1 a2 _ _ => by rw [htab a a1 a2]) hx
        rw [List.append_nil] at this
        exact this
      · rw [eo 2 (by omega), eo 3 (by omega)]
        exact ⟨(k6 j hj).1, (k6 j hj).2.1⟩
      · rw [eo 1 (by omega)]
        have k2 : (rread (I 123) z).1.2.2 = C.map trc := b2
        have k8 := hRd.2.2.2.2.2.2.2.1 j (by rw [k2, List.length_map]; exact hj)
        rw [k8, k2, List.getD_eq_getElem?_getD, List.getElem?_map, List.getD_eq_getElem?_getD, List.getElem?_eq_getElem hj]
        rfl
    refine ⟨fun w hw => ?_, hu6, fun h1 => ?_⟩
    · rw [r6] at hw
      obtain rfl := Option.some.inj hw
      rw [h18]
      exact new
    · rw [e04] at h1
      refine ⟨fun w hw => ?_, hu60 h1⟩
      rw [r60] at hw
      rw [e139]
      have hq := wq w (Or.inr hw)
      unfold qW1 at hq
      exact ((t3 h1).1 w hw).fr2 (fun b hb => by rw [(rf (w + b) (by omega)).1, hold w hw b hb]) (lt139 h1) (by omega) (fun j hj => by rw [h124 j, if_neg (by omega), (cf 124 (by omega) (by omega)).1]) tab' c129 h25' (by omega) hC2 (by omega) (by omega)
  · have q : rok (rread (I 123) z) z = 0 := Classical.byContradiction fun y => c (p2.mpr y)
    rcases cw with ⟨-, c1, c2, c3⟩ | ⟨q', -⟩
    · have e18 : I2 114 18 = I 114 18 := by rw [h18, c114]
      have o124 : ∀ j, j < n' → I2 124 j = I 124 j := fun j _ => by rw [h124, (cf 124 (by omega) (by omega)).1]
      have rows : ∀ w, (qR S 6 5 = some w ∨ qR S 60 5 = some w) → ∀ b, b ≤ 3 → I2 (w + b) = I (w + b) := fun w hw b hb => by
        have := wq w hw
        unfold qW1 at this
        rw [(rf (w + b) (by omega)).1, c3 w hw b hb]
      refine ⟨fun w hw => ?_, hu6, fun h1 => ?_⟩
      · rw [c1] at hw
        rw [e18]
        exact (t1 w hw).fr2 (rows w (Or.inl hw)) lt18 (by omega) o124 tab' c129 h25' (by omega) hC2 (by omega) (Nat.le_refl _)
      · rw [e04] at h1
        refine ⟨fun w hw => ?_, hu60 h1⟩
        rw [c2] at hw
        rw [e139]
        exact ((t3 h1).1 w hw).fr2 (rows w (Or.inr hw)) (lt139 h1) (by omega) o124 tab' c129 h25' (by omega) hC2 (by omega) (Nat.le_refl _)
    · exact absurd q q'
