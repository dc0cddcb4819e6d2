/-! class and reference side by side: islands -/
theorem xIl.fr2 {K K2 M M2 : qI} {w g cz C2 : Nat} {hv : Int32} (h : xIl K M w hv) (hk : ∀ b, b ≤ 3 → K2 (w + b) = K (w + b)) (hlt : hv = -1 ∨ ∃ h, h < g ∧ hv = nI h) (g6 : g ≤ 6) (h124 : ∀ j, j < g → M2 124 j = M 124 j) (htab : ∀ a j, 125 ≤ a → a ≤ 128 → j < 10 * g → M2 a j = M a j) (h129 : ∀ j, j < cz → M2 129 j = M 129 j) (hcz : M 114 25 = nI cz) (c6 : cz ≤ 600) (hC2 : M2 114 25 = nI C2) (C26 : C2 ≤ 600) (hle : cz ≤ C2) : xIl K2 M2 w hv := by
  have k0 : K2 w = K w := hk 0 (by omega)
  rcases h with ⟨e, e4, e5⟩ | ⟨h, cz', P, mm, L, z, h6, e, m10, e124, hx, hl, e4, hrow, e5, g1', g2', hP, C, hC, hC2', hCz⟩
  · exact Or.inl ⟨e, by rw [k0]; exact e4, by rw [k0]; exact e5⟩
  · have n1 : ∀ h, h < 6 → ¬ nI h = -1 := by decide
    have hg : h < g := by
      rcases hlt with q | ⟨h', h1, q⟩
      · exact absurd (e.symm.trans q) (n1 h h6)
      · have := (nI_eq (by omega) (by omega)).mp (e.symm.trans q)
        omega
    have eC : C = cz := (nI_eq (by omega) (by omega)).mp (hC2'.symm.trans hcz)
    refine Or.inr ⟨h, cz', P, mm, L, z, h6, e, m10, by rw [h124 h hg]; exact e124, ?_, hl, by rw [k0]; exact e4, fun j hj => by rw [hk 2 (by omega), hk 3 (by omega)]; exact hrow j hj, by rw [k0]; exact e5, fun j hj => by rw [hk 1 (by omega)]; exact g1' j hj, fun j hj => by rw [h129 (cz' + j) (by omega)]; exact g2' j hj, hP, C2, C26, hC2, by omega⟩
    have := xCs.more (B := M) (B2 := M2) [] mm L z (fun a j b1 b2 b3 _ => htab a j b1 b2 (by omega)) hx
    rw [List.append_nil] at this
    exact this
theorem vINV.isl6 {S S1 S2 : qSh} {I I1 I2 : qI} {J J1 J2 : qJ} {T T2 : qI → Prop} {v v2 : Option Value} (g : vINV S I J) (h6 : I 0 7 = 6) (pK : v = some (.int (-4)) ∧ cU I I1 J J1) (cw : cW S S1 I I1) (hK : KQ0 S I J T v S1 I1 J1) (pR : xRi I1 v2 I2 ∧ xRn I1 I2) (hr : rIs I1 I2 J1 J2) (hV : RQ0 S1 I1 J1 T2 v2 S2 I2 J2) : vINV S2 I2 J2 ∧ v = v2 := by
  obtain ⟨gx, ev⟩ := g.1.isl6 h6 pK hK pR.1 hr hV
  refine ⟨⟨gx, ?_⟩, ev⟩
  have u := pK.2
  have c114 := (hK.2.2.1 114 (by omega) (by omega)).1
  have hw : rW I1 I2 := by
    rcases pR.2 with ⟨-, h⟩ | ⟨g', z, cz, g6, hg, -⟩
    · exact h
    · exfalso
      rw [c114, ← g.1.2.2.2.2.2.2.2.2.1, h6] at hg
      have := (nI_eq (by omega) (by omega)).mp (show nI 6 = nI g' from hg)
      omega
  exact g.still cw hK hV u.2.1 (fun a a1 a2 => (u.1 a (by omega)).1) (by rw [(u.1 6 (by omega)).1]) (fun p j hp _ => by rw [(u.1 (qm 6 p) (by unfold qm; omega)).1]) hw hr.2.1 (fun j _ h2 => hr.1 j (by omega))
theorem vINV.isl {S S1 S2 : qSh} {I I1 I2 : qI} {J J1 J2 : qJ} {T T2 : qI → Prop} {v v2 : Option Value} {n : Nat} (g : vINV S I J) (h6 : ¬ I 0 7 = 6) (hn : I 87 1 = nI n) (n100 : n ≤ 100) (hJ : J1 = J) (hc : cIs I I1) (hK : KQ0 S I J T v S1 I1 J1) (pR : xRi I1 v2 I2 ∧ xRn I1 I2) (hr : rIs I1 I2 J1 J2) (hV : RQ0 S1 I1 J1 T2 v2 S2 I2 J2) (hk : (rok (rread (I 123) n) n = 0 ∧ v = some (.int (-10 - nI (rread (I 123) n).1.1)) ∧ I1 0 7 = I 0 7) ∨ (¬ rok (rread (I 123) n) n = 0 ∧ (∃ g, g < 6 ∧ I 0 7 = nI g ∧ v = some (.int (nI g))) ∧ I1 0 7 = I 0 7 + 1)) (cw : (rok (rread (I 123) n) n = 0 ∧ cW S S1 I I1) ∨ (¬ rok (rread (I 123) n) n = 0 ∧ cWn S S1 I I1 (I 123) n)) : vINV S2 I2 J2 ∧ v = v2 := by
  obtain ⟨gx, ev⟩ := g.1.isl h6 hn n100 hJ hc hK pR.1 hr hV hk
  refine ⟨⟨gx, ?_⟩, ev⟩
  have cf := hK.2.2.1
  have w1 := cINV.w6 hK.1
  obtain ⟨hS, -, rf, -⟩ := hV
  subst hS
  have wq := g.1.w6
  obtain ⟨t1, t2, t3⟩ := g.2
  obtain ⟨n', hIs, hsn, him, -⟩ := g.1.2.2.1
  have tie := g.1.2.2.2
  obtain ⟨x1, x2, x3⟩ := tie.2.2.2.2.2
  have c114 := (cf 114 (by omega) (by omega)).1
  have e123 : I1 123 = I 123 := (cf 123 (by omega) (by omega)).1
  rcases pR.2 with ⟨h17, -⟩ | ⟨g', z, cz, g6, hg, z100, hz, hcz, h25, htab, h129, hR⟩
  · rw [c114, ← x1] at h17
    exact absurd h17 h6
  have ez : z = n := (nI_eq (by omega) (by omega)).mp (hz.symm.trans (by rw [c114, ← x2]; exact hn))
  subst ez
  have en : n' = g' := (nI_eq (by have := hIs.1; omega) (by omega)).mp (hIs.2.1.symm.trans (by rw [← c114]; exact hg))
  subst en
  rw [e123] at htab hR
  have hf : ∀ j, j < z → ∃ k, k < 128 ∧ I 123 j = nI k := by
    obtain ⟨-, -, -, -, ⟨z0, z01, hz0, hf0⟩, -⟩ := g.1.2.2.1
    have : z0 = z := (nI_eq (by omega) (by omega)).mp (hz0.symm.trans (by rw [← c114]; exact hz))
    subst this
    exact hf0
  obtain ⟨p1, p2⟩ := x_parse (f := I 123) (n := z) hf z100 (h := n') (cz := cz) (B := I1)
  obtain ⟨o1, -, ⟨-, o3⟩, -, -⟩ := pisl_off (f := I 123) (n := z) (h := n') (cz := cz) 10 0 I1 (0, [])
  have h25' : I 114 25 = nI cz := by rw [← c114]; exact h25
  have tab' : ∀ a j, 125 ≤ a → a ≤ 128 → j < 10 * n' → I2 a j = I a j := fun a j a1 a2 hj => by rw [htab a a1 a2, o1 a j hj, (cf a (by omega) (by omega)).1]
  have c129 : ∀ j, j < cz → I2 129 j = I 129 j := fun j hj => by rw [h129 j hj, (cf 129 (by omega) (by omega)).1]
  have lt18 : I 114 18 = -1 ∨ ∃ h, h < n' ∧ I 114 18 = nI h := by
    obtain ⟨-, -, -, -, -, -, -, h8, -⟩ := hsn
    unfold kp at h8
    rw [kpa_nf18] at h8
    exact h8
  have lt139 : I 0 4 = 1 → (I 139 123 = -1 ∨ ∃ h, h < n' ∧ I 139 123 = nI h) := fun h1 => by
    rcases him with q | ⟨-, q⟩
    · exact absurd ((tie.2.1.symm.trans q).symm.trans h1) (by decide)
    · exact q.2.2.2.2.2.2.2.1
  have e04 : I2 0 4 = I 0 4 := by rw [(rf 0 (by omega)).1]; exact hc.2.1
  have e139 : I2 139 = I 139 := by rw [hr.2.1, (cf 139 (by omega) (by omega)).1]
  have hu6 : vH I2 6 (kp I2) := t2.rows (fun a a1 a2 => by rw [(rf a (by omega)).1, hc.1 a (by omega)]) (fun j _ h2 => by rw [hr.1 j (by omega), kp_far cf (by omega)])
  have hu60 : I 0 4 = 1 → vH I2 60 (I2 139) := fun h1 => by
    rw [e139]
    exact (t3 h1).2.rows (fun a a1 a2 => by rw [(rf a (by omega)).1, hc.1 a (by omega)]) (fun j _ _ => rfl)
  rcases hR with ⟨c, h18, h124, hC2, hcod⟩ | ⟨c, h18, h124, hC2⟩
  · -- read: a new island
    have q := p2.mp c
    rcases cw with ⟨q', -⟩ | ⟨-, o, K, r6, r60, hRc, ho, hold⟩
    · exact absurd q' q
    obtain ⟨C, L2, z2, b1, b2, b3, hx, hl, m10⟩ := read_lst (f := I 123) (n := z) hf z100 (h := n') (cz := cz) 9 0 I1 0 [] [] 0 (Nat.le_refl _) (Nat.zero_le _) (by omega) (Nat.le_refl _) ⟨rfl, rfl⟩ rfl c
    have lC : C.length ≤ 100 := by
      have k1 := hRc.1.2.2.2.2.2.2.1
      have k2 : (rread (I 123) z).1.2.2 = C.map trc := b2
      rw [k2, List.length_map] at k1
      exact k1
    rw [b1] at hC2 hcod
    have wo := w1 o (Or.inl r6)
    unfold qW1 at wo
    have eo : ∀ b, b ≤ 3 → I2 (o + b) = K (o + b) := fun b hb => by rw [(rf (o + b) (by omega)).1, ho b hb]
    have eo0 : I2 o = K o := eo 0 (by omega)
    have rr : (rread (I 123) z).2 = (L2, z2) := b3
    obtain ⟨hRd, -, -, k4, -, k6, k7⟩ := hRc
    rw [rr] at k4 k6 k7
    have new : xIl I2 I2 o (nI n') := by
      refine Or.inr ⟨n', cz, C, (pisl (I 123) z n' cz 10 0 I1 (0, [])).2.1, L2, z2, g6, rfl, m10, by rw [h124 n', if_pos rfl], ?_, hl, by rw [eo0]; exact k4, fun j hj => ?_, by rw [eo0]; exact k7, fun j hj => ?_, fun j hj => hcod j hj, lC, cz + C.length, by omega, hC2, Nat.le_refl _⟩
      · have := xCs.more (B := (pisl (I 123) z n' cz 10 0 I1 (0, [])).2.2.2) (B2 := I2) [] _ L2 z2 (fun a j a1 a2 _ _ => by rw [htab a a1 a2]) hx
        rw [List.append_nil] at this
        exact this
      · rw [eo 2 (by omega), eo 3 (by omega)]
        exact ⟨(k6 j hj).1, (k6 j hj).2.1⟩
      · rw [eo 1 (by omega)]
        have k2 : (rread (I 123) z).1.2.2 = C.map trc := b2
        have k8 := hRd.2.2.2.2.2.2.2.1 j (by rw [k2, List.length_map]; exact hj)
        rw [k8, k2, List.getD_eq_getElem?_getD, List.getElem?_map, List.getD_eq_getElem?_getD, List.getElem?_eq_getElem hj]
        rfl
    refine ⟨fun w hw => ?_, hu6, fun h1 => ?_⟩
    · rw [r6] at hw
      obtain rfl := Option.some.inj hw
      rw [h18]
      exact new
    · rw [e04] at h1
      refine ⟨fun w hw => ?_, hu60 h1⟩
      rw [r60] at hw
      rw [e139]
      have hq := wq w (Or.inr hw)
      unfold qW1 at hq
      exact ((t3 h1).1 w hw).fr2 (fun b hb => by rw [(rf (w + b) (by omega)).1, hold w hw b hb]) (lt139 h1) (by omega) (fun j hj => by rw [h124 j, if_neg (by omega), (cf 124 (by omega) (by omega)).1]) tab' c129 h25' (by omega) hC2 (by omega) (by omega)
  · have q : rok (rread (I 123) z) z = 0 := Classical.byContradiction fun y => c (p2.mpr y)
    rcases cw with ⟨-, c1, c2, c3⟩ | ⟨q', -⟩
    · have e18 : I2 114 18 = I 114 18 := by rw [h18, c114]
      have o124 : ∀ j, j < n' → I2 124 j = I 124 j := fun j _ => by rw [h124, (cf 124 (by omega) (by omega)).1]
      have rows : ∀ w, (qR S 6 5 = some w ∨ qR S 60 5 = some w) → ∀ b, b ≤ 3 → I2 (w + b) = I (w + b) := fun w hw b hb => by
        have := wq w hw
        unfold qW1 at this
        rw [(rf (w + b) (by omega)).1, c3 w hw b hb]
      refine ⟨fun w hw => ?_, hu6, fun h1 => ?_⟩
      · rw [c1] at hw
        rw [e18]
        exact (t1 w hw).fr2 (rows w (Or.inl hw)) lt18 (by omega) o124 tab' c129 h25' (by omega) hC2 (by omega) (Nat.le_refl _)
      · rw [e04] at h1
        refine ⟨fun w hw => ?_, hu60 h1⟩
        rw [c2] at hw
        rw [e139]
        exact ((t3 h1).1 w hw).fr2 (rows w (Or.inr hw)) (lt139 h1) (by omega) o124 tab' c129 h25' (by omega) hC2 (by omega) (Nat.le_refl _)
    · exact absurd q q'
/-! of, told exactly -/
def ca_of (I : qI) (c l w0 : Nat) (x w : Int32) : Int32 := if qwithin x 0 (nI c - 1) = 0 then -1 else if w = 0 then I (qm 6 x.toNatClampNeg) 1 else if w = 1 then I (qm 6 x.toNatClampNeg) 2 else if w = 2 then I (qm 6 x.toNatClampNeg) 3 else if w = 3 then I (qm 6 x.toNatClampNeg) 4 else if w = 4 then I (qm 6 x.toNatClampNeg) 5 else if w = 5 then (if I (qm 6 x.toNatClampNeg) 6 = 0 then 0 else 1) else if w = 6 then qplace (I 8) x l l else if w = 7 then qpainAt I 6 w0 (qm 6 x.toNatClampNeg) (nI 0) else -1
def ga_of (I : qI) (c l d : Nat) (x w : Int32) : Int32 := if qwithin x 0 (nI c - 1) = 0 then -1 else if w = 0 then I 115 x.toNatClampNeg else if w = 1 then I 116 x.toNatClampNeg else if w = 2 then I 117 x.toNatClampNeg else if w = 3 then I 118 x.toNatClampNeg else if w = 4 then I 119 x.toNatClampNeg else if w = 5 then I 120 x.toNatClampNeg else if w = 6 then qplace (I 122) x l l else if w = 7 then mpain I x.toNatClampNeg (nI d) (I 118 x.toNatClampNeg) else -1
section V39
variable {E : qE} {S : qSh} {I : qI} {J : qJ} {w0 w1 w2 bl : Nat}
theorem c_On_ofX {x w : Int32} {c l d : Nat} (hO : isOn S w0 w1 w2 bl) (hw : qW1 w0) (hI : qIsOK I w0) (hc : I 6 1 = nI c) (hc6 : c ≤ 6) (hl : I 6 3 = nI l) (hl6 : l ≤ 6) (hd : I 6 4 = nI d) (hd9 : d ≤ 9999) : qMet E y_On_of b_On_of 4 (some .int) 4 0 0 [.ref (qb E + 0), .int x, .int w] S I J (fun v S' I' J' => v = some (.int (ca_of I c l w0 x w)) ∧ S = S' ∧ qFr (qPr w0) I I' ∧ ∀ a, a ≠ 94 → J' a = J a) := by
  have hO0 := hO
  obtain ⟨oT, oR0, oR1, oR2, oR3, oR5, oR6, oR8, oR9, oR10, hI1, hN, hA, hM3, hRe, hBl, hRo, hAc, tA, tR, tT⟩ := hO
  have hN1 := hN
  have nT := hN.1
  obtain ⟨mT, mA1, mA2, mR0, mR2, mR5, mR6, mR7, mR8, nS, nP, nB, nI0, mRp, mMp⟩ := hN
  refine qMet.of (L := [some (.ref (qb E + 0)), some (.int x), some (.int w), none]) (by decide +kernel) (Nat.le_of_ble_eq_true rfl) rfl ?_
  refine lda_n_4_0 (pc := 0) d_On_of_0 ?_
  refine ldi_n_4_1 (pc := 1) d_On_of_1 ?_
  refine r_callV (pc := 2) (As := [.int x]) (k := 8) (N := 11) (T := T_On) k_On_82 im_On_isMourner se_On_isMourner rfl (by decide) rfl (by decide) d_On_of_2 (by assumption) (c_On_isMourner hO0) rfl (Nat.le_of_ble_eq_true rfl) (by omega) (by omega) (by omega) (fun v S' I' J' hq => ?_)
  obtain ⟨rfl, rfl, rfl, rfl⟩ := hq
  rw [hc]
  refine r_if_ne (pc := 5) (tgt := 10) d_On_of_5 (by decide) (fun c1 => ?_) (fun c1 => ?_)
  · obtain ⟨p, hp, rfl⟩ := qisM_y (by omega) c1
    have hin : vp_in (nI p) 6 := vp_in_nI (by omega) (by omega)
    have hRc : qR S (6 + 1) (nI p).toNatClampNeg = some (qm 6 p) := by rw [qcl (by omega)]; exact mRp p (by omega)
    have hMo : isMo S (qm 6 p) := mMp p (by omega)
    have hMT : qT S (qm 6 p) 2 := hMo.1
    have lo := qm_lo (o := 6) (p := p)
    have hi := qm_hi (o := 6) (p := p) (by omega)
    refine lda_n_4_0 (pc := 10) d_On_of_10 ?_
    refine g_On_23 (pc := 11) rfl d_On_of_11 (by assumption) (by assumption) ?_
    refine g_On_72 (pc := 14) rfl d_On_of_14 (by assumption) (by assumption) ?_
    refine ldi_n_4_1 (pc := 17) d_On_of_17 ?_
    refine r_aald14 (pc := 18) d_On_of_18 (by assumption) (by first | assumption | exact vp_in_nI (by omega) (by omega) | (unfold vp_in; decide)) (by assumption) ?_
    refine sta_n_4_3 (pc := 19) d_On_of_19 rfl ?_
    refine ldi_n_4_2 (pc := 20) d_On_of_20 ?_
    by_cases k0 : w = 0
    · rw [k0]
      refine r_tableIn (pc := 21) (off := 47) (tgt := 68) d_On_of_21 (by decide) (by decide) (by decide +kernel) (by decide) ?_
      refine lda_n_4_3 (pc := 68) d_On_of_68 ?_
      refine g_On_86 (pc := 69) rfl d_On_of_69 (by assumption) ?_
      exact r_iret d_On_of_72 rfl (by omega) (by omega) (⟨(by unfold ca_of; rw [if_neg c1, if_pos (show (0 : Int32) = 0 from rfl), qcl (by omega)]), rfl, qFr.rf, fun _ _ => rfl⟩)
    by_cases k1 : w = 1
    · rw [k1]
      refine r_tableIn (pc := 21) (off := 52) (tgt := 73) d_On_of_21 (by decide) (by decide) (by decide +kernel) (by decide) ?_
      refine lda_n_4_3 (pc := 73) d_On_of_73 ?_
      refine g_On_89 (pc := 74) rfl d_On_of_74 (by assumption) ?_
      exact r_iret d_On_of_77 rfl (by omega) (by omega) (⟨(by unfold ca_of; rw [if_neg c1, if_neg (show ¬ (1 : Int32) = 0 by decide), if_pos (show (1 : Int32) = 1 from rfl), qcl (by omega)]), rfl, qFr.rf, fun _ _ => rfl⟩)
    by_cases k2 : w = 2
    · rw [k2]
      refine r_tableIn (pc := 21) (off := 57) (tgt := 78) d_On_of_21 (by decide) (by decide) (by decide +kernel) (by decide) ?_
      refine lda_n_4_3 (pc := 78) d_On_of_78 ?_
      refine g_On_92 (pc := 79) rfl d_On_of_79 (by assumption) ?_
      exact r_iret d_On_of_82 rfl (by omega) (by omega) (⟨(by unfold ca_of; rw [if_neg c1, if_neg (show ¬ (2 : Int32) = 0 by decide), if_neg (show ¬ (2 : Int32) = 1 by decide), if_pos (show (2 : Int32) = 2 from rfl), qcl (by omega)]), rfl, qFr.rf, fun _ _ => rfl⟩)
    by_cases k3 : w = 3
    · rw [k3]
      refine r_tableIn (pc := 21) (off := 62) (tgt := 83) d_On_of_21 (by decide) (by decide) (by decide +kernel) (by decide) ?_
      refine lda_n_4_3 (pc := 83) d_On_of_83 ?_
      refine g_On_95 (pc := 84) rfl d_On_of_84 (by assumption) ?_
      exact r_iret d_On_of_87 rfl (by omega) (by omega) (⟨(by unfold ca_of; rw [if_neg c1, if_neg (show ¬ (3 : Int32) = 0 by decide), if_neg (show ¬ (3 : Int32) = 1 by decide), if_neg (show ¬ (3 : Int32) = 2 by decide), if_pos (show (3 : Int32) = 3 from rfl), qcl (by omega)]), rfl, qFr.rf, fun _ _ => rfl⟩)
    by_cases k4 : w = 4
    · rw [k4]
      refine r_tableIn (pc := 21) (off := 67) (tgt := 88) d_On_of_21 (by decide) (by decide) (by decide +kernel) (by decide) ?_
      refine lda_n_4_3 (pc := 88) d_On_of_88 ?_
      refine g_On_98 (pc := 89) rfl d_On_of_89 (by assumption) ?_
      exact r_iret d_On_of_92 rfl (by omega) (by omega) (⟨(by unfold ca_of; rw [if_neg c1, if_neg (show ¬ (4 : Int32) = 0 by decide), if_neg (show ¬ (4 : Int32) = 1 by decide), if_neg (show ¬ (4 : Int32) = 2 by decide), if_neg (show ¬ (4 : Int32) = 3 by decide), if_pos (show (4 : Int32) = 4 from rfl), qcl (by omega)]), rfl, qFr.rf, fun _ _ => rfl⟩)
    by_cases k5 : w = 5
    · rw [k5]
      refine r_tableIn (pc := 21) (off := 72) (tgt := 93) d_On_of_21 (by decide) (by decide) (by decide +kernel) (by decide) ?_
      refine lda_n_4_3 (pc := 93) d_On_of_93 ?_
      refine g_On_101 (pc := 94) rfl d_On_of_94 (by assumption) ?_
      refine r_callS (pc := 97) (As := [.int (I (qm 6 p) 6)]) k_On_105 sw_On_bit rfl (by decide) d_On_of_97 (c_On_bit _) rfl (Nat.le_of_ble_eq_true rfl) (by omega) (by omega) (by omega) (fun v S' I' J' hq => ?_)
      obtain ⟨rfl, rfl, rfl, rfl⟩ := hq
      exact r_iret d_On_of_100 rfl (by omega) (by omega) (⟨(by unfold ca_of; rw [if_neg c1, if_neg (show ¬ (5 : Int32) = 0 by decide), if_neg (show ¬ (5 : Int32) = 1 by decide), if_neg (show ¬ (5 : Int32) = 2 by decide), if_neg (show ¬ (5 : Int32) = 3 by decide), if_neg (show ¬ (5 : Int32) = 4 by decide), if_pos (show (5 : Int32) = 5 from rfl), qcl (by omega)]), rfl, qFr.rf, fun _ _ => rfl⟩)
    by_cases k6 : w = 6
    · rw [k6]
      refine r_tableIn (pc := 21) (off := 80) (tgt := 101) d_On_of_21 (by decide) (by decide) (by decide +kernel) (by decide) ?_
      refine lda_n_4_0 (pc := 101) d_On_of_101 ?_
      refine g_On_23 (pc := 102) rfl d_On_of_102 (by assumption) (by assumption) ?_
      refine ldi_n_4_1 (pc := 105) d_On_of_105 ?_
      refine r_callVN (pc := 106) (As := [.int (nI p)]) (k := 3) (N := 9) (T := T_Mg) k_On_109 im_Mg_placeOf se_Mg_placeOf rfl (by decide) rfl (by decide) d_On_of_106 nT (c_Mg_placeOf hN1 hl hl6) rfl (Nat.le_of_ble_eq_true rfl) (by omega) (by omega) (by omega) (fun v S' I' J' hq => ?_)
      obtain ⟨rfl, rfl, rfl, rfl⟩ := hq
      exact r_iret d_On_of_109 rfl (by omega) (by omega) (⟨(by unfold ca_of; rw [if_neg c1, if_neg (show ¬ (6 : Int32) = 0 by decide), if_neg (show ¬ (6 : Int32) = 1 by decide), if_neg (show ¬ (6 : Int32) = 2 by decide), if_neg (show ¬ (6 : Int32) = 3 by decide), if_neg (show ¬ (6 : Int32) = 4 by decide), if_neg (show ¬ (6 : Int32) = 5 by decide), if_pos (show (6 : Int32) = 6 from rfl)]), rfl, qFr.rf, fun _ _ => rfl⟩)
    by_cases k7 : w = 7
    · rw [k7]
      refine r_tableIn (pc := 21) (off := 89) (tgt := 110) d_On_of_21 (by decide) (by decide) (by decide +kernel) (by decide) ?_
      refine lda_n_4_0 (pc := 110) d_On_of_110 ?_
      refine g_On_23 (pc := 111) rfl d_On_of_111 (by assumption) (by assumption) ?_
      refine lda_n_4_3 (pc := 114) d_On_of_114 ?_
      refine r_iconst (pc := 115) (v := 0) d_On_of_115 rfl ?_
      refine r_callVN (pc := 116) (As := [.ref (qb E + qm 6 p), .int (nI 0)]) (k := 3) (N := 9) (T := T_Mg) k_On_113 im_Mg_painOf se_Mg_painOf rfl (by decide) rfl (by decide) d_On_of_116 nT (c_Mg_painOf hN1 hMo (by unfold qW1 at hw; omega) hI hd (by omega)) rfl (Nat.le_of_ble_eq_true rfl) (by omega) (by omega) (by omega) (fun v S' I' J' hq => ?_)
      obtain ⟨rfl, rfl, rfl, rfl⟩ := hq
      exact r_iret d_On_of_119 rfl (by omega) (by omega) (⟨(by unfold ca_of; rw [if_neg c1, if_neg (show ¬ (7 : Int32) = 0 by decide), if_neg (show ¬ (7 : Int32) = 1 by decide), if_neg (show ¬ (7 : Int32) = 2 by decide), if_neg (show ¬ (7 : Int32) = 3 by decide), if_neg (show ¬ (7 : Int32) = 4 by decide), if_neg (show ¬ (7 : Int32) = 5 by decide), if_neg (show ¬ (7 : Int32) = 6 by decide), if_pos (show (7 : Int32) = 7 from rfl), qcl (by omega)]), rfl, qFr.rf.fil (Or.inr rfl), fun _ _ => rfl⟩)
    refine r_tableOut (pc := 21) (tgt := 120) d_On_of_21 (by simp only [← Int32.toInt_inj, Int32.reduceToInt] at k0 k1 k2 k3 k4 k5 k6 k7; omega) (by decide) ?_
    refine r_iconst (pc := 120) (v := (-1)) d_On_of_120 rfl ?_
    exact r_iret d_On_of_121 rfl (by omega) (by omega) (⟨(by unfold ca_of; rw [if_neg c1, if_neg k0, if_neg k1, if_neg k2, if_neg k3, if_neg k4, if_neg k5, if_neg k6, if_neg k7]), rfl, qFr.rf, fun _ _ => rfl⟩)
  · refine r_iconst (pc := 8) (v := (-1)) d_On_of_8 rfl ?_
    exact r_iret d_On_of_9 rfl (by omega) (by omega) (⟨(by unfold ca_of; rw [if_pos c1]), rfl, qFr.rf, fun _ _ => rfl⟩)
theorem c_Md_ofX {x w : Int32} {c l d0 : Nat} (hM : isMd S) (h : mDay I 9999) (hc : I 114 0 = nI c) (c6 : c ≤ 6) (hl : I 114 8 = nI l) (l6 : l ≤ 6) (hd0 : I 114 10 = nI d0) (hd9 : d0 ≤ 9999) : qMet E y_Md_of b_Md_of 3 (some .int) 4 0 0 [.ref (qb E + 114), .int x, .int w] S I J (fun v S' I' J' => v = some (.int (ga_of I c l d0 x w)) ∧ S = S' ∧ mSame I I' ∧ J = J') := by
  have hT := hM.1
  have f1 := hM.r 0 rfl
  have g1 := hM.a 0 rfl
  have f2 := hM.r 1 rfl
  have g2 := hM.a 1 rfl
  have f3 := hM.r 2 rfl
  have g3 := hM.a 2 rfl
  have f4 := hM.r 3 rfl
  have g4 := hM.a 3 rfl
  have f5 := hM.r 4 rfl
  have g5 := hM.a 4 rfl
  have f6 := hM.r 5 rfl
  have g6 := hM.a 5 rfl
  obtain ⟨⟨n, i1, i2⟩, -⟩ := id h
  refine qMet.of (L := [some (.ref (qb E + 114)), some (.int x), some (.int w)]) (by decide +kernel) (Nat.le_of_ble_eq_true rfl) rfl ?_
  refine lda_n_3_0 (pc := 0) d_Md_of_0 ?_
  refine ldi_n_3_1 (pc := 1) d_Md_of_1 ?_
  refine r_callV (pc := 2) (As := [.int x]) (k := 9) (N := 56) (T := T_Md) k_Md_127 im_Md_isOne se_Md_isOne rfl (by decide) rfl (by decide) d_Md_of_2 hT (c_Md_isOne hM) rfl (Nat.le_of_ble_eq_true rfl) (by omega) (by omega) (by omega) (fun v S' I' J' hq => ?_)
  obtain ⟨rfl, rfl, rfl, rfl⟩ := hq
  rw [hc]
  refine r_if_ne (pc := 5) (tgt := 10) d_Md_of_5 (by decide) (fun c1 => ?_) (fun c1 => ?_)
  · obtain ⟨p, hp, rfl⟩ := qisM_y (by omega) c1
    have hin : vp_in (nI p) 6 := vp_in_nI (by omega) (by omega)
    refine ldi_n_3_2 (pc := 10) d_Md_of_10 ?_
    by_cases k0 : w = 0
    · rw [k0]
      refine r_tableIn (pc := 11) (off := 45) (tgt := 56) d_Md_of_11 (by decide) (by decide) (by decide +kernel) (by decide) ?_
      refine lda_n_3_0 (pc := 56) d_Md_of_56 ?_
      refine g_Md_9 (pc := 57) rfl d_Md_of_57 (by assumption) (by assumption) ?_
      refine ldi_n_3_1 (pc := 60) d_Md_of_60 ?_
      refine r_iald (pc := 61) d_Md_of_61 (by assumption) (by first | assumption | exact vp_in_nI (by omega) (by omega) | (unfold vp_in; decide)) ?_
      exact r_iret d_Md_of_62 rfl (by omega) (by omega) (⟨(by unfold ga_of; rw [if_neg c1, if_pos (show (0 : Int32) = 0 from rfl), qcl (by omega)]), rfl, mSame.rf, rfl⟩)
    by_cases k1 : w = 1
    · rw [k1]
      refine r_tableIn (pc := 11) (off := 52) (tgt := 63) d_Md_of_11 (by decide) (by decide) (by decide +kernel) (by decide) ?_
      refine lda_n_3_0 (pc := 63) d_Md_of_63 ?_
      refine g_Md_15 (pc := 64) rfl d_Md_of_64 (by assumption) (by assumption) ?_
      refine ldi_n_3_1 (pc := 67) d_Md_of_67 ?_
      refine r_iald (pc := 68) d_Md_of_68 (by assumption) (by first | assumption | exact vp_in_nI (by omega) (by omega) | (unfold vp_in; decide)) ?_
      exact r_iret d_Md_of_69 rfl (by omega) (by omega) (⟨(by unfold ga_of; rw [if_neg c1, if_neg (show ¬ (1 : Int32) = 0 by decide), if_pos (show (1 : Int32) = 1 from rfl), qcl (by omega)]), rfl, mSame.rf, rfl⟩)
    by_cases k2 : w = 2
    · rw [k2]
      refine r_tableIn (pc := 11) (off := 59) (tgt := 70) d_Md_of_11 (by decide) (by decide) (by decide +kernel) (by decide) ?_
      refine lda_n_3_0 (pc := 70) d_Md_of_70 ?_
      refine g_Md_18 (pc := 71) rfl d_Md_of_71 (by assumption) (by assumption) ?_
      refine ldi_n_3_1 (pc := 74) d_Md_of_74 ?_
      refine r_iald (pc := 75) d_Md_of_75 (by assumption) (by first | assumption | exact vp_in_nI (by omega) (by omega) | (unfold vp_in; decide)) ?_
      exact r_iret d_Md_of_76 rfl (by omega) (by omega) (⟨(by unfold ga_of; rw [if_neg c1, if_neg (show ¬ (2 : Int32) = 0 by decide), if_neg (show ¬ (2 : Int32) = 1 by decide), if_pos (show (2 : Int32) = 2 from rfl), qcl (by omega)]), rfl, mSame.rf, rfl⟩)
    by_cases k3 : w = 3
    · rw [k3]
      refine r_tableIn (pc := 11) (off := 66) (tgt := 77) d_Md_of_11 (by decide) (by decide) (by decide +kernel) (by decide) ?_
      refine lda_n_3_0 (pc := 77) d_Md_of_77 ?_
      refine g_Md_21 (pc := 78) rfl d_Md_of_78 (by assumption) (by assumption) ?_
      refine ldi_n_3_1 (pc := 81) d_Md_of_81 ?_
      refine r_iald (pc := 82) d_Md_of_82 (by assumption) (by first | assumption | exact vp_in_nI (by omega) (by omega) | (unfold vp_in; decide)) ?_
      exact r_iret d_Md_of_83 rfl (by omega) (by omega) (⟨(by unfold ga_of; rw [if_neg c1, if_neg (show ¬ (3 : Int32) = 0 by decide), if_neg (show ¬ (3 : Int32) = 1 by decide), if_neg (show ¬ (3 : Int32) = 2 by decide), if_pos (show (3 : Int32) = 3 from rfl), qcl (by omega)]), rfl, mSame.rf, rfl⟩)
    by_cases k4 : w = 4
    · rw [k4]
      refine r_tableIn (pc := 11) (off := 73) (tgt := 84) d_Md_of_11 (by decide) (by decide) (by decide +kernel) (by decide) ?_
      refine lda_n_3_0 (pc := 84) d_Md_of_84 ?_
      refine g_Md_24 (pc := 85) rfl d_Md_of_85 (by assumption) (by assumption) ?_
      refine ldi_n_3_1 (pc := 88) d_Md_of_88 ?_
      refine r_iald (pc := 89) d_Md_of_89 (by assumption) (by first | assumption | exact vp_in_nI (by omega) (by omega) | (unfold vp_in; decide)) ?_
      exact r_iret d_Md_of_90 rfl (by omega) (by omega) (⟨(by unfold ga_of; rw [if_neg c1, if_neg (show ¬ (4 : Int32) = 0 by decide), if_neg (show ¬ (4 : Int32) = 1 by decide), if_neg (show ¬ (4 : Int32) = 2 by decide), if_neg (show ¬ (4 : Int32) = 3 by decide), if_pos (show (4 : Int32) = 4 from rfl), qcl (by omega)]), rfl, mSame.rf, rfl⟩)
    by_cases k5 : w = 5
    · rw [k5]
      refine r_tableIn (pc := 11) (off := 80) (tgt := 91) d_Md_of_11 (by decide) (by decide) (by decide +kernel) (by decide) ?_
      refine lda_n_3_0 (pc := 91) d_Md_of_91 ?_
      refine g_Md_27 (pc := 92) rfl d_Md_of_92 (by assumption) (by assumption) ?_
      refine ldi_n_3_1 (pc := 95) d_Md_of_95 ?_
      refine r_iald (pc := 96) d_Md_of_96 (by assumption) (by first | assumption | exact vp_in_nI (by omega) (by omega) | (unfold vp_in; decide)) ?_
      exact r_iret d_Md_of_97 rfl (by omega) (by omega) (⟨(by unfold ga_of; rw [if_neg c1, if_neg (show ¬ (5 : Int32) = 0 by decide), if_neg (show ¬ (5 : Int32) = 1 by decide), if_neg (show ¬ (5 : Int32) = 2 by decide), if_neg (show ¬ (5 : Int32) = 3 by decide), if_neg (show ¬ (5 : Int32) = 4 by decide), if_pos (show (5 : Int32) = 5 from rfl), qcl (by omega)]), rfl, mSame.rf, rfl⟩)
    by_cases k6 : w = 6
    · rw [k6]
      refine r_tableIn (pc := 11) (off := 87) (tgt := 98) d_Md_of_11 (by decide) (by decide) (by decide +kernel) (by decide) ?_
      refine lda_n_3_0 (pc := 98) d_Md_of_98 ?_
      refine ldi_n_3_1 (pc := 99) d_Md_of_99 ?_
      refine r_callV (pc := 100) (As := [.int (nI p)]) (k := 9) (N := 56) (T := T_Md) k_Md_131 im_Md_placeOf se_Md_placeOf rfl (by decide) rfl (by decide) d_Md_of_100 hT (c_Md_placeOf hM hl l6) rfl (Nat.le_of_ble_eq_true rfl) (by omega) (by omega) (by omega) (fun v S' I' J' hq => ?_)
      obtain ⟨rfl, rfl, rfl, rfl⟩ := hq
      exact r_iret d_Md_of_103 rfl (by omega) (by omega) (⟨(by unfold ga_of; rw [if_neg c1, if_neg (show ¬ (6 : Int32) = 0 by decide), if_neg (show ¬ (6 : Int32) = 1 by decide), if_neg (show ¬ (6 : Int32) = 2 by decide), if_neg (show ¬ (6 : Int32) = 3 by decide), if_neg (show ¬ (6 : Int32) = 4 by decide), if_neg (show ¬ (6 : Int32) = 5 by decide), if_pos (show (6 : Int32) = 6 from rfl)]), rfl, mSame.rf, rfl⟩)
    by_cases k7 : w = 7
    · rw [k7]
      refine r_tableIn (pc := 11) (off := 93) (tgt := 104) d_Md_of_11 (by decide) (by decide) (by decide +kernel) (by decide) ?_
      refine lda_n_3_0 (pc := 104) d_Md_of_104 ?_
      refine ldi_n_3_1 (pc := 105) d_Md_of_105 ?_
      refine lda_n_3_0 (pc := 106) d_Md_of_106 ?_
      refine g_Md_135 (pc := 107) rfl d_Md_of_107 (by assumption) ?_
      refine lda_n_3_0 (pc := 110) d_Md_of_110 ?_
      refine g_Md_21 (pc := 111) rfl d_Md_of_111 (by assumption) (by assumption) ?_
      refine ldi_n_3_1 (pc := 114) d_Md_of_114 ?_
      refine r_iald (pc := 115) d_Md_of_115 (by assumption) (by first | assumption | exact vp_in_nI (by omega) (by omega) | (unfold vp_in; decide)) ?_
      rw [hd0]
      refine r_callV (pc := 116) (As := [_, _, _]) (k := 9) (N := 56) (T := T_Md) k_Md_138 im_Md_pain se_Md_pain rfl (by decide) rfl (by decide) d_Md_of_116 hT (c_Md_pain (dd := d0) hM i1 i2 (show p < 6 by omega) rfl (by omega)) rfl (Nat.le_of_ble_eq_true rfl) (by omega) (by omega) (by omega) (fun v S' I' J' hq => ?_)
      obtain ⟨rfl, rfl, hg, rfl⟩ := hq
      exact r_iret d_Md_of_119 rfl (by omega) (by omega) (⟨(by unfold ga_of; rw [if_neg c1, if_neg (show ¬ (7 : Int32) = 0 by decide), if_neg (show ¬ (7 : Int32) = 1 by decide), if_neg (show ¬ (7 : Int32) = 2 by decide), if_neg (show ¬ (7 : Int32) = 3 by decide), if_neg (show ¬ (7 : Int32) = 4 by decide), if_neg (show ¬ (7 : Int32) = 5 by decide), if_neg (show ¬ (7 : Int32) = 6 by decide), if_pos (show (7 : Int32) = 7 from rfl), qcl (by omega)]), rfl, mSame.q130 hg, rfl⟩)
    refine r_tableOut (pc := 11) (tgt := 120) d_Md_of_11 (by simp only [← Int32.toInt_inj, Int32.reduceToInt] at k0 k1 k2 k3 k4 k5 k6 k7; omega) (by decide) ?_
    refine r_iconst (pc := 120) (v := (-1)) d_Md_of_120 rfl ?_
    exact r_iret d_Md_of_121 rfl (by omega) (by omega) (⟨(by unfold ga_of; rw [if_neg c1, if_neg k0, if_neg k1, if_neg k2, if_neg k3, if_neg k4, if_neg k5, if_neg k6, if_neg k7]), rfl, mSame.rf, rfl⟩)
  · refine r_iconst (pc := 8) (v := (-1)) d_Md_of_8 rfl ?_
    exact r_iret d_Md_of_9 rfl (by omega) (by omega) (⟨(by unfold ga_of; rw [if_pos c1]), rfl, mSame.rf, rfl⟩)
theorem K_ofX {x w : Int32} (h : cINV S I J w0 w1 w2 bl) : qMet E y_On_of b_On_of 4 (some .int) 4 0 0 [.ref (qb E + 0), .int x, .int w] S I J (fun u S' I' J' => (((∃ c l, c ≤ 6 ∧ I 6 1 = nI c ∧ l ≤ 6 ∧ I 6 3 = nI l ∧ u = some (.int (ca_of I c l w0 x w))) ∧ cU I I' J J') ∧ cW S S' I I') ∧ KQ0 S I J (cT I) u S' I' J') := by
  have h0 := h
  have hw4 := h.w4
  obtain ⟨hO, hZ, hN, ⟨e0, e1, e2, eb, s0, s2, s3⟩, hd⟩ := h
  obtain ⟨hok, hI0, hI2, hah, him, hig, hrd, hts, hh⟩ := id hd
  obtain ⟨c, hc6, hc⟩ := hok.1
  obtain ⟨l, hl6, hl⟩ := hok.2.1
  obtain ⟨d, hd9, hdd⟩ := hok.2.2.1
  obtain ⟨z1, y1, x1⟩ := hok.2.2.2.1
  obtain ⟨z2, y2, x2⟩ := hok.2.2.2.2.1
  obtain ⟨z3, y3, x3⟩ := hok.2.2.2.2.2.1
  refine (c_On_ofX hO e0 hI0 hc hc6 hl hl6 hdd hd9).px (fun u S' I' J' hq => ⟨⟨⟨c, l, hc6, hc, hl6, hl, hq.1⟩, cU.qpr e0 hq.2.2.1 hq.2.2.2⟩, cW.qpr hO e0 e2 s3 hq.2.1 hq.2.2.1⟩) (fun v S' I' J' hq => ?_)
  obtain ⟨-, rfl, fr, fj⟩ := hq
  unfold qW1 at e0 e2
  refine ⟨⟨_, _, _, _, h0.new (hd.fr (fun a ha => fr a ?_) e0 e2) (fun a ha => fr a ?_) (fun a ha => fj a (by omega))⟩, id, fun a a1 a2 => ⟨fr a ?_, fj a (by omega)⟩, congrFun (fr 6 ?_) 1, congrFun (fr 0 ?_) 4, congrFun (fr 60 ?_) 1⟩
  · unfold cR at ha; unfold qPr; omega
  all_goals (unfold qPr; omega)
theorem R_ofX {x w : Int32} (hM : isMd S) (h : rDat I) : qMet E y_Md_of b_Md_of 3 (some .int) 4 0 0 [.ref (qb E + 114), .int x, .int w] S I J (fun u S' I' J' => (((∃ c l d, c ≤ 6 ∧ I 114 0 = nI c ∧ l ≤ 6 ∧ I 114 8 = nI l ∧ d ≤ 9999 ∧ I 114 10 = nI d ∧ u = some (.int (ga_of I c l d x w))) ∧ rU I I' J J') ∧ rW I I') ∧ RQ0 S I J (rT I) u S' I' J') := by
  obtain ⟨-, ⟨c, c6, hc⟩, ⟨l, l6, hl⟩, -, d0, hd9, hd0⟩ := h.day
  refine (c_Md_ofX hM h.day hc c6 hl l6 hd0 hd9).px (fun u S' I' J' hq => by obtain ⟨h, -, hs, hj⟩ := hq; exact ⟨⟨⟨c, l, d0, c6, hc, l6, hl, hd9, hd0, h⟩, rU.ask hs (fun b _ => by rw [← hj])⟩, rW.ask hs⟩) (fun v S' I' J' hq => ?_)
  obtain ⟨-, hS, hs, hj⟩ := hq
  exact RQ.ask h hS hs (fun b _ => by rw [← hj])
end V39
/-- both say the same of one -/
theorem x_of {S S1 : qSh} {I I1 : qI} {J J1 : qJ} {T : qI → Prop} {v v2 : Option Value} {w0 : Nat} {x w : Int32} (g : vINV S I J) (hw : qR S 6 5 = some w0) (pK : ∃ c l, c ≤ 6 ∧ I 6 1 = nI c ∧ l ≤ 6 ∧ I 6 3 = nI l ∧ v = some (.int (ca_of I c l w0 x w))) (hK : KQ0 S I J T v S1 I1 J1) (pR : ∃ c l d, c ≤ 6 ∧ I1 114 0 = nI c ∧ l ≤ 6 ∧ I1 114 8 = nI l ∧ d ≤ 9999 ∧ I1 114 10 = nI d ∧ v2 = some (.int (ga_of I1 c l d x w))) : v = v2 := by
  have cf := hK.2.2.1
  obtain ⟨c, l, c6, hc, l6, hl, hv⟩ := pK
  obtain ⟨c', l', d, c6', hc', l6', hl', d9, hd, hv2⟩ := pR
  have c114 := (cf 114 (by omega) (by omega)).1
  rw [c114] at hc' hl' hd
  obtain ⟨a1, a2, a3, a4, a5, a6, a7, a8⟩ := g.1.2.2.2.1
  have ec : c' = c := (nI_eq (by omega) (by omega)).mp (hc'.symm.trans (a1.trans hc))
  subst ec
  have el : l' = l := (nI_eq (by omega) (by omega)).mp (hl'.symm.trans (a2.trans hl))
  subst el
  have hd6 : I 6 4 = nI d := a3.symm.trans hd
  rw [hv, hv2]
  congr 2
  unfold ca_of ga_of
  by_cases q0 : qwithin x 0 (nI c' - 1) = 0
  · rw [if_pos q0, if_pos q0]
  rw [if_neg q0, if_neg q0]
  obtain ⟨p, hp, rfl⟩ := qisM_y (show c' < 2 ^ 31 by omega) q0
  rw [qcl (n := p) (by omega)]
  obtain ⟨b1, b0, b2⟩ := a7 c' p c6 hc hp
  obtain ⟨h3, h4, h5, h6, h7, h8, h9⟩ := g.2.2.1 c' p c6 hc hp
  obtain ⟨g1, g2, g3, g4⟩ := kp_h4 (I := I) (p := p) (by omega)
  have x1 : kp I p = I 115 p := by have := kp_115 (I := I) (k := p) (by omega); rwa [Nat.zero_add] at this
  rw [x1] at b1
  rw [kp_116 (by omega)] at b0
  rw [g1] at h3
  rw [g2] at h4
  rw [g3] at h5
  rw [g4] at h6
  have m : ∀ a, 114 ≤ a → a ≤ 147 → I1 a = I a := fun a h1 h2 => (cf a h1 h2).1
  rw [m 115 (by omega) (by omega), m 116 (by omega) (by omega), m 117 (by omega) (by omega), m 118 (by omega) (by omega), m 119 (by omega) (by omega), m 120 (by omega) (by omega), m 122 (by omega) (by omega), b1, b0, h3, h4, h5, h6]
  have bit : (if I (qm 6 p) 6 = 0 then (0 : Int32) else 1) = I (qm 6 p) 6 := by
    rcases h7 with q | q
    · rw [q, if_pos rfl]
    · rw [q, if_neg (by decide)]
  have pl : qplace (I 8) (nI p) l' l' = qplace (I 122) (nI p) l' l' := (qplace_cg (f := I 122) (g := I 8) (fun i hi => by
    have := a8 l' i l6 hl hi
    rw [kp_122 (by omega)] at this
    exact this) l' (Nat.le_refl _)).symm
  have pn : qpainAt I 6 w0 (qm 6 p) (nI 0) = mpain I1 p (nI d) (I (qm 6 p) 4) := by
    have z1 : ∀ y : Int32, y + nI 0 = y := fun y => Int32.add_zero y
    unfold qpainAt
    rw [z1, z1, hd6]
    have w9 : qmin 99 (I (qm 6 p) 4) = I (qm 6 p) 4 := by
      unfold qmin
      by_cases q : I (qm 6 p) 4 < 99
      · rw [if_pos q]
      · rw [if_neg q]
        exact Int32.le_antisymm (Int32.not_lt.mp q) h9
    rw [w9]
    have hr : ∀ r, r < 4 → I (qm 6 p + 1) r = I1 121 (4 * p + r) := fun r hr' => by
      have := b2 r hr'
      rw [kp_121 (by omega)] at this
      rw [m 121 (by omega) (by omega)]
      exact this.symm
    refine x_pain (dd := d) (g.1.2.2.2.2.2.2.2.1.2.2 p (by omega)) ?_ ?_ ?_ hr ?_ (by omega)
    · rw [m 115 (by omega) (by omega), b1]
    · rw [m 116 (by omega) (by omega), b0]
    · rw [m 117 (by omega) (by omega), h3]
    · rw [c114]
      exact (g.2.1 w0 hw).fr (fun _ _ => rfl) (fun a ha => m a (by omega) (by omega)) (by rw [c114])
  rw [bit, pl, pn]
/-! judge, told exactly -/
def qjudge (z : Nat) (i : Int32) (T H : Nat → Int64) : Nat → Nat → Int32
  | 0, _ => -5
  | r + 1, k => if 0 ≤ i ∧ i.toNatClampNeg + k < z then (if lg_cmp (T (i.toNatClampNeg + k)) (H k) = 0 then qjudge z i T H r (k + 1) else nI k) else 100 + nI k
def ca_judge (I : qI) (J : qJ) (c : Nat) (tp i : Int32) : Int32 := if qwithin tp 0 5 = 0 then -1 else if I (102 + 2 * tp.toNatClampNeg) 0 = -1 ∨ I (102 + 2 * tp.toNatClampNeg) 0 = 2 then qjudge (I (102 + 2 * tp.toNatClampNeg) 1).toNatClampNeg i (J (102 + 2 * tp.toNatClampNeg + 1)) (fun k => (I (qm 6 k) 5).toInt64) c 0 else -12
def ga_judge (I : qI) (J : qJ) (c : Nat) (tp i : Int32) : Int32 := if qwithin tp 0 5 = 0 then -1 else if I 145 tp.toNatClampNeg = -1 ∨ I 145 tp.toNatClampNeg = 2 then qjudge (if I 145 tp.toNatClampNeg = -1 then 0 else (I 146 tp.toNatClampNeg).toNatClampNeg) i (fun x => J 147 (60 * tp.toNatClampNeg + x)) (fun k => (I 119 k).toInt64) c 0 else -12
section V40
variable {E : qE} {S : qSh} {I : qI} {J : qJ} {w0 w1 w2 bl : Nat}
theorem c_On_judgeX {tp i : Int32} {c : Nat} (hO : isOn S w0 w1 w2 bl) (hc : I 6 1 = nI c) (hc6 : c ≤ 6) (hts : ∀ t, t < 6 → ∃ z, z ≤ 60 ∧ I (102 + 2 * t) 1 = nI z) : qMet E y_On_judge b_On_judge 5 (some .int) 2 0 0 [.ref (qb E + 0), .int tp, .int i] S I J (qPi S I J (ca_judge I J c tp i)) := by
  obtain ⟨oT, oR0, oR1, oR2, oR3, oR5, oR6, oR8, oR9, oR10, hI1, hN, hA, hM3, hRe, hBl, hRo, hAc, tA, tR, tT⟩ := hO
  have hN0 := hN
  obtain ⟨mT, mA1, mA2, mR0, mR2, mR5, mR6, mR7, mR8, nS, nP, nB, nI0, mRp, mMp⟩ := hN
  refine qMet.of (L := [some (.ref (qb E + 0)), some (.int tp), some (.int i), none, none]) (by decide +kernel) (Nat.le_of_ble_eq_true rfl) rfl ?_
  refine ldi_n_5_1 (pc := 0) d_On_judge_0 ?_
  refine r_callS (pc := 1) (As := [.int tp]) k_On_247 sw_On_isTape rfl (by decide) d_On_judge_1 (c_On_isTape tp) rfl (Nat.le_of_ble_eq_true rfl) (by omega) (by omega) (by omega) (fun v S' I' J' hq => ?_)
  obtain ⟨rfl, rfl, rfl, rfl⟩ := hq
  refine r_if_ne (pc := 4) (tgt := 9) d_On_judge_4 (by decide) (fun c1 => ?_) (fun c1 => ?_)
  · obtain ⟨t, ht, rfl⟩ := qtape_y c1
    have hRt : qR S 101 (nI t).toNatClampNeg = some (102 + 2 * t) := by rw [qcl (by omega)]; exact tR t ht
    obtain ⟨hT0, hTA, hTR⟩ := tT t ht
    have hin : vp_in (nI t) 6 := vp_in_nI ht (by omega)
    obtain ⟨z, z1, z2⟩ := hts t ht
    generalize hR : ca_judge I J c (nI t) i = R
    unfold ca_judge at hR
    rw [if_neg c1, qcl (n := t) (by omega), z2, qcl (n := z) (by omega)] at hR
    have key := qfor (P := fun k => qjudge z i (J (102 + 2 * t + 1)) (fun k => (I (qm 6 k) 5).toInt64) (c - k) k = R → qW E y_On_judge b_On_judge (some .int) 2 0 0 (qPi S I J R) 0 0 38 [some (.ref (qb E + 0)), some (.int (nI t)), some (.int i), some (.ref (qb E + (102 + 2 * t))), some (.int (nI k))] [] S I J) c ?_ ?_ 0 (by omega)
    · refine lda_n_5_0 (pc := 9) d_On_judge_9 ?_
      refine g_On_59 (pc := 10) rfl d_On_judge_10 (by assumption) (by assumption) ?_
      refine ldi_n_5_1 (pc := 13) d_On_judge_13 ?_
      refine r_aald15 (pc := 14) d_On_judge_14 (by assumption) (by first | assumption | exact vp_in_nI (by omega) (by omega) | (unfold vp_in; decide)) (by assumption) ?_
      refine sta_n_5_3 (pc := 15) d_On_judge_15 rfl ?_
      refine lda_n_5_3 (pc := 16) d_On_judge_16 ?_
      refine g_On_250 (pc := 17) rfl d_On_judge_17 (by assumption) ?_
      refine r_iconst (pc := 20) (v := (-1)) d_On_judge_20 rfl ?_
      refine r_icmp_eq (pc := 21) (tgt := 35) d_On_judge_21 (by decide) (fun c2 => ?_) (fun c2 => ?_)
      · refine r_iconst (pc := 35) (v := 0) d_On_judge_35 rfl ?_
        refine sti_5_4 (pc := 36) d_On_judge_36 rfl ?_
        rw [if_pos (Or.inl c2)] at hR
        exact key hR
      · refine lda_n_5_3 (pc := 24) d_On_judge_24 ?_
        refine g_On_250 (pc := 25) rfl d_On_judge_25 (by assumption) ?_
        refine r_iconst (pc := 28) (v := 2) d_On_judge_28 rfl ?_
        refine r_icmp_eq (pc := 29) (tgt := 35) d_On_judge_29 (by decide) (fun c3 => ?_) (fun c3 => ?_)
        · refine r_iconst (pc := 35) (v := 0) d_On_judge_35 rfl ?_
          refine sti_5_4 (pc := 36) d_On_judge_36 rfl ?_
          rw [if_pos (Or.inr c3)] at hR
          exact key hR
        · refine r_bipush (pc := 32) (v := (-12)) d_On_judge_32 rfl ?_
          rw [if_neg (fun q => q.elim c2 c3)] at hR
          exact r_iret d_On_judge_34 rfl (by omega) (by omega) (⟨by rw [← hR], rfl, rfl, rfl⟩)
    · intro hj
      rw [Nat.sub_self] at hj
      refine ldi_5_4 (pc := 38) d_On_judge_38 ?_
      refine lda_n_5_0 (pc := 40) d_On_judge_40 ?_
      refine g_On_23 (pc := 41) rfl d_On_judge_41 (by assumption) (by assumption) ?_
      refine g_On_68 (pc := 44) rfl d_On_judge_44 (by assumption) ?_
      rw [hc]
      refine r_icmp_ge (pc := 47) (tgt := 107) d_On_judge_47 (by decide) (fun c4 => ?_) (fun c4 => ?_)
      · refine r_bipush (pc := 107) (v := (-5)) d_On_judge_107 rfl ?_
        exact r_iret d_On_judge_109 rfl (by omega) (by omega) (⟨by rw [← hj]; rfl, rfl, rfl, rfl⟩)
      · exact absurd (nI_le (Nat.le_refl _) (by omega)) c4
    · intro k hk ih hj
      rw [show c - k = (c - (k + 1)) + 1 by omega, qjudge] at hj
      refine ldi_5_4 (pc := 38) d_On_judge_38 ?_
      refine lda_n_5_0 (pc := 40) d_On_judge_40 ?_
      refine g_On_23 (pc := 41) rfl d_On_judge_41 (by assumption) (by assumption) ?_
      refine g_On_68 (pc := 44) rfl d_On_judge_44 (by assumption) ?_
      rw [hc]
      refine r_icmp_ge (pc := 47) (tgt := 107) d_On_judge_47 (by decide) (fun c4 => ?_) (fun c4 => ?_)
      · exact absurd c4 (nI_ge hk (by omega))
      · have hinp : vp_in (nI k) 6 := vp_in_nI (by omega) (by omega)
        have hRc : qR S (6 + 1) (nI k).toNatClampNeg = some (qm 6 k) := by rw [qcl (by omega)]; exact mRp k (by omega)
        have hMT : qT S (qm 6 k) 2 := (mMp k (by omega)).1
        refine ldi_n_5_2 (pc := 50) d_On_judge_50 ?_
        refine r_if_lt (pc := 51) (tgt := 65) d_On_judge_51 (by decide) (fun c5 => ?_) (fun c5 => ?_)
        · rw [if_neg (fun q => absurd c5 (Int32.not_lt.mpr q.1))] at hj
          refine r_bipush (pc := 65) (v := 100) d_On_judge_65 rfl ?_
          refine ldi_5_4 (pc := 67) d_On_judge_67 ?_
          refine r_iadd (pc := 69) d_On_judge_69 ?_
          exact r_iret d_On_judge_70 rfl (by omega) (by omega) (⟨by rw [← hj], rfl, rfl, rfl⟩)
        · obtain ⟨a, a1, rfl⟩ := nI_of c5
          refine ldi_n_5_2 (pc := 54) d_On_judge_54 ?_
          refine lda_n_5_3 (pc := 55) d_On_judge_55 ?_
          refine g_On_253 (pc := 56) rfl d_On_judge_56 (by assumption) ?_
          refine ldi_5_4 (pc := 59) d_On_judge_59 ?_
          refine r_isub (pc := 61) d_On_judge_61 ?_
          rw [z2]
          refine r_icmp_lt (pc := 62) (tgt := 71) d_On_judge_62 (by decide) (fun c6 => ?_) (fun c6 => ?_)
          · have hk2 : k ≤ z := by
              rcases Nat.lt_or_ge z k with q | q
              · have := sub_neg60 z (by omega) k (by omega) q
                have n0 := nI_pos a1
                exact absurd (Int32.lt_trans c6 this) n0
              · exact q
            rw [nI_subN hk2] at c6
            have hlt : a < z - k := (nI_ltI a1 (by omega)).mp c6
            have hinx : vp_in (nI a + nI k) 60 := by rw [nI_add]; exact vp_in_nI (by omega) (by omega)
            rw [if_pos ⟨Int32.not_lt.mp c5, by rw [qcl (by omega)]; omega⟩, qcl (n := a) (by omega)] at hj
            refine lda_n_5_3 (pc := 71) d_On_judge_71 ?_
            refine g_On_254 (pc := 72) rfl d_On_judge_72 (by assumption) (by assumption) ?_
            refine ldi_n_5_2 (pc := 75) d_On_judge_75 ?_
            refine ldi_5_4 (pc := 76) d_On_judge_76 ?_
            refine r_iadd (pc := 78) d_On_judge_78 ?_
            refine r_lald (pc := 79) d_On_judge_79 (by assumption) (by first | assumption | exact vp_in_nI (by omega) (by omega) | (unfold vp_in; decide)) ?_
            refine lda_n_5_0 (pc := 80) d_On_judge_80 ?_
            refine g_On_23 (pc := 81) rfl d_On_judge_81 (by assumption) (by assumption) ?_
            refine g_On_72 (pc := 84) rfl d_On_judge_84 (by assumption) (by assumption) ?_
            refine ldi_5_4 (pc := 87) d_On_judge_87 ?_
            refine r_aald14 (pc := 89) d_On_judge_89 (by assumption) (by first | assumption | exact vp_in_nI (by omega) (by omega) | (unfold vp_in; decide)) (by assumption) ?_
            refine g_On_98 (pc := 90) rfl d_On_judge_90 (by assumption) ?_
            refine r_i2l (pc := 93) d_On_judge_93 ?_
            refine r_lcmp (pc := 94) d_On_judge_94 ?_
            refine r_if_eq (pc := 95) (tgt := 101) d_On_judge_95 (by decide) (fun c7 => ?_) (fun c7 => ?_)
            · rw [nI_add, qcl (by omega)] at c7
              rw [if_pos c7] at hj
              refine inc_5_4 (pc := 101) (w := 1) d_On_judge_101 rfl rfl ?_
              refine r_goto (pc := 104) (tgt := 38) d_On_judge_104 (by decide) ?_
              rw [q1]
              exact ih hj
            · rw [nI_add, qcl (by omega)] at c7
              rw [if_neg c7] at hj
              refine ldi_5_4 (pc := 98) d_On_judge_98 ?_
              exact r_iret d_On_judge_100 rfl (by omega) (by omega) (⟨by rw [← hj], rfl, rfl, rfl⟩)
          · rw [if_neg (fun q => by
              have q2 := q.2
              rw [qcl (by omega)] at q2
              refine c6 ?_
              rw [nI_subN (by omega)]
              exact (nI_ltI a1 (by omega)).mpr (by omega))] at hj
            refine r_bipush (pc := 65) (v := 100) d_On_judge_65 rfl ?_
            refine ldi_5_4 (pc := 67) d_On_judge_67 ?_
            refine r_iadd (pc := 69) d_On_judge_69 ?_
            exact r_iret d_On_judge_70 rfl (by omega) (by omega) (⟨by rw [← hj], rfl, rfl, rfl⟩)
  · refine r_iconst (pc := 7) (v := (-1)) d_On_judge_7 rfl ?_
    exact r_iret d_On_judge_8 rfl (by omega) (by omega) (⟨by unfold ca_judge; rw [if_pos c1], rfl, rfl, rfl⟩)
theorem c_Md_judgeX {c : Nat} {tp i : Int32} (hM : isMd S) (hc : I 114 0 = nI c) (c6 : c ≤ 6) (hTs : ∀ t, t < 6 → ∃ z, z ≤ 60 ∧ I 146 t = nI z) : qMet E y_Md_judge b_Md_judge 4 (some .int) 1 0 0 [.ref (qb E + 114), .int tp, .int i] S I J (qPi S I J (ga_judge I J c tp i)) := by
  have hT := hM.1
  have f5 := hM.r 4 rfl
  have g5 := hM.a 4 rfl
  have f53 := hM.r 30 rfl
  have g53 := hM.a 30 rfl
  have f54 := hM.r 31 rfl
  have g54 := hM.a 31 rfl
  have f55 := hM.r 32 rfl
  have g55 := hM.a 32 rfl
  refine qMet.of (L := [some (.ref (qb E + 114)), some (.int tp), some (.int i), none]) (by decide +kernel) (Nat.le_of_ble_eq_true rfl) rfl ?_
  refine ldi_n_4_1 (pc := 0) d_Md_judge_0 ?_
  refine r_iconst (pc := 1) (v := 0) d_Md_judge_1 rfl ?_
  refine r_iconst (pc := 2) (v := 5) d_Md_judge_2 rfl ?_
  refine r_callS (pc := 3) (As := [.int tp, .int 0, .int 5]) k_Md_120 sw_Md_within rfl (by decide) d_Md_judge_3 (c_Md_within tp 0 5) rfl (Nat.le_of_ble_eq_true rfl) (by omega) (by omega) (by omega) (fun v S' I' J' hq => ?_)
  obtain ⟨rfl, rfl, rfl, rfl⟩ := hq
  refine r_if_ne (pc := 6) (tgt := 11) d_Md_judge_6 (by decide) (fun c1 => ?_) (fun c1 => ?_)
  · obtain ⟨t, ht, et⟩ := qtape_y c1
    have ett : tp.toNatClampNeg = t := by rw [et]; exact qcl (by omega)
    have hin : vp_in tp 6 := by rw [et]; exact vp_in_nI ht (by omega)
    obtain ⟨z, hz, ez⟩ := hTs t ht
    generalize hR : ga_judge I J c tp i = R
    unfold ga_judge at hR
    rw [if_neg c1] at hR
    generalize hzz : (if I 145 tp.toNatClampNeg = -1 then 0 else (I 146 tp.toNatClampNeg).toNatClampNeg) = zz at hR
    have body : qjudge zz i (fun x => J 147 (60 * tp.toNatClampNeg + x)) (fun k => (I 119 k).toInt64) c 0 = R → qW E y_Md_judge b_Md_judge (some .int) 1 0 0 (qPi S I J R) 0 0 34 [some (.ref (qb E + 114)), some (.int tp), some (.int i), none] [] S I J := by
      intro hj0
      refine r_iconst (pc := 34) (v := 0) d_Md_judge_34 rfl ?_
      refine sti_n_4_3 (pc := 35) d_Md_judge_35 rfl ?_
      rw [q0]
      have key : ∀ k, k ≤ c → qjudge zz i (fun x => J 147 (60 * tp.toNatClampNeg + x)) (fun k => (I 119 k).toInt64) (c - k) k = R → qW E y_Md_judge b_Md_judge (some .int) 1 0 0 (qPi S I J R) 0 0 36 [some (.ref (qb E + 114)), some (.int tp), some (.int i), some (.int (nI k))] [] S I J := by
        refine qfor c ?_ ?_
        · intro hj
          rw [Nat.sub_self] at hj
          refine ldi_n_4_3 (pc := 36) d_Md_judge_36 ?_
          refine lda_n_4_0 (pc := 37) d_Md_judge_37 ?_
          refine g_Md_117 (pc := 38) rfl d_Md_judge_38 (by assumption) ?_
          rw [hc]
          refine r_icmp_ge (pc := 41) (tgt := 111) d_Md_judge_41 (by decide) (fun cc => ?_) (fun cc => ?_)
          · refine r_bipush (pc := 111) (v := (-5)) d_Md_judge_111 rfl ?_
            exact r_iret d_Md_judge_113 rfl (by omega) (by omega) (⟨by rw [← hj]; rfl, rfl, rfl, rfl⟩)
          · exact absurd (nI_le (Nat.le_refl c) (by omega)) cc
        · intro k hk ih hj
          rw [show c - k = (c - (k + 1)) + 1 by omega, qjudge] at hj
          have bad : (¬ (0 ≤ i ∧ i.toNatClampNeg + k < zz)) → qW E y_Md_judge b_Md_judge (some .int) 1 0 0 (qPi S I J R) 0 0 74 [some (.ref (qb E + 114)), some (.int tp), some (.int i), some (.int (nI k))] [] S I J := by
            intro hb
            rw [if_neg hb] at hj
            refine r_bipush (pc := 74) (v := 100) d_Md_judge_74 rfl ?_
            refine ldi_n_4_3 (pc := 76) d_Md_judge_76 ?_
            refine r_iadd (pc := 77) d_Md_judge_77 ?_
            exact r_iret d_Md_judge_78 rfl (by omega) (by omega) (⟨by rw [← hj], rfl, rfl, rfl⟩)
          refine ldi_n_4_3 (pc := 36) d_Md_judge_36 ?_
          refine lda_n_4_0 (pc := 37) d_Md_judge_37 ?_
          refine g_Md_117 (pc := 38) rfl d_Md_judge_38 (by assumption) ?_
          rw [hc]
          refine r_icmp_ge (pc := 41) (tgt := 111) d_Md_judge_41 (by decide) (fun cc => ?_) (fun cc => ?_)
          · exact absurd cc (nI_ge hk (by omega))
          · refine lda_n_4_0 (pc := 44) d_Md_judge_44 ?_
            refine g_Md_103 (pc := 45) rfl d_Md_judge_45 (by assumption) (by assumption) ?_
            refine ldi_n_4_1 (pc := 48) d_Md_judge_48 ?_
            refine r_iald (pc := 49) d_Md_judge_49 (by assumption) (by first | assumption | exact vp_in_nI (by omega) (by omega) | (unfold vp_in; decide)) ?_
            refine r_iconst (pc := 50) (v := (-1)) d_Md_judge_50 rfl ?_
            refine r_icmp_eq (pc := 51) (tgt := 74) d_Md_judge_51 (by decide) (fun c2 => ?_) (fun c2 => ?_)
            · exact bad (fun q => by rw [if_pos c2] at hzz; have := q.2; omega)
            · rw [if_neg c2, ett, ez, qcl (by omega)] at hzz
              refine ldi_n_4_2 (pc := 54) d_Md_judge_54 ?_
              refine r_if_lt (pc := 55) (tgt := 74) d_Md_judge_55 (by decide) (fun c3 => ?_) (fun c3 => ?_)
              · exact bad (fun q => absurd c3 (Int32.not_lt.mpr q.1))
              · obtain ⟨y, hy, ey⟩ := nI_of c3
                have eyt : i.toNatClampNeg = y := by rw [ey]; exact qcl (by omega)
                refine ldi_n_4_2 (pc := 58) d_Md_judge_58 ?_
                refine r_i2l (pc := 59) d_Md_judge_59 ?_
                refine ldi_n_4_3 (pc := 60) d_Md_judge_60 ?_
                refine r_i2l (pc := 61) d_Md_judge_61 ?_
                refine r_ladd (pc := 62) d_Md_judge_62 ?_
                refine lda_n_4_0 (pc := 63) d_Md_judge_63 ?_
                refine g_Md_106 (pc := 64) rfl d_Md_judge_64 (by assumption) (by assumption) ?_
                refine ldi_n_4_1 (pc := 67) d_Md_judge_67 ?_
                refine r_iald (pc := 68) d_Md_judge_68 (by assumption) (by first | assumption | exact vp_in_nI (by omega) (by omega) | (unfold vp_in; decide)) ?_
                rw [ett, ez]
                refine r_i2l (pc := 69) d_Md_judge_69 ?_
                refine r_lcmp (pc := 70) d_Md_judge_70 ?_
                refine r_if_lt (pc := 71) (tgt := 79) d_Md_judge_71 (by decide) (fun c4 => ?_) (fun c4 => ?_)
                · rw [ey, lcmp_add hy (by omega) (by omega)] at c4
                  have hin2 : vp_in (60 * tp + i + nI k) 360 := by
                    rw [et, ey, show (60 : Int32) = nI 60 from rfl, pk_mul, nI_add, nI_add]; exact vp_in_nI (by omega) (by omega)
                  have e : (60 * tp + i + nI k).toNatClampNeg = 60 * tp.toNatClampNeg + (i.toNatClampNeg + k) := by
                    rw [ett, eyt, et, ey, show (60 : Int32) = nI 60 from rfl, pk_mul, nI_add, nI_add, qcl (by omega)]; omega
                  rw [if_pos ⟨Int32.not_lt.mp c3, by rw [eyt]; omega⟩] at hj
                  refine lda_n_4_0 (pc := 79) d_Md_judge_79 ?_
                  refine g_Md_109 (pc := 80) rfl d_Md_judge_80 (by assumption) (by assumption) ?_
                  refine r_bipush (pc := 83) (v := 60) d_Md_judge_83 rfl ?_
                  refine ldi_n_4_1 (pc := 85) d_Md_judge_85 ?_
                  refine r_imul (pc := 86) d_Md_judge_86 ?_
                  refine ldi_n_4_2 (pc := 87) d_Md_judge_87 ?_
                  refine r_iadd (pc := 88) d_Md_judge_88 ?_
                  refine ldi_n_4_3 (pc := 89) d_Md_judge_89 ?_
                  refine r_iadd (pc := 90) d_Md_judge_90 ?_
                  refine r_lald (pc := 91) d_Md_judge_91 (by assumption) (by first | assumption | exact vp_in_nI (by omega) (by omega) | (unfold vp_in; decide)) ?_
                  refine lda_n_4_0 (pc := 92) d_Md_judge_92 ?_
                  refine g_Md_24 (pc := 93) rfl d_Md_judge_93 (by assumption) (by assumption) ?_
                  refine ldi_n_4_3 (pc := 96) d_Md_judge_96 ?_
                  refine r_iald (pc := 97) d_Md_judge_97 (by assumption) (by first | assumption | exact vp_in_nI (by omega) (by omega) | (unfold vp_in; decide)) ?_
                  refine r_i2l (pc := 98) d_Md_judge_98 ?_
                  refine r_lcmp (pc := 99) d_Md_judge_99 ?_
                  refine r_if_eq (pc := 100) (tgt := 105) d_Md_judge_100 (by decide) (fun c5 => ?_) (fun c5 => ?_)
                  · rw [e, qcl (n := k) (by omega)] at c5
                    rw [if_pos c5] at hj
                    refine inc_4_3 (pc := 105) (w := 1) d_Md_judge_105 rfl rfl ?_
                    refine r_goto (pc := 108) (tgt := 36) d_Md_judge_108 (by decide) ?_
                    rw [q1]
                    exact ih hj
                  · rw [e, qcl (n := k) (by omega)] at c5
                    rw [if_neg c5] at hj
                    refine ldi_n_4_3 (pc := 103) d_Md_judge_103 ?_
                    exact r_iret d_Md_judge_104 rfl (by omega) (by omega) (⟨by rw [← hj], rfl, rfl, rfl⟩)
                · rw [ey, lcmp_add hy (by omega) (by omega)] at c4
                  exact bad (fun q => by have := q.2; rw [eyt] at this; omega)
      exact key 0 (by omega) hj0
    refine lda_n_4_0 (pc := 11) d_Md_judge_11 ?_
    refine g_Md_103 (pc := 12) rfl d_Md_judge_12 (by assumption) (by assumption) ?_
    refine ldi_n_4_1 (pc := 15) d_Md_judge_15 ?_
    refine r_iald (pc := 16) d_Md_judge_16 (by assumption) (by first | assumption | exact vp_in_nI (by omega) (by omega) | (unfold vp_in; decide)) ?_
    refine r_iconst (pc := 17) (v := (-1)) d_Md_judge_17 rfl ?_
    refine r_icmp_eq (pc := 18) (tgt := 34) d_Md_judge_18 (by decide) (fun c2 => ?_) (fun c2 => ?_)
    · rw [if_pos (Or.inl c2)] at hR
      exact body hR
    · refine lda_n_4_0 (pc := 21) d_Md_judge_21 ?_
      refine g_Md_103 (pc := 22) rfl d_Md_judge_22 (by assumption) (by assumption) ?_
      refine ldi_n_4_1 (pc := 25) d_Md_judge_25 ?_
      refine r_iald (pc := 26) d_Md_judge_26 (by assumption) (by first | assumption | exact vp_in_nI (by omega) (by omega) | (unfold vp_in; decide)) ?_
      refine r_iconst (pc := 27) (v := 2) d_Md_judge_27 rfl ?_
      refine r_icmp_eq (pc := 28) (tgt := 34) d_Md_judge_28 (by decide) (fun c3 => ?_) (fun c3 => ?_)
      · rw [if_pos (Or.inr c3)] at hR
        exact body hR
      · refine r_bipush (pc := 31) (v := (-12)) d_Md_judge_31 rfl ?_
        rw [if_neg (fun q => q.elim c2 c3)] at hR
        exact r_iret d_Md_judge_33 rfl (by omega) (by omega) (⟨by rw [← hR], rfl, rfl, rfl⟩)
  · refine r_iconst (pc := 9) (v := (-1)) d_Md_judge_9 rfl ?_
    exact r_iret d_Md_judge_10 rfl (by omega) (by omega) (⟨by unfold ga_judge; rw [if_pos c1], rfl, rfl, rfl⟩)
theorem K_judgeX {tp i : Int32} (h : cINV S I J w0 w1 w2 bl) : qMet E y_On_judge b_On_judge 5 (some .int) 2 0 0 [.ref (qb E + 0), .int tp, .int i] S I J (fun u S' I' J' => (((∃ c, c ≤ 6 ∧ I 6 1 = nI c ∧ u = some (.int (ca_judge I J c tp i))) ∧ cU I I' J J') ∧ cW S S' I I') ∧ KQ0 S I J (cT I) u S' I' J') := by
  have h0 := h
  obtain ⟨hO, hZ, hN, ⟨e0, e1, e2, eb, s0, s2, s3⟩, hd⟩ := h
  obtain ⟨hok, hI0, hI2, hah, him, hig, hrd, hts, hh⟩ := id hd
  obtain ⟨c, hc6, hc⟩ := hok.1
  refine (c_On_judgeX hO hc hc6 hts).px (fun u S' I' J' hq => ⟨(by obtain ⟨h, -, rfl, rfl⟩ := hq; exact ⟨⟨c, hc6, hc, h⟩, cU.rf⟩), (by obtain ⟨-, rfl, rfl, -⟩ := hq; exact cW.rf)⟩) (fun v S' I' J' hq => ?_)
  obtain ⟨-, rfl, rfl, rfl⟩ := hq
  exact ⟨⟨_, _, _, _, h0⟩, id, fun _ _ _ => ⟨rfl, rfl⟩, rfl, rfl, rfl⟩
theorem R_judgeX {tp i : Int32} (hM : isMd S) (h : rDat I) : qMet E y_Md_judge b_Md_judge 4 (some .int) 1 0 0 [.ref (qb E + 114), .int tp, .int i] S I J (fun u S' I' J' => (((∃ c, c ≤ 6 ∧ I 114 0 = nI c ∧ u = some (.int (ga_judge I J c tp i))) ∧ rU I I' J J') ∧ rW I I') ∧ RQ0 S I J (rT I) u S' I' J') := by
  obtain ⟨c, c6, hc⟩ := h.c
  refine (c_Md_judgeX hM hc c6 h.tapes).px (fun u S' I' J' hq => by obtain ⟨h, -, rfl, rfl⟩ := hq; exact ⟨⟨⟨c, c6, hc, h⟩, rU.rf⟩, rW.rf⟩) (fun v S' I' J' hq => ?_)
  obtain ⟨-, rfl, rfl, rfl⟩ := hq
  exact ⟨rfl, h, fun a ha => ⟨rfl, rfl⟩, rfl, rfl, rfl⟩
end V40
theorem qjudge_cg {z c : Nat} {i : Int32} {T H T2 H2 : Nat → Int64} (hT : ∀ j, j < z → T j = T2 j) (hH : ∀ k, k < c → H k = H2 k) : ∀ r k, r + k ≤ c → qjudge z i T H r k = qjudge z i T2 H2 r k := by
  intro r
  induction r with
  | zero => intro k _; rfl
  | succ r ih =>
    intro k hk
    rw [qjudge, qjudge]
    by_cases q : 0 ≤ i ∧ i.toNatClampNeg + k < z
    · rw [if_pos q, if_pos q, hT _ q.2, hH k (by omega), ih (k + 1) (by omega)]
    · rw [if_neg q, if_neg q]
/-- both judge alike -/
theorem x_judge {S S1 : qSh} {I I1 : qI} {J J1 : qJ} {T : qI → Prop} {v v2 : Option Value} {tp i : Int32} (g : vINV S I J) (pK : ∃ c, c ≤ 6 ∧ I 6 1 = nI c ∧ v = some (.int (ca_judge I J c tp i))) (hK : KQ0 S I J T v S1 I1 J1) (pR : ∃ c, c ≤ 6 ∧ I1 114 0 = nI c ∧ v2 = some (.int (ga_judge I1 J1 c tp i))) : v = v2 := by
  have cf := hK.2.2.1
  obtain ⟨c, c6, hc, hv⟩ := pK
  obtain ⟨c', c6', hc', hv2⟩ := pR
  rw [(cf 114 (by omega) (by omega)).1] at hc'
  obtain ⟨a1, -⟩ := g.1.2.2.2.1
  have ec : c' = c := (nI_eq (by omega) (by omega)).mp (hc'.symm.trans (a1.trans hc))
  subst ec
  rw [hv, hv2]
  congr 2
  unfold ca_judge ga_judge
  by_cases q0 : qwithin tp 0 5 = 0
  · rw [if_pos q0, if_pos q0]
  rw [if_neg q0, if_neg q0]
  obtain ⟨t, ht, rfl⟩ := qtape_y q0
  rw [qcl (n := t) (by omega)]
  obtain ⟨b1, b2, b3, b4⟩ := g.1.2.2.2.2.2.2.1 t ht
  obtain ⟨z, zz, hz⟩ := g.1.2.2.1.tapes t ht
  rw [(cf 145 (by omega) (by omega)).1, (cf 146 (by omega) (by omega)).1, (cf 119 (by omega) (by omega)).1, (cf 147 (by omega) (by omega)).2, ← b1, ← b2, hz, qcl (n := z) (by omega)]
  have eH : ∀ k, k < c' → (I (qm 6 k) 5).toInt64 = (I 119 k).toInt64 := fun k hk => by
    obtain ⟨-, -, h5, -⟩ := g.2.2.1 c' k c6 hc hk
    obtain ⟨-, -, g3, -⟩ := kp_h4 (I := I) (p := k) (by omega)
    rw [← h5, g3]
  by_cases q1 : I 145 t = -1 ∨ I 145 t = 2
  · rw [if_pos q1, if_pos q1]
    by_cases q2 : I 145 t = -1
    · have z0 : z = 0 := by
        rcases b4 with ⟨-, w⟩ | w
        · exact (nI_eq (by omega) (by omega)).mp (hz.symm.trans w)
        · rw [q2] at w; exact absurd w (by decide)
      rw [if_pos q2, z0]
      exact qjudge_cg (fun j hj => absurd hj (Nat.not_lt_zero _)) eH c' 0 (by omega)
    · rw [if_neg q2]
      exact qjudge_cg (fun j hj => (b3 j (by omega)).symm) eH c' 0 (by omega)
  · rw [if_neg q1, if_neg q1]
