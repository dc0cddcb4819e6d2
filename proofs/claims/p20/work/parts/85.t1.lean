/-! all rows, one behind the other: as the object walks through them *and* as the reference tries them -/
def nup (l : List Nat) : Nat → Option Nat
  | 0 => if l.getD 1 0 < l.getD 0 0 then none else some 0
  | r + 1 => if l.getD (r + 2) 0 < l.getD (r + 1) 0 then nup l r else some (r + 1)
def ngr (l : List Nat) (r : Nat) : Nat → Nat → Nat
  | 0, g => g
  | n + 1, g => if g ≤ r then g else if l.getD g 0 < l.getD r 0 then ngr l r n (g - 1) else g
def nsw (l : List Nat) (a b : Nat) : List Nat := (l.set a (l.getD b 0)).set b (l.getD a 0)
def nrev : Nat → List Nat → Nat → Nat → List Nat
  | 0, l, _, _ => l
  | n + 1, l, a, b => if a < b then nrev n (nsw l a b) (a + 1) (b - 1) else l
def nxt (l : List Nat) : Option (List Nat) := if l.length < 2 then none else match nup l (l.length - 2) with
  | none => none
  | some r => some (nrev l.length (nsw l r (ngr l r (l.length - 1 - r) (l.length - 1))) (r + 1) (l.length - 1))
def nit : Nat → List Nat → List (List Nat)
  | 0, _ => []
  | n + 1, l => l :: match nxt l with
    | none => []
    | some t => nit n t
def nfm (f : Nat → List (List Nat)) : Nat → Nat → List (List Nat)
  | 0, _ => []
  | n + 1, i => f i ++ nfm f n (i + 1)
def npv (W : List Nat) : Nat → Nat → List (List Nat)
  | 0, _ => [[]]
  | m + 1, u => nfm (fun i => if u / 2 ^ i % 2 = 1 then [] else (npv W m (u ||| 2 ^ i)).map (W.getD i 0 :: ·)) W.length 0
def nWn (k : Nat) : Nat → List Nat
  | 0 => []
  | p + 1 => nWn k p ++ (if k / 2 ^ p % 2 = 1 then [p] else [])
set_option maxRecDepth 100000 in
theorem nit_npv : ∀ k, k < 64 → nit 720 (nWn k 6) = npv (nWn k 6) (nWn k 6).length 0 := by decide +kernel
theorem nsw_len {l : List Nat} {a b : Nat} : (nsw l a b).length = l.length := by unfold nsw; rw [List.length_set, List.length_set]
theorem nsw_get {l : List Nat} {a b k : Nat} (hb : b < l.length) (ha : a < l.length) : (nsw l a b).getD k 0 = if k = b then l.getD a 0 else if k = a then l.getD b 0 else l.getD k 0 := by
  unfold nsw
  simp only [List.getD_eq_getElem?_getD, List.getElem?_set, List.length_set]
  by_cases h1 : k = b
  · subst h1; simp [hb]
  · by_cases h2 : k = a
    · subst h2; simp [h1, ha, Ne.symm h1]
    · simp [h1, h2, Ne.symm h1, Ne.symm h2]
/-- the row told by l -/
def rowIs (I : qI) (c : Nat) (l : List Nat) : Prop := ∀ k, k < l.length → I 96 k = nI (l.getD k 0) ∧ l.getD k 0 < c
theorem rowIs.sw {I : qI} {c : Nat} {l : List Nat} {a b : Nat} (h : rowIs I c l) (ha : a < l.length) (hb : b < l.length) : rowIs (qup (qup I 96 a (I 96 b)) 96 b (I 96 a)) c (nsw l a b) := by
  intro k hk
  rw [nsw_len] at hk
  rw [nsw_get hb ha]
  by_cases h1 : k = b
  · subst h1
    rw [qup_at, if_pos rfl]; exact h a ha
  · rw [qup_j h1, if_neg h1]
    by_cases h2 : k = a
    · subst h2
      rw [qup_at, if_pos rfl]; exact h b hb
    · rw [qup_j h2, if_neg h2]; exact h k hk
theorem rowIs.fr {I I' : qI} {c : Nat} {l : List Nat} (h : rowIs I c l) (e : I' 96 = I 96) : rowIs I' c l := fun k hk => by rw [e]; exact h k hk
def nxQ (S : qSh) (I : qI) (J : qJ) (c z : Nat) (R : Option (List Nat)) : qPost := fun v S' I' J' => S = S' ∧ J = J' ∧ qFr (fun a => a = 96) I I' ∧ ((R = none ∧ v = some (.int 0) ∧ I = I') ∨ ∃ t, R = some t ∧ v = some (.int 1) ∧ t.length = z ∧ rowIs I' c t)
section T1
variable {E : qE} {S : qSh} {I : qI} {J : qJ}
theorem c_Ro_goToNextX {z c : Nat} {l : List Nat} (hR : isRo S) (c6 : c ≤ 6) (hz : I 94 2 = nI z) (hz6 : z ≤ 6) (hl : l.length = z) (hv : rowIs I c l) : qMet E y_Ro_goToNext b_Ro_goToNext 5 (some .boolean) 1 0 0 [.ref (qb E + 94)] S I J (nxQ S I J c z (nxt l)) := by
  have hR0' := hR
  obtain ⟨hT, hA1, hA2, hA3, hA4, hR0, hR1, hR3, hR4⟩ := hR
  generalize hN : nxt l = R
  unfold nxt at hN
  rw [hl] at hN
  have no : R = none → ∀ (L1 L2 L3 L4 : Option Value), ∀ x : Int32, x < 0 → qW E y_Ro_goToNext b_Ro_goToNext (some .boolean) 1 0 0 (nxQ S I J c z R) 0 0 34 [some (.ref (qb E + 94)), some (.int x), L2, L3, L4] [] S I J := by
    intro hn L1 L2 L3 L4 x hx
    refine ldi_n_5_1 (pc := 34) d_Ro_goToNext_34 ?_
    refine r_if_ge (pc := 35) (tgt := 40) d_Ro_goToNext_35 (by decide) (fun cc => ?_) (fun cc => ?_)
    · exact absurd hx (Int32.not_lt.mpr cc)
    · refine r_iconst (pc := 38) (v := 0) d_Ro_goToNext_38 rfl ?_
      exact r_nret d_Ro_goToNext_39 rfl (qbool_n (by first | exact Or.inl rfl | exact Or.inr rfl | assumption | exact qwithin_b | exact qbit_b)) (by omega) (by omega) (⟨rfl, rfl, qFr.rf, Or.inl ⟨hn, rfl, rfl⟩⟩)
  refine qMet.of (L := [some (.ref (qb E + 94)), none, none, none, none]) (by decide +kernel) (Nat.le_of_ble_eq_true rfl) rfl ?_
  refine lda_n_5_0 (pc := 0) d_Ro_goToNext_0 ?_
  refine g_Ro_57 (pc := 1) rfl d_Ro_goToNext_1 (by assumption) ?_
  refine r_iconst (pc := 4) (v := 2) d_Ro_goToNext_4 rfl ?_
  refine r_isub (pc := 5) d_Ro_goToNext_5 ?_
  refine sti_n_5_1 (pc := 6) d_Ro_goToNext_6 rfl ?_
  rw [hz]
  by_cases h2 : z < 2
  · rw [if_pos h2] at hN
    have hx : nI z - 2 < 0 := pk_sneg (b := 2) (by decide) h2
    refine ldi_n_5_1 (pc := 7) d_Ro_goToNext_7 ?_
    refine r_if_lt (pc := 8) (tgt := 34) d_Ro_goToNext_8 (by decide) (fun cc => ?_) (fun cc => ?_)
    · exact no hN.symm none none none none _ hx
    · exact absurd hx cc
  · rw [if_neg h2] at hN
    have e2 : nI z - 2 = nI (z - 2) := pk_sub (b := 2) (by omega)
    rw [e2]
    -- the second half, once a place that rises is found
    have half : ∀ r : Nat, r + 2 ≤ z → nup l (z - 2) = some r → qW E y_Ro_goToNext b_Ro_goToNext (some .boolean) 1 0 0 (nxQ S I J c z R) 0 0 34 [some (.ref (qb E + 94)), some (.int (nI r)), none, none, none] [] S I J := by
      intro r hr hup
      rw [hup] at hN
      simp only at hN
      refine ldi_n_5_1 (pc := 34) d_Ro_goToNext_34 ?_
      refine r_if_ge (pc := 35) (tgt := 40) d_Ro_goToNext_35 (by decide) (fun cc => ?_) (fun cc => ?_)
      · refine lda_n_5_0 (pc := 40) d_Ro_goToNext_40 ?_
        refine g_Ro_57 (pc := 41) rfl d_Ro_goToNext_41 (by assumption) ?_
        refine r_iconst (pc := 44) (v := 1) d_Ro_goToNext_44 rfl ?_
        refine r_isub (pc := 45) d_Ro_goToNext_45 ?_
        refine sti_n_5_2 (pc := 46) d_Ro_goToNext_46 rfl ?_
        rw [hz, show nI z - 1 = nI (z - 1) from pk_sub (b := 1) (by omega)]
        have sw : ∀ g : Nat, r ≤ g → g < z → some (nrev z (nsw l r g) (r + 1) (z - 1)) = R → qW E y_Ro_goToNext b_Ro_goToNext (some .boolean) 1 0 0 (nxQ S I J c z R) 0 0 73 [some (.ref (qb E + 94)), some (.int (nI r)), some (.int (nI g)), none, none] [] S I J := by
          intro g hg1 hg2 hN
          refine lda_n_5_0 (pc := 73) d_Ro_goToNext_73 ?_
          refine ldi_n_5_1 (pc := 74) d_Ro_goToNext_74 ?_
          refine ldi_n_5_2 (pc := 75) d_Ro_goToNext_75 ?_
          refine r_callV (pc := 76) (As := [.int (nI r), .int (nI g)]) (k := 6) (N := 10) (T := T_Ro) k_Ro_98 im_Ro_change se_Ro_change rfl (by decide) rfl (by decide) d_Ro_goToNext_76 (by assumption) (c_Ro_change hR0' (by omega) (by omega)) rfl (Nat.le_of_ble_eq_true rfl) (by omega) (by omega) (by omega) (fun v S' I' J' hq => ?_)
          obtain ⟨rfl, rfl, rfl, rfl⟩ := hq
          refine lda_n_5_0 (pc := 79) d_Ro_goToNext_79 ?_
          refine g_Ro_57 (pc := 80) rfl d_Ro_goToNext_80 (by assumption) ?_
          refine r_iconst (pc := 83) (v := 1) d_Ro_goToNext_83 rfl ?_
          refine r_isub (pc := 84) d_Ro_goToNext_84 ?_
          refine sti_n_5_3 (pc := 85) d_Ro_goToNext_85 rfl ?_
          refine ldi_n_5_1 (pc := 86) d_Ro_goToNext_86 ?_
          refine r_iconst (pc := 87) (v := 1) d_Ro_goToNext_87 rfl ?_
          refine r_iadd (pc := 88) d_Ro_goToNext_88 ?_
          refine sti_5_4 (pc := 89) d_Ro_goToNext_89 rfl ?_
          rw [qup_o (by decide), qup_o (by decide), hz, show nI z - 1 = nI (z - 1) from pk_sub (b := 1) (by omega), q1]
          have fr0 : qFr (fun a => a = 96) I (qup (qup I 96 r (I 96 g)) 96 g (I 96 r)) := qFr.up (P := fun a => a = 96) (qFr.up (P := fun a => a = 96) qFr.rf rfl) rfl
          have rw0 : rowIs (qup (qup I 96 r (I 96 g)) 96 g (I 96 r)) c (nsw l r g) := hv.sw (by omega) (by omega)
          have ln0 : (nsw l r g).length = z := by rw [nsw_len, hl]
          generalize qup (qup I 96 r (I 96 g)) 96 g (I 96 r) = M0 at fr0 rw0
          generalize nsw l r g = t0 at *
          have rev : ∀ (n a b : Nat) (M : qI) (t : List Nat), t.length = z → rowIs M c t → some (nrev n t a b) = R → b ≤ a + n → b < z → a < z + 1 → qFr (fun a => a = 96) I M → qW E y_Ro_goToNext b_Ro_goToNext (some .boolean) 1 0 0 (nxQ S I J c z R) 0 0 91 [some (.ref (qb E + 94)), some (.int (nI r)), some (.int (nI g)), some (.int (nI b)), some (.int (nI a))] [] S M J := by
            intro n
            induction n with
            | zero =>
              intro a b M t ht hrt hN h1 h2 h3 hf
              refine ldi_5_4 (pc := 91) d_Ro_goToNext_91 ?_
              refine ldi_n_5_3 (pc := 93) d_Ro_goToNext_93 ?_
              refine r_icmp_ge (pc := 94) (tgt := 113) d_Ro_goToNext_94 (by decide) (fun c3 => ?_) (fun c3 => ?_)
              · refine r_iconst (pc := 113) (v := 1) d_Ro_goToNext_113 rfl ?_
                exact r_nret d_Ro_goToNext_114 rfl (qbool_n (by first | exact Or.inl rfl | exact Or.inr rfl | assumption | exact qwithin_b | exact qbit_b)) (by omega) (by omega) (⟨rfl, rfl, hf, Or.inr ⟨t, hN.symm, rfl, ht, hrt⟩⟩)
              · exact absurd (nI_le (show b ≤ a by omega) (by omega)) c3
            | succ n ih =>
              intro a b M t ht hrt hN h1 h2 h3 hf
              rw [nrev] at hN
              refine ldi_5_4 (pc := 91) d_Ro_goToNext_91 ?_
              refine ldi_n_5_3 (pc := 93) d_Ro_goToNext_93 ?_
              refine r_icmp_ge (pc := 94) (tgt := 113) d_Ro_goToNext_94 (by decide) (fun c3 => ?_) (fun c3 => ?_)
              · have hab : ¬ a < b := fun q => absurd ((nI_leI (by omega) (by omega)).mp c3) (by omega)
                rw [if_neg hab] at hN
                refine r_iconst (pc := 113) (v := 1) d_Ro_goToNext_113 rfl ?_
                exact r_nret d_Ro_goToNext_114 rfl (qbool_n (by first | exact Or.inl rfl | exact Or.inr rfl | assumption | exact qwithin_b | exact qbit_b)) (by omega) (by omega) (⟨rfl, rfl, hf, Or.inr ⟨t, hN.symm, rfl, ht, hrt⟩⟩)
              · have hab : a < b := by
                  rcases Nat.lt_or_ge a b with q | q
                  · exact q
                  · exact absurd (nI_le q (by omega)) c3
                rw [if_pos hab] at hN
                refine lda_n_5_0 (pc := 97) d_Ro_goToNext_97 ?_
                refine ldi_5_4 (pc := 98) d_Ro_goToNext_98 ?_
                refine ldi_n_5_3 (pc := 100) d_Ro_goToNext_100 ?_
                refine r_callV (pc := 101) (As := [.int (nI a), .int (nI b)]) (k := 6) (N := 10) (T := T_Ro) k_Ro_98 im_Ro_change se_Ro_change rfl (by decide) rfl (by decide) d_Ro_goToNext_101 (by assumption) (c_Ro_change hR0' (by omega) (by omega)) rfl (Nat.le_of_ble_eq_true rfl) (by omega) (by omega) (by omega) (fun v S' I' J' hq => ?_)
                obtain ⟨rfl, rfl, rfl, rfl⟩ := hq
                refine inc_5_3 (pc := 104) (w := (-1)) d_Ro_goToNext_104 rfl rfl ?_
                refine inc_5_4 (pc := 107) (w := 1) d_Ro_goToNext_107 rfl rfl ?_
                refine r_goto (pc := 110) (tgt := 91) d_Ro_goToNext_110 (by decide) ?_
                rw [q1, show nI b + -1 = nI (b - 1) by rw [show b = (b - 1) + 1 by omega, pk_m1, Nat.add_sub_cancel]]
                exact ih (a + 1) (b - 1) _ (nsw t a b) (by rw [nsw_len, ht]) (hrt.sw (by omega) (by omega)) hN (by omega) (by omega) (by omega) ((hf.up rfl).up rfl)
          exact rev z (r + 1) (z - 1) M0 t0 ln0 rw0 hN (by omega) (by omega) (by omega) fr0
        have find : ∀ n g : Nat, g = r + n → g < z → some (nrev z (nsw l r (ngr l r n g)) (r + 1) (z - 1)) = R → qW E y_Ro_goToNext b_Ro_goToNext (some .boolean) 1 0 0 (nxQ S I J c z R) 0 0 47 [some (.ref (qb E + 94)), some (.int (nI r)), some (.int (nI g)), none, none] [] S I J := by
          intro n
          induction n with
          | zero =>
            intro g hg hgz hN
            refine ldi_n_5_2 (pc := 47) d_Ro_goToNext_47 ?_
            refine ldi_n_5_1 (pc := 48) d_Ro_goToNext_48 ?_
            refine r_icmp_le (pc := 49) (tgt := 73) d_Ro_goToNext_49 (by decide) (fun c2 => ?_) (fun c2 => ?_)
            · exact sw g (by omega) hgz hN
            · exact absurd (nI_le (show g ≤ r by omega) (by omega)) c2
          | succ n ih =>
            intro g hg hgz hN
            have i1 : vp_in (nI g) 6 := vp_in_nI (by omega) (by omega)
            have i2 : vp_in (nI r) 6 := vp_in_nI (by omega) (by omega)
            obtain ⟨v1, v2⟩ := hv g (by omega)
            obtain ⟨u1, u2⟩ := hv r (by omega)
            rw [ngr, if_neg (by omega)] at hN
            refine ldi_n_5_2 (pc := 47) d_Ro_goToNext_47 ?_
            refine ldi_n_5_1 (pc := 48) d_Ro_goToNext_48 ?_
            refine r_icmp_le (pc := 49) (tgt := 73) d_Ro_goToNext_49 (by decide) (fun c2 => ?_) (fun c2 => ?_)
            · exact absurd ((nI_leI (by omega) (by omega)).mp c2) (by omega)
            · refine lda_n_5_0 (pc := 52) d_Ro_goToNext_52 ?_
              refine g_Ro_15 (pc := 53) rfl d_Ro_goToNext_53 (by assumption) (by assumption) ?_
              refine ldi_n_5_2 (pc := 56) d_Ro_goToNext_56 ?_
              refine r_iald (pc := 57) d_Ro_goToNext_57 (by assumption) (i1) ?_
              refine lda_n_5_0 (pc := 58) d_Ro_goToNext_58 ?_
              refine g_Ro_15 (pc := 59) rfl d_Ro_goToNext_59 (by assumption) (by assumption) ?_
              refine ldi_n_5_1 (pc := 62) d_Ro_goToNext_62 ?_
              refine r_iald (pc := 63) d_Ro_goToNext_63 (by assumption) (i2) ?_
              rw [qcl (n := g) (by omega), qcl (n := r) (by omega), v1, u1]
              refine r_icmp_ge (pc := 64) (tgt := 73) d_Ro_goToNext_64 (by decide) (fun c3 => ?_) (fun c3 => ?_)
              · rw [if_neg (fun q => absurd ((nI_leI (by omega) (by omega)).mp c3) (by omega))] at hN
                exact sw g (by omega) hgz hN
              · rw [if_pos (by
                  rcases Nat.lt_or_ge (l.getD g 0) (l.getD r 0) with q | q
                  · exact q
                  · exact absurd (nI_le q (by omega)) c3)] at hN
                refine inc_5_2 (pc := 67) (w := (-1)) d_Ro_goToNext_67 rfl rfl ?_
                refine r_goto (pc := 70) (tgt := 47) d_Ro_goToNext_70 (by decide) ?_
                rw [show nI g + -1 = nI (g - 1) by rw [show g = (g - 1) + 1 by omega, pk_m1, Nat.add_sub_cancel]]
                exact ih (g - 1) (by omega) (by omega) hN
        exact find (z - 1 - r) (z - 1) (by omega) (by omega) hN
      · exact absurd (nI_pos' (n := r) (by omega)) cc
    have up : ∀ r : Nat, r + 2 ≤ z → nup l (z - 2) = nup l r → qW E y_Ro_goToNext b_Ro_goToNext (some .boolean) 1 0 0 (nxQ S I J c z R) 0 0 7 [some (.ref (qb E + 94)), some (.int (nI r)), none, none, none] [] S I J := by
      intro r
      induction r with
      | zero =>
        intro hr hup
        have i1 : vp_in (nI 0) 6 := vp_in_nI (by omega) (by omega)
        have i2 : vp_in (nI 0 + 1) 6 := by rw [q1]; exact vp_in_nI (by omega) (by omega)
        obtain ⟨v1, v2⟩ := hv 0 (by omega)
        obtain ⟨u1, u2⟩ := hv 1 (by omega)
        rw [nup] at hup
        refine ldi_n_5_1 (pc := 7) d_Ro_goToNext_7 ?_
        refine r_if_lt (pc := 8) (tgt := 34) d_Ro_goToNext_8 (by decide) (fun cc => ?_) (fun cc => ?_)
        · exact absurd cc (by decide)
        · refine lda_n_5_0 (pc := 11) d_Ro_goToNext_11 ?_
          refine g_Ro_15 (pc := 12) rfl d_Ro_goToNext_12 (by assumption) (by assumption) ?_
          refine ldi_n_5_1 (pc := 15) d_Ro_goToNext_15 ?_
          refine r_iald (pc := 16) d_Ro_goToNext_16 (by assumption) (i1) ?_
          refine lda_n_5_0 (pc := 17) d_Ro_goToNext_17 ?_
          refine g_Ro_15 (pc := 18) rfl d_Ro_goToNext_18 (by assumption) (by assumption) ?_
          refine ldi_n_5_1 (pc := 21) d_Ro_goToNext_21 ?_
          refine r_iconst (pc := 22) (v := 1) d_Ro_goToNext_22 rfl ?_
          refine r_iadd (pc := 23) d_Ro_goToNext_23 ?_
          refine r_iald (pc := 24) d_Ro_goToNext_24 (by assumption) (i2) ?_
          rw [q1, qcl (n := 0) (by omega), qcl (n := 0 + 1) (by omega), v1, u1]
          refine r_icmp_le (pc := 25) (tgt := 34) d_Ro_goToNext_25 (by decide) (fun c2 => ?_) (fun c2 => ?_)
          · rw [if_neg (fun q => absurd ((nI_leI (by omega) (by omega)).mp c2) (by omega))] at hup
            exact half 0 hr hup
          · rw [if_pos (by
              rcases Nat.lt_or_ge (l.getD 1 0) (l.getD 0 0) with q | q
              · exact q
              · exact absurd (nI_le q (by omega)) c2)] at hup
            have hn : R = none := by rw [hup] at hN; exact hN.symm
            refine inc_5_1 (pc := 28) (w := (-1)) d_Ro_goToNext_28 rfl rfl ?_
            refine r_goto (pc := 31) (tgt := 7) d_Ro_goToNext_31 (by decide) ?_
            refine ldi_n_5_1 (pc := 7) d_Ro_goToNext_7 ?_
            refine r_if_lt (pc := 8) (tgt := 34) d_Ro_goToNext_8 (by decide) (fun c3 => ?_) (fun c3 => ?_)
            · exact no hn none none none none _ c3
            · exact absurd (by decide) c3
      | succ r ih =>
        intro hr hup
        have i1 : vp_in (nI (r + 1)) 6 := vp_in_nI (by omega) (by omega)
        have i2 : vp_in (nI (r + 1) + 1) 6 := by rw [q1]; exact vp_in_nI (by omega) (by omega)
        obtain ⟨v1, v2⟩ := hv (r + 1) (by omega)
        obtain ⟨u1, u2⟩ := hv (r + 2) (by omega)
        rw [nup] at hup
        refine ldi_n_5_1 (pc := 7) d_Ro_goToNext_7 ?_
        refine r_if_lt (pc := 8) (tgt := 34) d_Ro_goToNext_8 (by decide) (fun cc => ?_) (fun cc => ?_)
        · exact absurd cc (nI_pos (by omega))
        · refine lda_n_5_0 (pc := 11) d_Ro_goToNext_11 ?_
          refine g_Ro_15 (pc := 12) rfl d_Ro_goToNext_12 (by assumption) (by assumption) ?_
          refine ldi_n_5_1 (pc := 15) d_Ro_goToNext_15 ?_
          refine r_iald (pc := 16) d_Ro_goToNext_16 (by assumption) (i1) ?_
          refine lda_n_5_0 (pc := 17) d_Ro_goToNext_17 ?_
          refine g_Ro_15 (pc := 18) rfl d_Ro_goToNext_18 (by assumption) (by assumption) ?_
          refine ldi_n_5_1 (pc := 21) d_Ro_goToNext_21 ?_
          refine r_iconst (pc := 22) (v := 1) d_Ro_goToNext_22 rfl ?_
          refine r_iadd (pc := 23) d_Ro_goToNext_23 ?_
          refine r_iald (pc := 24) d_Ro_goToNext_24 (by assumption) (i2) ?_
          rw [q1, qcl (n := r + 1) (by omega), qcl (n := r + 1 + 1) (by omega), v1, u1]
          refine r_icmp_le (pc := 25) (tgt := 34) d_Ro_goToNext_25 (by decide) (fun c2 => ?_) (fun c2 => ?_)
          · rw [if_neg (fun q => absurd ((nI_leI (by omega) (by omega)).mp c2) (by omega))] at hup
            exact half (r + 1) hr hup
          · rw [if_pos (by
              rcases Nat.lt_or_ge (l.getD (r + 2) 0) (l.getD (r + 1) 0) with q | q
              · exact q
              · exact absurd (nI_le q (by omega)) c2)] at hup
            refine inc_5_1 (pc := 28) (w := (-1)) d_Ro_goToNext_28 rfl rfl ?_
            refine r_goto (pc := 31) (tgt := 7) d_Ro_goToNext_31 (by decide) ?_
            rw [pk_m1]
            exact ih (by omega) hup
    exact up (z - 2) (by omega) rfl
end T1
/-! what each hurts by each place, told exactly: the object's side; who is left -/
/-- the j-th day that is not lost, from now on -/
def wT (lost : Nat → Int32) : Nat → Nat
  | 0 => if lost 0 = 0 then 0 else 1
  | j + 1 => if lost (wT lost j + 1) = 0 then wT lost j + 1 else wT lost j + 2
def wH (lost pn : Nat → Int32) (j : Nat) : Int32 := qsumP pn (wT lost j)
theorem wT_le {lost : Nat → Int32} : ∀ j, wT lost j ≤ 2 * j + 1 := by
  intro j
  induction j with
  | zero => rw [wT]; split <;> omega
  | succ j ih => rw [wT]; split <;> omega
/-- where the next such day is, seen from offset t -/
def wAt (lost : Nat → Int32) (k t : Nat) : Prop := (lost t = 0 ∧ wT lost k = t) ∨ (¬ lost t = 0 ∧ wT lost k = t + 1)
theorem wAt.zero {lost : Nat → Int32} : wAt lost 0 0 := by
  unfold wAt
  by_cases h : lost 0 = 0
  · exact Or.inl ⟨h, by rw [wT, if_pos h]⟩
  · exact Or.inr ⟨h, by rw [wT, if_neg h]⟩
theorem wAt.next {lost : Nat → Int32} {k t : Nat} (h : wT lost k = t) : wAt lost (k + 1) (t + 1) := by
  unfold wAt
  by_cases q : lost (t + 1) = 0
  · exact Or.inl ⟨q, by rw [wT, h, if_pos q]⟩
  · exact Or.inr ⟨q, by rw [wT, h, if_neg q]⟩
theorem wAt.skip {lost : Nat → Int32} {k t : Nat} (h : wAt lost k t) (hl : ¬ lost t = 0) (hn : lost (t + 1) = 0) : wAt lost k (t + 1) := by
  rcases h with ⟨q, -⟩ | ⟨-, q⟩
  · exact absurd q hl
  · exact Or.inl ⟨hn, q⟩
def cpn (I : qI) (o i p t : Nat) : Int32 := qpainAt I o i (qm o p) (nI t)
def cls (I : qI) (o i t : Nat) : Int32 := qlost (I i 5) (I o 4 + nI t)
theorem qlost_twice {n : Int32} {d t : Nat} (hd : d + t + 2 < 2 ^ 31) (h : ¬ qlost n (nI d + nI t) = 0) : qlost n (nI d + nI (t + 1)) = 0 := by
  rw [nI_add] at h ⊢
  exact qlost_once hd h
def nWl (f : Nat → Int32) : Nat → List Nat
  | 0 => []
  | p + 1 => nWl f p ++ (if f p = 0 then [p] else [])
theorem nWl_len {f : Nat → Int32} : ∀ n, (nWl f n).length ≤ n := by
  intro n
  induction n with
  | zero => exact Nat.le_refl 0
  | succ n ih =>
    rw [nWl, List.length_append]
    split
    · simp; omega
    · simp; omega
theorem nWl_lt {f : Nat → Int32} : ∀ n k, k < (nWl f n).length → (nWl f n).getD k 0 < n := by
  intro n
  induction n with
  | zero => intro k hk; exact absurd hk (Nat.not_lt_zero _)
  | succ n ih =>
    intro k hk
    rw [nWl] at hk ⊢
    by_cases c : k < (nWl f n).length
    · rw [List.getD_eq_getElem?_getD, List.getElem?_append_left c, ← List.getD_eq_getElem?_getD]
      exact Nat.lt_succ_of_lt (ih k c)
    · rw [List.length_append] at hk
      by_cases q : f n = 0
      · rw [if_pos q] at hk ⊢
        have : k = (nWl f n).length := by simp at hk; omega
        subst this
        rw [List.getD_eq_getElem?_getD, List.getElem?_append_right (Nat.le_refl _)]
        simp
      · rw [if_neg q] at hk
        simp at hk; omega
theorem nWl_cg {f g : Nat → Int32} : ∀ n, (∀ p, p < n → f p = g p) → nWl f n = nWl g n := by
  intro n
  induction n with
  | zero => intro _; rfl
  | succ n ih => intro h; rw [nWl, nWl, ih (fun p hp => h p (by omega)), h n (by omega)]
section T2
variable {E : qE} {S : qSh} {I : qI} {J : qJ}
theorem c_Ro_weighX {o i D c dd : Nat} (hR : isRo S) (hM : isMg S o i) (hok : qMgOK I o D) (hI : qIsOK I i) (hp : qPos o i) (hD : D < 100000) (hc : I o 1 = nI c) (hc6 : c ≤ 6) (hd : I o 4 = nI dd) (hdd : dd ≤ D) : qMet E y_Ro_weigh b_Ro_weigh 6 none 4 0 0 [.ref (qb E + 94), .ref (qb E + o)] S I J (fun v S' I' J' => v = none ∧ S = S' ∧ qFr (qPw i) I I' ∧ (∀ p j, p < c → j < 6 → I' 95 (6 * p + j) = wH (cls I o i) (cpn I o i p) j) ∧ J = J') := by
  have hM0 := hM
  obtain ⟨rT, rA1, rA2, rA3, rA4, rR0, rR1, rR3, rR4⟩ := hR
  obtain ⟨hT, hA1, hA2, hR0, hR2, hR5, hR6, hR7, hR8, hN1, hN2, hN3, hIs, hRp, hMp⟩ := hM
  have tw : ∀ t, t < 20 → ¬ cls I o i t = 0 → cls I o i (t + 1) = 0 := fun t ht h => by
    unfold cls at h ⊢
    rw [hd] at h ⊢
    exact qlost_twice (by omega) h
  have pe : ∀ M p t, p < 6 → qFr (qPw i) I M → qpainAt M o i (qm o p) (nI t) = cpn I o i p t := fun M p t hp6 hf => by
    have h1 := qm_lo (o := o) (p := p); have h2 := qm_hi (o := o) (p := p) hp6
    unfold cpn qpainAt
    rw [hf o (hp.nw o (by omega) (by omega)), hf (qm o p) (hp.nw _ (by omega) (by omega))]
    exact qpain_row (hf _ (hp.nw _ (by omega) (by omega))) (hf _ (hp.nw _ (by omega) (by omega))) (hf i (hp.iw i (by omega) (by omega))) (hf (i + 1) (hp.iw _ (by omega) (by omega))) (hf (i + 2) (hp.iw _ (by omega) (by omega))) (hf (i + 3) (hp.iw _ (by omega) (by omega)))
  refine qMet.of (L := [some (.ref (qb E + 94)), some (.ref (qb E + o)), none, none, none, none]) (by decide +kernel) (Nat.le_of_ble_eq_true rfl) rfl ?_
  refine r_iconst (pc := 0) (v := 0) d_Ro_weigh_0 rfl ?_
  refine sti_n_6_2 (pc := 1) d_Ro_weigh_1 rfl ?_
  have key := qfor (P := fun p => ∀ M : qI, qFr (qPw i) I M → (∀ p' j, p' < p → j < 6 → M 95 (6 * p' + j) = wH (cls I o i) (cpn I o i p') j) → qW E y_Ro_weigh b_Ro_weigh none 4 0 0 (fun v S' I' J' => v = none ∧ S = S' ∧ qFr (qPw i) I I' ∧ (∀ p j, p < c → j < 6 → I' 95 (6 * p + j) = wH (cls I o i) (cpn I o i p) j) ∧ J = J') 0 0 2 [some (.ref (qb E + 94)), some (.ref (qb E + o)), some (.int (nI p)), none, none, none] [] S M J) c ?_ ?_ 0 (by omega)
  · exact key I qFr.rf (fun p' j h => absurd h (Nat.not_lt_zero _))
  · intro M hf ht
    refine ldi_n_6_2 (pc := 2) d_Ro_weigh_2 ?_
    refine lda_n_6_1 (pc := 3) d_Ro_weigh_3 ?_
    refine g_Ro_60 (pc := 4) rfl d_Ro_weigh_4 (by assumption) ?_
    rw [hf o (hp.nw o (by omega) (by omega)), hc]
    refine r_icmp_ge (pc := 7) (tgt := 89) d_Ro_weigh_7 (by decide) (fun c1 => ?_) (fun c1 => ?_)
    · exact r_vret d_Ro_weigh_89 rfl (by omega) (by omega) (⟨rfl, rfl, hf, ht, rfl⟩)
    · exact absurd (nI_le (Nat.le_refl _) (by omega)) c1
  · intro p hpc ih M hf ht
    have hMo := hMp p (by omega)
    change isMo S (qm o p) at hMo
    have out : ∀ (M : qI) (x y z : Int32), qFr (qPw i) I M → (∀ p' j, p' < p → j < 6 → M 95 (6 * p' + j) = wH (cls I o i) (cpn I o i p') j) → (∀ j, j < 6 → M 95 (6 * p + j) = wH (cls I o i) (cpn I o i p) j) → qW E y_Ro_weigh b_Ro_weigh none 4 0 0 (fun v S' I' J' => v = none ∧ S = S' ∧ qFr (qPw i) I I' ∧ (∀ p j, p < c → j < 6 → I' 95 (6 * p + j) = wH (cls I o i) (cpn I o i p) j) ∧ J = J') 0 0 83 [some (.ref (qb E + 94)), some (.ref (qb E + o)), some (.int (nI p)), some (.int x), some (.int y), some (.int z)] [] S M J := by
      intro M x y z hf ht hn
      refine inc_6_2 (pc := 83) (w := 1) d_Ro_weigh_83 rfl rfl ?_
      refine r_goto (pc := 86) (tgt := 2) d_Ro_weigh_86 (by decide) ?_
      rw [q1]
      refine qW.forget 3 (qW.forget 4 (qW.forget 5 (ih M hf (fun p' j hp' hj => ?_))))
      by_cases e : p' = p
      · subst e; exact hn j hj
      · exact ht p' j (by omega) hj
    have inner := qfor (P := fun d => ∀ (M : qI) (k : Nat), k ≤ 6 → qFr (qPw i) I M → (∀ p' j, p' < p → j < 6 → M 95 (6 * p' + j) = wH (cls I o i) (cpn I o i p') j) → (∀ j, j < k → M 95 (6 * p + j) = wH (cls I o i) (cpn I o i p) j) → (k = 6 ∨ wAt (cls I o i) k d) → qW E y_Ro_weigh b_Ro_weigh none 4 0 0 (fun v S' I' J' => v = none ∧ S = S' ∧ qFr (qPw i) I I' ∧ (∀ p j, p < c → j < 6 → I' 95 (6 * p + j) = wH (cls I o i) (cpn I o i p) j) ∧ J = J') 0 0 18 [some (.ref (qb E + 94)), some (.ref (qb E + o)), some (.int (nI p)), some (.int (qsumP (cpn I o i p) d)), some (.int (nI k)), some (.int (nI d))] [] S M J) 12 ?_ ?_ 0 (by omega)
    · refine ldi_n_6_2 (pc := 2) d_Ro_weigh_2 ?_
      refine lda_n_6_1 (pc := 3) d_Ro_weigh_3 ?_
      refine g_Ro_60 (pc := 4) rfl d_Ro_weigh_4 (by assumption) ?_
      rw [hf o (hp.nw o (by omega) (by omega)), hc]
      refine r_icmp_ge (pc := 7) (tgt := 89) d_Ro_weigh_7 (by decide) (fun c1 => ?_) (fun c1 => ?_)
      · exact absurd c1 (nI_ge hpc (by omega))
      · refine r_iconst (pc := 10) (v := 0) d_Ro_weigh_10 rfl ?_
        refine sti_n_6_3 (pc := 11) d_Ro_weigh_11 rfl ?_
        refine r_iconst (pc := 12) (v := 0) d_Ro_weigh_12 rfl ?_
        refine sti_6_4 (pc := 13) d_Ro_weigh_13 rfl ?_
        refine r_iconst (pc := 15) (v := 0) d_Ro_weigh_15 rfl ?_
        refine sti_6_5 (pc := 16) d_Ro_weigh_16 rfl ?_
        exact inner M 0 (by omega) hf ht (fun j hj => absurd hj (Nat.not_lt_zero _)) (Or.inr wAt.zero)
    · intro M k hk hf ht hn hw
      have k6 : k = 6 := by
        rcases hw with q | q
        · exact q
        · have := wT_le (lost := cls I o i) k
          rcases q with ⟨-, q⟩ | ⟨-, q⟩ <;> omega
      subst k6
      refine ldi_6_5 (pc := 18) d_Ro_weigh_18 ?_
      refine r_bipush (pc := 20) (v := 12) d_Ro_weigh_20 rfl ?_
      refine r_icmp_ge (pc := 22) (tgt := 83) d_Ro_weigh_22 (by decide) (fun c1 => ?_) (fun c1 => ?_)
      · exact out M _ _ _ hf ht hn
      · exact absurd (by decide) c1
    · intro d hd12 ih2 M k hk hf ht hn hw
      have okM : qMgOK M o D := hok.fr hf hp.nw
      have hIM : qIsOK M i := hI.of (hf i (hp.iw i (by omega) (by omega))) (hf (i + 3) (hp.iw _ (by omega) (by omega)))
      have hMo4 : M o 4 = nI dd := by rw [hf o (hp.nw o (by omega) (by omega))]; exact hd
      refine ldi_6_5 (pc := 18) d_Ro_weigh_18 ?_
      refine r_bipush (pc := 20) (v := 12) d_Ro_weigh_20 rfl ?_
      refine r_icmp_ge (pc := 22) (tgt := 83) d_Ro_weigh_22 (by decide) (fun c1 => ?_) (fun c1 => ?_)
      · exact absurd (show nI 12 ≤ nI d from c1) (nI_ge hd12 (by omega))
      · refine ldi_6_4 (pc := 25) d_Ro_weigh_25 ?_
        refine r_bipush (pc := 27) (v := 6) d_Ro_weigh_27 rfl ?_
        refine r_icmp_ge (pc := 29) (tgt := 83) d_Ro_weigh_29 (by decide) (fun c2 => ?_) (fun c2 => ?_)
        · have k6 : k = 6 := by
            have := (nI_leI (a := 6) (b := k) (by omega) (by omega)).mp c2
            omega
          subst k6
          exact out M _ _ _ hf ht hn
        · have hk6 : k < 6 := by
            rcases Nat.lt_or_ge k 6 with q | q
            · exact q
            · exact absurd (show nI 6 ≤ nI k from nI_le q (by omega)) c2
          have hw := hw.resolve_left (by omega)
          have tail : ∀ (M : qI) (k : Nat), k ≤ 6 → qFr (qPw i) I M → (∀ p' j, p' < p → j < 6 → M 95 (6 * p' + j) = wH (cls I o i) (cpn I o i p') j) → (∀ j, j < k → M 95 (6 * p + j) = wH (cls I o i) (cpn I o i p) j) → (k = 6 ∨ wAt (cls I o i) k (d + 1)) → qW E y_Ro_weigh b_Ro_weigh none 4 0 0 (fun v S' I' J' => v = none ∧ S = S' ∧ qFr (qPw i) I I' ∧ (∀ p j, p < c → j < 6 → I' 95 (6 * p + j) = wH (cls I o i) (cpn I o i p) j) ∧ J = J') 0 0 62 [some (.ref (qb E + 94)), some (.ref (qb E + o)), some (.int (nI p)), some (.int (qsumP (cpn I o i p) d)), some (.int (nI k)), some (.int (nI d))] [] S M J := by
            intro M k hk hf ht hn hw
            have hin : vp_in (nI p) 6 := vp_in_nI (by omega) (by omega)
            have hR : qR S (o + 1) (nI p).toNatClampNeg = some (qm o p) := by rw [qcl (by omega)]; exact hRp p (by omega)
            have hIM : qIsOK M i := hI.of (hf i (hp.iw i (by omega) (by omega))) (hf (i + 3) (hp.iw _ (by omega) (by omega)))
            have hMo4 : M o 4 = nI dd := by rw [hf o (hp.nw o (by omega) (by omega))]; exact hd
            have h1 := qm_lo (o := o) (p := p); have h2 := qm_hi (o := o) (p := p) (by omega)
            have hpos := hp.2.2
            refine ldi_n_6_3 (pc := 62) d_Ro_weigh_62 ?_
            refine lda_n_6_1 (pc := 63) d_Ro_weigh_63 ?_
            refine lda_n_6_1 (pc := 64) d_Ro_weigh_64 ?_
            refine g_Ro_75 (pc := 65) rfl d_Ro_weigh_65 (by assumption) (by assumption) ?_
            refine ldi_n_6_2 (pc := 68) d_Ro_weigh_68 ?_
            refine r_aald14 (pc := 69) d_Ro_weigh_69 (by assumption) (hin) (by assumption) ?_
            refine ldi_6_5 (pc := 70) d_Ro_weigh_70 ?_
            refine r_callVN (pc := 72) (As := [.ref (qb E + qm o p), .int (nI d)]) (k := 3) (N := 9) (T := T_Mg) k_Ro_79 im_Mg_painOf se_Mg_painOf rfl (by decide) rfl (by decide) d_Ro_weigh_72 (by assumption) (c_Mg_painOf hM0 hMo (by rcases hp.1 with q | q <;> omega) hIM hMo4 (by omega)) rfl (Nat.le_of_ble_eq_true rfl) (by omega) (by omega) (by omega) (fun v S' I' J' hq => ?_)
            obtain ⟨rfl, rfl, rfl, rfl⟩ := hq
            rw [pe M p d (by omega) hf]
            refine r_iadd (pc := 75) d_Ro_weigh_75 ?_
            refine sti_n_6_3 (pc := 76) d_Ro_weigh_76 rfl ?_
            refine inc_6_5 (pc := 77) (w := 1) d_Ro_weigh_77 rfl rfl ?_
            refine r_goto (pc := 80) (tgt := 18) d_Ro_weigh_80 (by decide) ?_
            rw [q1, show qsumP (cpn I o i p) d + cpn I o i p d = qsumP (cpn I o i p) (d + 1) from rfl]
            exact ih2 _ _ hk (hf.fil (Or.inr rfl)) (fun p' j a b => by rw [qfil_o (by omega)]; exact ht p' j a b) (fun j a => by rw [qfil_o (by omega)]; exact hn j a) hw
          refine lda_n_6_1 (pc := 32) d_Ro_weigh_32 ?_
          refine lda_n_6_1 (pc := 33) d_Ro_weigh_33 ?_
          refine g_Ro_69 (pc := 34) rfl d_Ro_weigh_34 (by assumption) ?_
          refine ldi_6_5 (pc := 37) d_Ro_weigh_37 ?_
          refine r_iadd (pc := 39) d_Ro_weigh_39 ?_
          refine r_callVN (pc := 40) (As := [.int (M o 4 + nI d)]) (k := 3) (N := 9) (T := T_Mg) k_Ro_72 im_Mg_isLost se_Mg_isLost rfl (by decide) rfl (by decide) d_Ro_weigh_40 (by assumption) (c_Mg_isLost hM0) rfl (Nat.le_of_ble_eq_true rfl) (by omega) (by omega) (by omega) (fun v S' I' J' hq => ?_)
          obtain ⟨rfl, rfl, rfl, rfl⟩ := hq
          have el : qlost (M i 5) (M o 4 + nI d) = cls I o i d := by unfold cls; rw [hf i (hp.iw i (by omega) (by omega)), hf o (hp.nw o (by omega) (by omega))]
          rw [el]
          refine r_if_ne (pc := 43) (tgt := 62) d_Ro_weigh_43 (by decide) (fun c3 => ?_) (fun c3 => ?_)
          · exact tail M k hk hf ht hn (Or.inr (hw.skip c3 (tw d (by omega) c3)))
          · have c3' : cls I o i d = 0 := c3
            have hwt : wT (cls I o i) k = d := by
              rcases hw with ⟨-, q⟩ | ⟨q, -⟩
              · exact q
              · exact absurd c3' q
            have e6 : 6 * nI p + nI k = nI (6 * p + k) := by rw [show (6 : Int32) = nI 6 from rfl, pk_mul, nI_add]
            have hin : vp_in (6 * nI p + nI k) 36 := by rw [e6]; exact vp_in_nI (by omega) (by omega)
            refine lda_n_6_0 (pc := 46) d_Ro_weigh_46 ?_
            refine g_Ro_9 (pc := 47) rfl d_Ro_weigh_47 (by assumption) (by assumption) ?_
            refine r_bipush (pc := 50) (v := 6) d_Ro_weigh_50 rfl ?_
            refine ldi_n_6_2 (pc := 52) d_Ro_weigh_52 ?_
            refine r_imul (pc := 53) d_Ro_weigh_53 ?_
            refine ldi_6_4 (pc := 54) d_Ro_weigh_54 ?_
            refine r_iadd (pc := 56) d_Ro_weigh_56 ?_
            refine ldi_n_6_3 (pc := 57) d_Ro_weigh_57 ?_
            refine r_iast (pc := 58) d_Ro_weigh_58 (by assumption) (hin) ?_
            refine inc_6_4 (pc := 59) (w := 1) d_Ro_weigh_59 rfl rfl ?_
            rw [q1, e6, qcl (n := 6 * p + k) (by omega)]
            refine tail _ (k + 1) (by omega) (hf.up (Or.inl rfl)) (fun p' j a b => by rw [qup_j (by omega)]; exact ht p' j a b) (fun j a => ?_) (by
              by_cases k5 : k + 1 = 6
              · exact Or.inl k5
              · exact Or.inr (wAt.next hwt))
            by_cases e : j = k
            · subst e; rw [qup_at]; unfold wH; rw [hwt]
            · rw [qup_j (by omega)]; exact hn j (by omega)
theorem c_Ro_startX {o i D : Nat} {c : Nat} (hR : isRo S) (hM : isMg S o i) (hok : qMgOK I o D) (hc : I o 1 = nI c) (hc6 : c ≤ 6) (ho : o + 26 < 87) : qMet E y_Ro_start b_Ro_start 3 none 1 0 0 [.ref (qb E + 94), .ref (qb E + o)] S I J (fun v S' I' J' => v = none ∧ S = S' ∧ I' 94 2 = nI (nWl (fun p => I (qm o p) 6) c).length ∧ rowIs I' c (nWl (fun p => I (qm o p) 6) c) ∧ qFr (fun a => a = 94 ∨ a = 96) I I' ∧ (∀ j, j ≠ 2 → I' 94 j = I 94 j) ∧ J = J') := by
  have hM0 := hM
  obtain ⟨rT, rA1, rA2, rA3, rA4, rR0, rR1, rR3, rR4⟩ := hR
  obtain ⟨hT, hA1, hA2, hR0, hR2, hR5, hR6, hR7, hR8, hN1, hN2, hN3, hIs, hRp, hMp⟩ := hM
  refine qMet.of (L := [some (.ref (qb E + 94)), some (.ref (qb E + o)), none]) (by decide +kernel) (Nat.le_of_ble_eq_true rfl) rfl ?_
  refine lda_n_3_0 (pc := 0) d_Ro_start_0 ?_
  refine r_iconst (pc := 1) (v := 0) d_Ro_start_1 rfl ?_
  refine p_Ro_57 (pc := 2) rfl d_Ro_start_2 (by assumption) ?_
  refine r_iconst (pc := 5) (v := 0) d_Ro_start_5 rfl ?_
  refine sti_n_3_2 (pc := 6) d_Ro_start_6 rfl ?_
  have key := qfor (P := fun p => ∀ (M : qI), M 94 2 = nI (nWl (fun p => I (qm o p) 6) p).length → rowIs M p (nWl (fun p => I (qm o p) 6) p) → qFr (fun a => a = 94 ∨ a = 96) I M → (∀ j, j ≠ 2 → M 94 j = I 94 j) → qW E y_Ro_start b_Ro_start none 1 0 0 (fun v S' I' J' => v = none ∧ S = S' ∧ I' 94 2 = nI (nWl (fun p => I (qm o p) 6) c).length ∧ rowIs I' c (nWl (fun p => I (qm o p) 6) c) ∧ qFr (fun a => a = 94 ∨ a = 96) I I' ∧ (∀ j, j ≠ 2 → I' 94 j = I 94 j) ∧ J = J') 0 0 7 [some (.ref (qb E + 94)), some (.ref (qb E + o)), some (.int (nI p))] [] S M J) c ?_ ?_ 0 (by omega)
  · exact key _ (by rw [qup_at]; rfl) (fun k hk => absurd hk (Nat.not_lt_zero _)) (qFr.up (P := fun a => a = 94 ∨ a = 96) qFr.rf (Or.inl rfl)) (fun j hj => qup_j hj)
  · intro M hMz hr hf hj
    refine ldi_n_3_2 (pc := 7) d_Ro_start_7 ?_
    refine lda_n_3_1 (pc := 8) d_Ro_start_8 ?_
    refine g_Ro_60 (pc := 9) rfl d_Ro_start_9 (by assumption) ?_
    rw [hf o (by omega), hc]
    refine r_icmp_ge (pc := 12) (tgt := 49) d_Ro_start_12 (by decide) (fun c1 => ?_) (fun c1 => ?_)
    · exact r_vret d_Ro_start_49 rfl (by omega) (by omega) (⟨rfl, rfl, hMz, hr, hf, hj, rfl⟩)
    · exact absurd (nI_le (Nat.le_refl _) (by omega)) c1
  · intro p hpc ih M hMz hr hf hj
    have zl := nWl_len (f := fun p => I (qm o p) 6) p
    have hl : qleft M o (nI p) = if I (qm o p) 6 = 0 then 1 else 0 := by
      have h1 := qm_lo (o := o) (p := p); have h2 := qm_hi (o := o) (p := p) (by omega)
      unfold qleft
      rw [if_neg (nI_pos (by omega) : ¬ nI p < 0), hf o (by omega), hc, if_neg (fun q2 => by
        have := (nI_leI (by omega) (by omega)).mp q2
        omega), qcl (by omega), hf (qm o p) (by omega)]
    have hs : nWl (fun p => I (qm o p) 6) (p + 1) = nWl (fun p => I (qm o p) 6) p ++ (if I (qm o p) 6 = 0 then [p] else []) := rfl
    refine ldi_n_3_2 (pc := 7) d_Ro_start_7 ?_
    refine lda_n_3_1 (pc := 8) d_Ro_start_8 ?_
    refine g_Ro_60 (pc := 9) rfl d_Ro_start_9 (by assumption) ?_
    rw [hf o (by omega), hc]
    refine r_icmp_ge (pc := 12) (tgt := 49) d_Ro_start_12 (by decide) (fun c1 => ?_) (fun c1 => ?_)
    · exact absurd c1 (nI_ge hpc (by omega))
    · refine lda_n_3_1 (pc := 15) d_Ro_start_15 ?_
      refine ldi_n_3_2 (pc := 16) d_Ro_start_16 ?_
      refine r_callVN (pc := 17) (As := [.int (nI p)]) (k := 3) (N := 9) (T := T_Mg) k_Ro_65 im_Mg_isLeft se_Mg_isLeft rfl (by decide) rfl (by decide) d_Ro_start_17 (by assumption) (c_Mg_isLeft hM0 (by rw [hf o (by omega)]; exact hc) hc6) rfl (Nat.le_of_ble_eq_true rfl) (by omega) (by omega) (by omega) (fun v S' I' J' hq => ?_)
      obtain ⟨rfl, rfl, rfl, rfl⟩ := hq
      rw [hl]
      rw [hs] at ih
      by_cases q : I (qm o p) 6 = 0
      · rw [if_pos q] at ih
        simp only [if_pos q]
        generalize nWl (fun p => I (qm o p) 6) p = W at *
        have hin : vp_in (nI W.length) 6 := vp_in_nI (by omega) (by omega)
        refine r_if_eq (pc := 20) (tgt := 43) d_Ro_start_20 (by decide) (fun c2 => ?_) (fun c2 => ?_)
        · exact absurd c2 (by decide)
        · refine lda_n_3_0 (pc := 23) d_Ro_start_23 ?_
          refine g_Ro_15 (pc := 24) rfl d_Ro_start_24 (by assumption) (by assumption) ?_
          refine lda_n_3_0 (pc := 27) d_Ro_start_27 ?_
          refine g_Ro_57 (pc := 28) rfl d_Ro_start_28 (by assumption) ?_
          rw [hMz]
          refine ldi_n_3_2 (pc := 31) d_Ro_start_31 ?_
          refine r_iast (pc := 32) d_Ro_start_32 (by assumption) (hin) ?_
          refine lda_n_3_0 (pc := 33) d_Ro_start_33 ?_
          refine r_dup (pc := 34) d_Ro_start_34 rfl ?_
          refine g_Ro_57 (pc := 35) rfl d_Ro_start_35 (by assumption) ?_
          rw [qup_o (show 94 ≠ 96 by decide), hMz]
          refine r_iconst (pc := 38) (v := 1) d_Ro_start_38 rfl ?_
          refine r_iadd (pc := 39) d_Ro_start_39 ?_
          refine p_Ro_57 (pc := 40) rfl d_Ro_start_40 (by assumption) ?_
          refine inc_3_2 (pc := 43) (w := 1) d_Ro_start_43 rfl rfl ?_
          refine r_goto (pc := 46) (tgt := 7) d_Ro_start_46 (by decide) ?_
          rw [q1, q1, qcl (n := W.length) (by omega)]
          refine ih _ (by rw [qup_at, List.length_append]; rfl) (fun k hk => ?_) ((hf.up (Or.inr rfl)).up (Or.inl rfl)) (fun j h2 => by rw [qup_j h2, qup_o (by decide)]; exact hj j h2)
          rw [qup_o (by decide)]
          rw [List.length_append] at hk
          by_cases e : k < W.length
          · rw [qup_j (by omega), List.getD_eq_getElem?_getD, List.getElem?_append_left e, ← List.getD_eq_getElem?_getD]
            exact ⟨(hr k e).1, by have := (hr k e).2; omega⟩
          · have : k = W.length := by simp at hk; omega
            subst this
            rw [qup_at, List.getD_eq_getElem?_getD, List.getElem?_append_right (Nat.le_refl _)]
            simp
      · rw [if_neg q, List.append_nil] at ih
        simp only [if_neg q]
        refine r_if_eq (pc := 20) (tgt := 43) d_Ro_start_20 (by decide) (fun c2 => ?_) (fun c2 => ?_)
        · refine inc_3_2 (pc := 43) (w := 1) d_Ro_start_43 rfl rfl ?_
          refine r_goto (pc := 46) (tgt := 7) d_Ro_start_46 (by decide) ?_
          rw [q1]
          exact ih M hMz (fun k hk => ⟨(hr k hk).1, by have := (hr k hk).2; omega⟩) hf hj
        · exact absurd rfl c2
end T2
