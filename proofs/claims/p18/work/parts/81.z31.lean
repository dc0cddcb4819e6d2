/-! class and reference side by side: shifts, texts; the start -/
theorem xINV.shift {S S1 S2 : qSh} {I I1 I2 : qI} {J J1 J2 : qJ} {T T2 : qI → Prop} {v v2 : Option Value} {tp i tq j n : Int32} (g : xINV S I J) (pK : v = some (.int (ca_shift I tp i tq j n)) ∧ I1 = I ∧ J1 = cj_shift I J tp i tq j n) (hK : KQ0 S I J T v S1 I1 J1) (pR : qSh1 S1 I1 J1 tp i tq j n v2 S2 I2 J2) (hV : RQ0 S1 I1 J1 T2 v2 S2 I2 J2) : xINV S2 I2 J2 ∧ v = v2 := by
  have cf := hK.2.2.1
  have rf := hV.2.2.1
  have tie := g.2.2.2
  have tps := g.2.2.1.tapes
  obtain ⟨hv, hI1, hJ1⟩ := pK
  obtain ⟨-, hI2, hR⟩ := pR
  subst hI1
  subst hI2
  unfold ca_shift at hv
  unfold cj_shift at hJ1
  have idn : J1 = J → J1 = J2 → xINV S2 I1 J2 := fun h1 h2 => g.mk2 hK hV (tie.idn rfl h1 rfl h2.symm)
  rcases hR with ⟨h, hv2, hJ2⟩ | ⟨t, u, ht, hu, rfl, rfl, hR⟩
  · by_cases q0 : qwithin tp 0 5 = 0
    · rw [if_pos q0] at hv hJ1
      exact ⟨idn hJ1 hJ2, hv.trans hv2.symm⟩
    · have q1 := h.resolve_left q0
      rw [if_neg q0, if_pos q1] at hv hJ1
      exact ⟨idn hJ1 hJ2, hv.trans hv2.symm⟩
  · obtain ⟨b1, b2, b3, b4⟩ := tie.2.2.2.1 t ht
    obtain ⟨c1, c2, c3, c4⟩ := tie.2.2.2.1 u hu
    obtain ⟨zt, zt6, hzt⟩ := tps t ht
    obtain ⟨zu, zu6, hzu⟩ := tps u hu
    rw [if_neg (tp_in t ht), if_neg (tp_in u hu), ctp_nI ht, ctp_nI hu, ← b1, ← b2, ← c1, ← c2] at hv hJ1
    have m1 : ∀ y : Int32, y = -1 → y < 0 := fun y h => by rw [h]; decide
    have p1 : ∀ y : Int32, 0 ≤ y → ¬ y = -1 := fun y h e => n11 (e ▸ h)
    rcases hR with ⟨h, hv2, hJ2⟩ | ⟨h1, h2, h3, hv2, hJ2⟩ | ⟨h1, h3, h4, hv2, hJ2⟩ | ⟨h1, h3, x, y, m, rfl, rfl, rfl, ⟨z1, e1, f1, k1⟩, ⟨z2, e2, f2, k2⟩, hv2, hJ2⟩
    · by_cases q0 : I1 145 t = -1
      · rw [if_pos q0] at hv hJ1
        exact ⟨idn hJ1 hJ2, hv.trans hv2.symm⟩
      · have q1 : I1 145 u = -1 := by
          rcases h with h | h
          · rcases b4 with w | w
            · exact absurd w.1 q0
            · exact absurd w (Int32.not_le.mpr h)
          · rcases c4 with w | w
            · exact w.1
            · exact absurd w (Int32.not_le.mpr h)
        rw [if_neg q0, if_pos q1] at hv hJ1
        exact ⟨idn hJ1 hJ2, hv.trans hv2.symm⟩
    · rw [if_neg (fun e => h1 (m1 _ e)), if_neg (fun e => h2 (m1 _ e)), if_neg h3] at hv hJ1
      exact ⟨idn hJ1 hJ2, hv.trans hv2.symm⟩
    · rw [if_neg (fun e => h1 (m1 _ e)), if_neg (fun e => h1 (by rw [h3]; exact m1 _ e)), if_pos h3, hzt, hzu] at hv hJ1
      by_cases q0 : qholds (nI zt) i n = 0
      · rw [if_pos q0] at hv hJ1
        exact ⟨idn hJ1 hJ2, hv.trans hv2.symm⟩
      · by_cases q1 : qholds (nI zu) j n = 0
        · rw [if_neg q0, if_pos q1] at hv hJ1
          exact ⟨idn hJ1 hJ2, hv.trans hv2.symm⟩
        · exfalso
          obtain ⟨x, m, rfl, rfl, k1⟩ := qholds_y zt6 q0
          obtain ⟨y, m', rfl, em, k2⟩ := qholds_y zu6 q1
          have emm : m = m' := (nI_eq (by omega) (by omega)).mp em
          subst emm
          exact h4 x y m rfl rfl rfl (by omega) (by omega) (by omega) ⟨rfl, ⟨zt, hzt, zt6, k1⟩, ⟨zu, hzu, zu6, k2⟩⟩
    · have ez1 : zt = z1 := (nI_eq (by omega) (by omega)).mp (hzt.symm.trans e1)
      have ez2 : zu = z2 := (nI_eq (by omega) (by omega)).mp (hzu.symm.trans e2)
      subst ez1; subst ez2
      rw [if_neg (fun e => h1 (m1 _ e)), if_neg (fun e => h1 (by rw [h3]; exact m1 _ e)), if_pos h3, hzt, hzu, if_neg (qholds_n zt6 k1), if_neg (qholds_n zu6 k2)] at hv hJ1
      rw [qcl (by omega), qcl (by omega), qcl (by omega)] at hJ1
      refine ⟨g.mk2 hK hV (tie.tps (fun a ha => rfl) cf (fun a _ _ => rfl) rf (fun w hw => ?_)), hv.trans hv2.symm⟩
      obtain ⟨d1, d2, d3, d4⟩ := tie.2.2.2.1 w hw
      refine ⟨d1, d2, fun k hk => ?_, d4⟩
      have e147 : J1 147 = J 147 := (cf 147 (by omega) (by omega)).2
      have x1 : J2 147 (60 * w + k) = if w = u ∧ y ≤ k ∧ k < y + m then J 147 (60 * t + (x + (k - y))) else J 147 (60 * w + k) := by
        rw [hJ2]; unfold mcp
        by_cases q : w = u ∧ y ≤ k ∧ k < y + m
        · rw [if_pos q, if_pos (by omega), e147]
          obtain ⟨rfl, -, -⟩ := q
          congr 1
          omega
        · rw [if_neg q, if_neg (by omega), e147]
      have x2 : J2 (102 + 2 * w + 1) k = if w = u ∧ y ≤ k ∧ k < y + m then J (102 + 2 * t + 1) (x + (k - y)) else J (102 + 2 * w + 1) k := by
        rw [(rf (102 + 2 * w + 1) (by omega)).2, hJ1]; unfold qrow va_cpy
        by_cases q : w = u
        · subst q
          rw [if_pos rfl]
          by_cases q2 : y ≤ k ∧ k < y + m
          · rw [if_pos q2, if_pos ⟨rfl, q2⟩]
          · rw [if_neg q2, if_neg (fun z => q2 z.2)]
        · rw [if_neg (by omega), if_neg (fun z => q z.1)]
      rw [x1, x2]
      by_cases q : w = u ∧ y ≤ k ∧ k < y + m
      · rw [if_pos q, if_pos q]; exact b3 _ (by omega)
      · rw [if_neg q, if_neg q]; exact d3 k hk
theorem lcmp_self {a b : Int64} (h : a = b) : lg_cmp a b = 0 := by
  subst h
  unfold lg_cmp
  rw [if_neg (fun q => absurd q (Int64.not_lt.mpr (Int64.le_refl a))), if_pos rfl]
