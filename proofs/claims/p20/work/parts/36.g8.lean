/-! all rows tried: which cells are touched, how many rows -/
theorem lrem_eq (x y : Int64) : x - x / y * y = x % y := by
  apply Int64.toInt_inj.mp
  rw [Int64.toInt_sub, Int64.toInt_mul, Int64.toInt_div, Int64.toInt_mod, Int.bmod_mul_bmod, Int.sub_bmod_bmod]
  have e : x.toInt - x.toInt.tdiv y.toInt * y.toInt = x.toInt.tmod y.toInt := by rw [Int.tmod_def, Int.mul_comm]
  rw [e, ← Int64.toInt_mod]
  exact Int64.toInt_bmod _
theorem lrem_lt {x y : Int64} (h : ¬ y = 0) : (x - x / y * y).toInt.natAbs < y.toInt.natAbs := by
  rw [lrem_eq, Int64.toInt_mod, Int.natAbs_tmod]
  refine Nat.mod_lt _ (Int.natAbs_pos.mpr (fun e => h (Int64.toInt_inj.mp ?_)))
  rw [e]; rfl
theorem lN_p1 {a : Nat} : lN a + 1 = lN (a + 1) := (Int64.ofNat_add a 1).symm
def cz (u : Nat) : Nat → Nat
  | 0 => 0
  | k + 1 => cz u k + (if u / 2 ^ k % 2 = 0 then 1 else 0)
theorem ubit : ∀ u, u < 64 → ∀ i, i < 6 → (nI u >>> (nI i &&& 31)) &&& 1 = nI (u / 2 ^ i % 2) := by decide +kernel
theorem uset : ∀ u, u < 64 → ∀ i, i < 6 → nI u ||| (1 <<< (nI i &&& 31)) = nI (u ||| 2 ^ i) ∧ u ||| 2 ^ i < 64 := by decide +kernel
theorem ucz : ∀ u, u < 64 → ∀ z, z < 7 → ∀ i, i < z → u / 2 ^ i % 2 = 0 → cz (u ||| 2 ^ i) z + 1 = cz u z := by decide +kernel
theorem cz_le (u : Nat) : ∀ k, cz u k ≤ k := by
  intro k
  induction k with
  | zero => exact Nat.le_refl 0
  | succ k ih => rw [cz]; split <;> omega
def mJo (J J' : qJ) : Prop := ∀ b, b ≠ 114 → J' b = J b
theorem mJo.up {J J1 : qJ} {j : Nat} {x : Int64} (h : mJo J J1) : mJo J (qup J1 114 j x) := fun b hb => by rw [qup_row hb]; exact h b hb
section G8
variable {E : qE} {S : qSh} {I : qI} {J : qJ}
def qTry (S : qSh) (I : qI) (J : qJ) (a m : Nat) : qPost := fun v S' I' J' => v = none ∧ S = S' ∧ qOnly (fun b => b = 143 ∨ b = 144) I I' ∧ mJo J J' ∧ ∃ t, 1 ≤ t ∧ t ≤ 6 ^ m ∧ J' 114 51 = lN (a + t)
theorem c_Md_tries (hM : isMd S) {z : Nat} : ∀ (m : Nat) (I : qI) (J : qJ) (j u a : Nat) (s mo : Int64), j + m = z → mLeft I z → u < 64 → cz u z = m → J 114 51 = lN a → qMet E y_Md_tries b_Md_tries 10 none m 0 0 [.ref (qb E + 114), .int (nI j), .int (nI u), .long s, .long mo] S I J (qTry S I J a m) := by
  have hT := hM.1
  have f42 := hM.r 26 rfl
  have g42 := hM.a 26 rfl
  have f44 := hM.r 27 rfl
  have g44 := hM.a 27 rfl
  have f45 := hM.r 28 rfl
  have g45 := hM.a 28 rfl
  have f46 := hM.r 29 rfl
  have g46 := hM.a 29 rfl
  intro m
  induction m with
  | zero =>
    intro I J j u a s mo hj hz hu hc ha
    have ej : j = z := by omega
    subst ej
    have hz6 := hz.2.1
    refine qMet.of (L := [some (.ref (qb E + 114)), some (.int (nI j)), some (.int (nI u)), some (.long s), none, some (.long mo), none, none, none, none]) (by decide +kernel) (Nat.le_of_ble_eq_true rfl) rfl ?_
    refine ldi_n_10_1 (pc := 0) d_Md_tries_0 ?_
    refine lda_n_10_0 (pc := 1) d_Md_tries_1 ?_
    refine g_Md_272 (pc := 2) rfl d_Md_tries_2 (by assumption) ?_
    rw [hz.1]
    refine r_icmp_ne (pc := 5) (tgt := 121) d_Md_tries_5 (by decide) (fun c => ?_) (fun c => ?_)
    · exact absurd rfl c
    · refine lda_n_10_0 (pc := 8) d_Md_tries_8 ?_
      refine r_dup (pc := 9) d_Md_tries_9 rfl ?_
      refine g_Md_275 (pc := 10) rfl d_Md_tries_10 (by assumption) ?_
      refine r_lconst (pc := 13) (v := 1) d_Md_tries_13 rfl ?_
      refine r_ladd (pc := 14) d_Md_tries_14 ?_
      refine p_Md_275 (pc := 15) rfl d_Md_tries_15 (by assumption) ?_
      rw [ha, lN_p1]
      refine r_nmJ (fun J1 hJ1 => ?_)
      have o1 : mJo J J1 := by rw [hJ1]; exact mJo.up (fun _ _ => rfl)
      have t1 : J1 114 51 = lN (a + 1) := by rw [hJ1, qup_at]
      refine lda_n_10_0 (pc := 18) d_Md_tries_18 ?_
      refine r_dup (pc := 19) d_Md_tries_19 rfl ?_
      refine g_Md_279 (pc := 20) rfl d_Md_tries_20 (by assumption) ?_
      refine ldl_n_10_3 (pc := 23) d_Md_tries_23 ?_
      refine r_ladd (pc := 24) d_Md_tries_24 ?_
      refine p_Md_279 (pc := 25) rfl d_Md_tries_25 (by assumption) ?_
      refine r_nmJ (fun J2 hJ2 => ?_)
      have o2 : mJo J J2 := by rw [hJ2]; exact o1.up
      have t2 : J2 114 51 = lN (a + 1) := by rw [hJ2, qup_j (by decide)]; exact t1
      have A47 : ∀ J3, mJo J J3 → J3 114 51 = lN (a + 1) → qW E y_Md_tries b_Md_tries none 0 0 0 (qTry S I J a 0) 0 0 47 [some (.ref (qb E + 114)), some (.int (nI j)), some (.int (nI u)), some (.long s), none, some (.long mo), none, none, none, none] [] S I J3 := by
        intro J3 o3 t3
        have A60 : ∀ x, qW E y_Md_tries b_Md_tries none 0 0 0 (qTry S I J a 0) 0 0 60 [some (.ref (qb E + 114)), some (.int (nI j)), some (.int (nI u)), some (.long s), none, some (.long mo), none, none, none, none] [.long x] S I J3 := by
          intro x
          have A82 : qW E y_Md_tries b_Md_tries none 0 0 0 (qTry S I J a 0) 0 0 82 [some (.ref (qb E + 114)), some (.int (nI j)), some (.int (nI u)), some (.long s), none, some (.long mo), none, some (.long x), none, none] [] S I J3 := by
            refine lda_n_10_0 (pc := 82) d_Md_tries_82 ?_
            refine ldl_10_7 (pc := 83) d_Md_tries_83 ?_
            refine p_Md_292 (pc := 85) rfl d_Md_tries_85 (by assumption) ?_
            refine r_iconst (pc := 88) (v := 0) d_Md_tries_88 rfl ?_
            refine sti_10_9 (pc := 89) d_Md_tries_89 rfl ?_
            refine r_nmJ (fun J4 hJ4 => ?_)
            have o4 : mJo J J4 := by rw [hJ4]; exact o3.up
            have t4 : J4 114 51 = lN (a + 1) := by rw [hJ4, qup_j (by decide)]; exact t3
            rw [q0]
            have lp : ∀ k, k ≤ j → ∀ K, qOnly (fun b => b = 143 ∨ b = 144) I K → qW E y_Md_tries b_Md_tries none 0 0 0 (qTry S I J a 0) 0 0 91 [some (.ref (qb E + 114)), some (.int (nI j)), some (.int (nI u)), some (.long s), none, some (.long mo), none, some (.long x), none, some (.int (nI k))] [] S K J4 := by
              refine qfor j ?_ ?_
              · intro K hK
                refine ldi_10_9 (pc := 91) d_Md_tries_91 ?_
                refine lda_n_10_0 (pc := 93) d_Md_tries_93 ?_
                refine g_Md_272 (pc := 94) rfl d_Md_tries_94 (by assumption) ?_
                rw [hK 114 (by decide), hz.1]
                refine r_icmp_ge (pc := 97) (tgt := 120) d_Md_tries_97 (by decide) (fun c2 => ?_) (fun c2 => ?_)
                · exact r_vret d_Md_tries_120 rfl (by omega) (by omega) (⟨rfl, rfl, hK, o4, 1, by omega, by omega, t4⟩)
                · exact absurd (nI_le (Nat.le_refl j) (by omega)) c2
              · intro k hk ih K hK
                refine ldi_10_9 (pc := 91) d_Md_tries_91 ?_
                refine lda_n_10_0 (pc := 93) d_Md_tries_93 ?_
                refine g_Md_272 (pc := 94) rfl d_Md_tries_94 (by assumption) ?_
                rw [hK 114 (by decide), hz.1]
                refine r_icmp_ge (pc := 97) (tgt := 120) d_Md_tries_97 (by decide) (fun c2 => ?_) (fun c2 => ?_)
                · exact absurd c2 (nI_ge hk (by omega))
                · refine lda_n_10_0 (pc := 100) d_Md_tries_100 ?_
                  refine g_Md_100 (pc := 101) rfl d_Md_tries_101 (by assumption) (by assumption) ?_
                  refine ldi_10_9 (pc := 104) d_Md_tries_104 ?_
                  refine lda_n_10_0 (pc := 106) d_Md_tries_106 ?_
                  refine g_Md_97 (pc := 107) rfl d_Md_tries_107 (by assumption) (by assumption) ?_
                  refine ldi_10_9 (pc := 110) d_Md_tries_110 ?_
                  refine r_iald (pc := 112) d_Md_tries_112 (by assumption) (by first | assumption | exact vp_in_nI (by omega) (by omega) | (unfold vp_in; decide)) ?_
                  refine r_iast (pc := 113) d_Md_tries_113 (by assumption) (by first | assumption | exact vp_in_nI (by omega) (by omega) | (unfold vp_in; decide)) ?_
                  refine inc_10_9 (pc := 114) (w := 1) d_Md_tries_114 rfl rfl ?_
                  refine r_goto (pc := 117) (tgt := 91) d_Md_tries_117 (by decide) ?_
                  rw [q1]
                  exact ih _ (hK.up (Or.inr rfl))
            exact lp 0 (by omega) I qOnly.rf
          refine stl_10_7 (pc := 60) d_Md_tries_60 rfl ?_
          refine lda_n_10_0 (pc := 62) d_Md_tries_62 ?_
          refine g_Md_292 (pc := 63) rfl d_Md_tries_63 (by assumption) ?_
          refine r_lconst (pc := 66) (v := 0) d_Md_tries_66 rfl ?_
          refine r_lcmp (pc := 67) d_Md_tries_67 ?_
          refine r_if_lt (pc := 68) (tgt := 82) d_Md_tries_68 (by decide) (fun c2 => ?_) (fun c2 => ?_)
          · exact A82
          · refine ldl_10_7 (pc := 71) d_Md_tries_71 ?_
            refine lda_n_10_0 (pc := 73) d_Md_tries_73 ?_
            refine g_Md_292 (pc := 74) rfl d_Md_tries_74 (by assumption) ?_
            refine r_lcmp (pc := 77) d_Md_tries_77 ?_
            refine r_if_lt (pc := 78) (tgt := 82) d_Md_tries_78 (by decide) (fun c3 => ?_) (fun c3 => ?_)
            · exact A82
            · exact r_vret d_Md_tries_81 rfl (by omega) (by omega) (⟨rfl, rfl, qOnly.rf, o3, 1, by omega, by omega, t3⟩)
        refine lda_n_10_0 (pc := 47) d_Md_tries_47 ?_
        refine g_Md_288 (pc := 48) rfl d_Md_tries_48 (by assumption) ?_
        refine r_if_eq (pc := 51) (tgt := 59) d_Md_tries_51 (by decide) (fun c2 => ?_) (fun c2 => ?_)
        · refine ldl_n_10_3 (pc := 59) d_Md_tries_59 ?_
          exact A60 _
        · refine ldl_10_5 (pc := 54) d_Md_tries_54 ?_
          refine r_goto (pc := 56) (tgt := 60) d_Md_tries_56 (by decide) ?_
          exact A60 _
      refine ldl_n_10_3 (pc := 28) d_Md_tries_28 ?_
      refine lda_n_10_0 (pc := 29) d_Md_tries_29 ?_
      refine g_Md_282 (pc := 30) rfl d_Md_tries_30 (by assumption) ?_
      refine r_lcmp (pc := 33) d_Md_tries_33 ?_
      refine r_if_gt (pc := 34) (tgt := 47) d_Md_tries_34 (by decide) (fun c2 => ?_) (fun c2 => ?_)
      · exact A47 J2 o2 t2
      · refine lda_n_10_0 (pc := 37) d_Md_tries_37 ?_
        refine r_dup (pc := 38) d_Md_tries_38 rfl ?_
        refine g_Md_285 (pc := 39) rfl d_Md_tries_39 (by assumption) ?_
        refine r_lconst (pc := 42) (v := 1) d_Md_tries_42 rfl ?_
        refine r_ladd (pc := 43) d_Md_tries_43 ?_
        refine p_Md_285 (pc := 44) rfl d_Md_tries_44 (by assumption) ?_
        refine r_nmJ (fun J3 hJ3 => ?_)
        exact A47 J3 (by rw [hJ3]; exact o2.up) (by rw [hJ3, qup_j (by decide)]; exact t2)
  | succ m ih =>
    intro I J j u a s mo hj hz hu hc ha
    have hz6 := hz.2.1
    have hinj : vp_in (nI j) 6 := vp_in_nI (by omega) (by omega)
    refine qMet.of (L := [some (.ref (qb E + 114)), some (.int (nI j)), some (.int (nI u)), some (.long s), none, some (.long mo), none, none, none, none]) (by decide +kernel) (Nat.le_of_ble_eq_true rfl) rfl ?_
    refine ldi_n_10_1 (pc := 0) d_Md_tries_0 ?_
    refine lda_n_10_0 (pc := 1) d_Md_tries_1 ?_
    refine g_Md_272 (pc := 2) rfl d_Md_tries_2 (by assumption) ?_
    rw [hz.1]
    refine r_icmp_ne (pc := 5) (tgt := 121) d_Md_tries_5 (by decide) (fun c => ?_) (fun c => ?_)
    · refine r_iconst (pc := 121) (v := 0) d_Md_tries_121 rfl ?_
      refine sti_10_7 (pc := 122) d_Md_tries_122 rfl ?_
      rw [q0]
      have lp : ∀ k, k ≤ z → ∀ (K : qI) (J2 : qJ) (t : Nat) (a8 a9 : Option Value), qOnly (fun b => b = 143 ∨ b = 144) I K → mJo J J2 → J2 114 51 = lN (a + t) → cz u k ≤ t → t ≤ k * 6 ^ m → qn2 a8 = true → qW E y_Md_tries b_Md_tries none (m + 1) 0 0 (qTry S I J a (m + 1)) 0 0 124 [some (.ref (qb E + 114)), some (.int (nI j)), some (.int (nI u)), some (.long s), none, some (.long mo), none, some (.int (nI k)), a8, a9] [] S K J2 := by
        refine qfor z ?_ ?_
        · intro K J2 t a8 a9 hK o2 t2 hcz ht n8
          refine ldi_10_7 (pc := 124) d_Md_tries_124 ?_
          refine lda_n_10_0 (pc := 126) d_Md_tries_126 ?_
          refine g_Md_272 (pc := 127) rfl d_Md_tries_127 (by assumption) ?_
          rw [hK 114 (by decide), hz.1]
          refine r_icmp_ge (pc := 130) (tgt := 210) d_Md_tries_130 (by decide) (fun c2 => ?_) (fun c2 => ?_)
          · exact r_vret d_Md_tries_210 rfl (by omega) (by omega) (⟨rfl, rfl, hK, o2, t, by omega, by rw [Nat.pow_succ]; exact Nat.le_trans ht (by rw [Nat.mul_comm]; exact Nat.mul_le_mul_left _ hz6), t2⟩)
          · exact absurd (nI_le (Nat.le_refl z) (by omega)) c2
        · intro k hk ik K J2 t a8 a9 hK o2 t2 hcz ht n8
          have ek : (nI k).toNatClampNeg = k := qcl (by omega)
          obtain ⟨p, hp, ep⟩ := hz.2.2 k hk
          have hp6 : (k + 1) * 6 ^ m = k * 6 ^ m + 6 ^ m := Nat.succ_mul k (6 ^ m)
          refine ldi_10_7 (pc := 124) d_Md_tries_124 ?_
          refine lda_n_10_0 (pc := 126) d_Md_tries_126 ?_
          refine g_Md_272 (pc := 127) rfl d_Md_tries_127 (by assumption) ?_
          rw [hK 114 (by decide), hz.1]
          refine r_icmp_ge (pc := 130) (tgt := 210) d_Md_tries_130 (by decide) (fun c2 => ?_) (fun c2 => ?_)
          · exact absurd c2 (nI_ge hk (by omega))
          · refine ldi_n_10_2 (pc := 133) d_Md_tries_133 ?_
            refine ldi_10_7 (pc := 134) d_Md_tries_134 ?_
            refine r_ishr (pc := 136) d_Md_tries_136 ?_
            refine r_iconst (pc := 137) (v := 1) d_Md_tries_137 rfl ?_
            refine r_iand (pc := 138) d_Md_tries_138 ?_
            rw [ubit u hu k (by omega)]
            refine r_iconst (pc := 139) (v := 1) d_Md_tries_139 rfl ?_
            by_cases hb : u / 2 ^ k % 2 = 0
            · rw [hb]
              refine r_icmp_ne (pc := 140) (tgt := 146) d_Md_tries_140 (by decide) (fun c3 => ?_) (fun c3 => ?_)
              · have hin : vp_in (6 * nI p + nI j) 36 := by
                  rw [show (6 : Int32) = nI 6 from rfl, pk_mul, nI_add]; exact vp_in_nI (by omega) (by omega)
                refine lda_n_10_0 (pc := 146) d_Md_tries_146 ?_
                refine g_Md_97 (pc := 147) rfl d_Md_tries_147 (by assumption) (by assumption) ?_
                refine ldi_n_10_1 (pc := 150) d_Md_tries_150 ?_
                refine lda_n_10_0 (pc := 151) d_Md_tries_151 ?_
                refine g_Md_94 (pc := 152) rfl d_Md_tries_152 (by assumption) (by assumption) ?_
                refine ldi_10_7 (pc := 155) d_Md_tries_155 ?_
                refine r_iald (pc := 157) d_Md_tries_157 (by assumption) (by first | assumption | exact vp_in_nI (by omega) (by omega) | (unfold vp_in; decide)) ?_
                refine r_iast (pc := 158) d_Md_tries_158 (by assumption) (by first | assumption | exact vp_in_nI (by omega) (by omega) | (unfold vp_in; decide)) ?_
                refine r_nmI (fun K2 hK2 => ?_)
                have s2 : qOnly (fun b => b = 143 ∨ b = 144) I K2 := by rw [hK2]; exact hK.up (Or.inl rfl)
                refine lda_n_10_0 (pc := 159) d_Md_tries_159 ?_
                refine g_Md_91 (pc := 160) rfl d_Md_tries_160 (by assumption) (by assumption) ?_
                refine r_bipush (pc := 163) (v := 6) d_Md_tries_163 rfl ?_
                refine lda_n_10_0 (pc := 165) d_Md_tries_165 ?_
                refine g_Md_94 (pc := 166) rfl d_Md_tries_166 (by assumption) (by assumption) ?_
                refine ldi_10_7 (pc := 169) d_Md_tries_169 ?_
                refine r_iald (pc := 171) d_Md_tries_171 (by assumption) (by first | assumption | exact vp_in_nI (by omega) (by omega) | (unfold vp_in; decide)) ?_
                rw [ek, s2 142 (by decide), ep]
                refine r_imul (pc := 172) d_Md_tries_172 ?_
                refine ldi_n_10_1 (pc := 173) d_Md_tries_173 ?_
                refine r_iadd (pc := 174) d_Md_tries_174 ?_
                refine r_iald (pc := 175) d_Md_tries_175 (by assumption) (by first | assumption | exact vp_in_nI (by omega) (by omega) | (unfold vp_in; decide)) ?_
                refine sti_10_8 (pc := 176) d_Md_tries_176 rfl ?_
                refine lda_n_10_0 (pc := 178) d_Md_tries_178 ?_
                refine ldi_n_10_1 (pc := 179) d_Md_tries_179 ?_
                refine r_iconst (pc := 180) (v := 1) d_Md_tries_180 rfl ?_
                refine r_iadd (pc := 181) d_Md_tries_181 ?_
                refine ldi_n_10_2 (pc := 182) d_Md_tries_182 ?_
                refine r_iconst (pc := 183) (v := 1) d_Md_tries_183 rfl ?_
                refine ldi_10_7 (pc := 184) d_Md_tries_184 ?_
                refine r_ishl (pc := 186) d_Md_tries_186 ?_
                refine r_ior (pc := 187) d_Md_tries_187 ?_
                rw [q1, (uset u hu k (by omega)).1]
                refine ldl_n_10_3 (pc := 188) d_Md_tries_188 ?_
                refine ldi_10_8 (pc := 189) d_Md_tries_189 ?_
                refine r_i2l (pc := 191) d_Md_tries_191 ?_
                refine r_ladd (pc := 192) d_Md_tries_192 ?_
                refine ldl_10_5 (pc := 193) d_Md_tries_193 ?_
                refine ldi_10_8 (pc := 195) d_Md_tries_195 ?_
                refine r_i2l (pc := 197) d_Md_tries_197 ?_
                refine r_callS (pc := 198) (As := [_, _]) k_Md_295 sw_jM_maxL rfl (by decide) d_Md_tries_198 (c_maxL _ _) rfl (Nat.le_of_ble_eq_true rfl) (by omega) (by omega) (by omega) (fun v S' I' J' hq => ?_)
                obtain ⟨rfl, rfl, rfl, rfl⟩ := hq
                have zl : mLeft K2 z := ⟨by rw [s2 114 (by decide)]; exact hz.1, hz6, fun i hi => by rw [s2 142 (by decide)]; exact hz.2.2 i hi⟩
                have hc2 : cz (u ||| 2 ^ k) z = m := by have := ucz u hu z (by omega) k hk hb; omega
                refine r_callV (pc := 201) (As := [.int (nI (j + 1)), .int (nI (u ||| 2 ^ k)), _, _]) (k := 9) (N := 56) (T := T_Md) k_Md_298 im_Md_tries se_Md_tries rfl (by decide) rfl (by decide) d_Md_tries_201 hT (ih K2 J2 (j + 1) (u ||| 2 ^ k) (a + t) _ _ (by omega) zl (uset u hu k (by omega)).2 hc2 t2) rfl (Nat.le_of_ble_eq_true rfl) (by omega) (by omega) (by omega) (fun v S' K3 J3 hq => ?_)
                obtain ⟨rfl, rfl, s3, o3, t', h1, h2, t3⟩ := hq
                refine inc_10_7 (pc := 204) (w := 1) d_Md_tries_204 rfl rfl ?_
                refine r_goto (pc := 207) (tgt := 124) d_Md_tries_207 (by decide) ?_
                rw [q1]
                refine ik K3 J3 (t + t') _ _ (s2.tr s3) (fun b hb => (o3 b hb).trans (o2 b hb)) (by rw [t3, Nat.add_assoc]) ?_ (by omega) rfl
                rw [cz, if_pos hb]; omega
              · exact absurd c3 (by decide)
            · have hb1 : u / 2 ^ k % 2 = 1 := by omega
              rw [hb1]
              refine r_icmp_ne (pc := 140) (tgt := 146) d_Md_tries_140 (by decide) (fun c3 => ?_) (fun c3 => ?_)
              · exact absurd rfl c3
              · refine r_goto (pc := 143) (tgt := 204) d_Md_tries_143 (by decide) ?_
                refine inc_10_7 (pc := 204) (w := 1) d_Md_tries_204 rfl rfl ?_
                refine r_goto (pc := 207) (tgt := 124) d_Md_tries_207 (by decide) ?_
                rw [q1]
                refine ik K J2 t _ _ hK o2 t2 ?_ (Nat.le_trans ht (by rw [hp6]; exact Nat.le_add_right _ _)) n8
                rw [cz, if_neg hb]; omega
      exact lp 0 (by omega) I J 0 none none qOnly.rf (fun _ _ => rfl) (by rw [ha, Nat.add_zero]) (by rw [cz]; omega) (by omega) rfl
    · exact absurd ((nI_eq (by omega) (by omega)).mp c) (by omega)
end G8
