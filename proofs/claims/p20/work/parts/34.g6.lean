/-! what is asked leaves all as it was -/
def mSame (I I' : qI) : Prop := (∀ j, j < 124 → kp I' j = kp I j) ∧ (∀ a, ¬ kpc a → ¬ (a = 130 ∨ (140 ≤ a ∧ a ≤ 144)) → I' a = I a) ∧ ∀ j, j ≠ 0 → j ≠ 8 → j ≠ 10 → j ≠ 18 → j ≠ 27 → j ≠ 31 → j ≠ 34 → j ≠ 43 → j ≠ 48 → I' 114 j = I 114 j
theorem mSame.rf {I : qI} : mSame I I := ⟨fun _ _ => rfl, fun _ _ _ => rfl, fun _ _ _ _ _ _ _ _ _ _ => rfl⟩
theorem mSame.tr {I I' I'' : qI} (h : mSame I I') (h2 : mSame I' I'') : mSame I I'' := ⟨fun j hj => (h2.1 j hj).trans (h.1 j hj), fun a h3 h4 => (h2.2.1 a h3 h4).trans (h.2.1 a h3 h4), fun j a b c d e f g i k => (h2.2.2 j a b c d e f g i k).trans (h.2.2 j a b c d e f g i k)⟩
theorem mSame.only {P : Nat → Prop} {I I' : qI} (h : qOnly P I I') (hP : ∀ a, P a → a = 130 ∨ (140 ≤ a ∧ a ≤ 144)) : mSame I I' := by
  have hc : ∀ a, P a → ¬ kpc a := fun a ha => by have := hP a ha; unfold kpc; omega
  exact ⟨fun j hj => kp_only h hc hj, fun a _ h4 => h a (fun q => h4 (hP a q)), fun j _ _ _ _ _ _ _ _ _ => by rw [h 114 (fun q => by have := hP 114 q; omega)]⟩
theorem mSame.f {I : qI} {j : Nat} {x : Int32} (h : j = 43 ∨ j = 48) : mSame I (qup I 114 j x) := by
  refine ⟨fun i hi => ?_, fun a h3 _ => qup_row (fun e => h3 (by rw [e]; unfold kpc; omega)), fun i _ _ _ _ _ _ _ h1 h2 => qup_j (by omega)⟩
  unfold kp
  refine qup_ne (fun q => ?_)
  have key : ∀ i, i < 124 → ¬ ((kpa i).1 = 114 ∧ ((kpa i).2 = 43 ∨ (kpa i).2 = 48)) := by decide +kernel
  exact key i hi ⟨q.1, by omega⟩
theorem mSame.day {I K : qI} {D : Nat} (h : mSame I K) (hd : mDay I D) : mDay K D := by
  obtain ⟨⟨n, ⟨h1, h2, cz, h3, h4, h5⟩, hh⟩, ⟨c, c6, hc⟩, ⟨l, l6, hl⟩, hL, d, dD, hd2⟩ := hd
  have e0 : K 114 0 = I 114 0 := h.1 117 (by decide)
  have e8 : K 114 8 = I 114 8 := h.1 118 (by decide)
  have e10 : K 114 10 = I 114 10 := h.1 119 (by decide)
  have e18 : K 114 18 = I 114 18 := h.1 123 (by decide)
  have eL : ∀ k, k < 6 → K 122 k = I 122 k := fun k hk => by have := h.1 (36 + k) (by omega); rwa [kp_122 hk, kp_122 hk] at this
  have ea : ∀ a, 124 ≤ a → a ≤ 129 → K a = I a := fun a ha hb => h.2.1 a (by unfold kpc; omega) (by omega)
  have ef : K 114 17 = I 114 17 := h.2.2 17 (by decide) (by decide) (by decide) (by decide) (by decide) (by decide) (by decide) (by decide) (by decide)
  have ef2 : K 114 25 = I 114 25 := h.2.2 25 (by decide) (by decide) (by decide) (by decide) (by decide) (by decide) (by decide) (by decide) (by decide)
  refine ⟨⟨n, ⟨h1, by rw [ef]; exact h2, cz, h3, by rw [ef2]; exact h4, fun h hh => ?_⟩, by unfold mHo; rw [e18]; exact hh⟩, ⟨c, c6, by rw [e0]; exact hc⟩, ⟨l, l6, by rw [e8]; exact hl⟩, fun k hk => by rw [eL k hk]; exact hL k hk, d, dD, by rw [e10]; exact hd2⟩
  obtain ⟨k, k1, k2, k3⟩ := h5 h hh
  refine ⟨k, k1, by rw [ea 124 (by omega) (by omega)]; exact k2, fun i hi => ?_⟩
  unfold mClOK
  rw [ea 125 (by omega) (by omega), ea 127 (by omega) (by omega), ea 128 (by omega) (by omega), ea 129 (by omega) (by omega)]
  exact k3 i hi
/-- on the way, ahead of having all again -/
def mRun (I2 : qI) (D : Nat) (K : qI) : Prop := mDay K D ∧ (∀ a, a ≠ 114 → a ≠ 117 → a ≠ 118 → a ≠ 119 → a ≠ 120 → a ≠ 130 → K a = I2 a) ∧ ∀ j, j ≠ 10 → K 114 j = I2 114 j
theorem mRun.go {I2 K K' : qI} {D : Nat} (h : mRun I2 D K) (hg : q130 (mgo1 K) K') : mRun I2 (D + 1) K' := by
  refine ⟨(mDay.go1 h.1).eq hg, fun a h4 h7 h8 h9 h0 h3 => ?_, fun j hj => ?_⟩
  · rw [hg a h3, mgo1_row h8 h9 h0 h4]; exact h.2.1 a h4 h7 h8 h9 h0 h3
  · rw [hg 114 (by decide), mgo1_f hj]; exact h.2.2 j hj
theorem mRun.up {I2 K : qI} {D a j : Nat} {x : Int32} (h : mRun I2 D K) (ha : a = 117 ∨ a = 120) : mRun I2 D (qup K a j x) := by
  obtain ⟨⟨⟨n, hI, hh⟩, ⟨c, c6, hc⟩, ⟨l, l6, hl⟩, hL, d, dD, hd2⟩, h2, h3⟩ := h
  have e : ∀ b, b ≠ 117 → b ≠ 120 → qup K a j x b = K b := fun b h1 h2 => qup_row (by omega)
  refine ⟨⟨⟨n, hI.only (fun b hb => e b (by omega) (by omega)), by unfold mHo; rw [e 114 (by decide) (by decide)]; exact hh⟩, ⟨c, c6, by rw [e 114 (by decide) (by decide)]; exact hc⟩, ⟨l, l6, by rw [e 114 (by decide) (by decide)]; exact hl⟩, fun k hk => by rw [e 122 (by decide) (by decide)]; exact hL k hk, d, dD, by rw [e 114 (by decide) (by decide)]; exact hd2⟩, fun b h4 h7 h8 h9 h0 h5 => ?_, fun i hi => ?_⟩
  · rw [e b h7 h0]; exact h2 b h4 h7 h8 h9 h0 h5
  · rw [e 114 (by decide) (by decide)]; exact h3 i hi
theorem mRun.back {I I2 K I4 : qI} {D : Nat} (k1 : qOnly (fun a => a = 140) I I2) (k2 : ∀ j, j < 124 → I2 140 j = kp I j) (h : mRun I2 D K) (b1 : qOnly kpc K I4) (b2 : ∀ j, j ≠ 0 → j ≠ 8 → j ≠ 10 → j ≠ 27 → j ≠ 31 → j ≠ 34 → j ≠ 18 → I4 114 j = K 114 j) (b3 : ∀ j, j < 124 → kp I4 j = K 140 j) : mSame I I4 := by
  have e140 : K 140 = I2 140 := h.2.1 140 (by decide) (by decide) (by decide) (by decide) (by decide) (by decide)
  refine ⟨fun j hj => by rw [b3 j hj, e140, k2 j hj], fun a ha hb => ?_, fun j h0 h8 h10 h18 h27 h31 h34 _ _ => ?_⟩
  · rw [b1 a ha, h.2.1 a (fun e => ha (by unfold kpc; omega)) (fun e => ha (by unfold kpc; omega)) (fun e => ha (by unfold kpc; omega)) (fun e => ha (by unfold kpc; omega)) (fun e => ha (by unfold kpc; omega)) (fun e => hb (Or.inl e)), k1 a (fun e => hb (by omega))]
  · rw [b2 j h0 h8 h10 h27 h31 h34 h18, h.2.2 j h10, k1 114 (by decide)]
theorem mDay.k140 {I K : qI} {D : Nat} (h : mDay I D) (hK : qOnly (fun a => a = 140) I K) : mDay K D := (mSame.only hK (fun a ha => by omega)).day h
section G6
variable {E : qE} {S : qSh} {I : qI} {J : qJ}
abbrev qAsk (S : qSh) (I : qI) (J : qJ) : qPost := fun v S' I' J' => ∃ r, v = some (.int r) ∧ S = S' ∧ mSame I I' ∧ J = J'
theorem n140 : ¬ kpc 140 := by unfold kpc; omega
theorem n139 : ¬ kpc 139 := by unfold kpc; omega
theorem q60_z {n : Int32} (h : ¬ qwithin n 0 60 = 0) : ∃ m, m ≤ 60 ∧ n = nI m := by
  obtain ⟨h1, h2⟩ := qwithin_y h
  rw [Int32.le_iff_toInt_le] at h1 h2
  have e1 : (0 : Int32).toInt = 0 := rfl
  have e2 : (60 : Int32).toInt = 60 := rfl
  rw [e1] at h1
  rw [e2] at h2
  refine ⟨n.toInt.toNat, by omega, ?_⟩
  rw [← Int32.toInt_inj, nI_toInt (by omega)]; omega
theorem c_Md_on {n x : Int32} (hM : isMd S) (h : mDay I 9999) : qMet E y_Md_on b_Md_on 4 (some .int) 5 0 0 [.ref (qb E + 114), .int n, .int x] S I J (qAsk S I J) := by
  have hT := hM.1
  have f5 := hM.r 4 rfl
  have g5 := hM.a 4 rfl
  have f41 := hM.r 25 rfl
  have g41 := hM.a 25 rfl
  obtain ⟨-, ⟨c, c6, hc⟩, -⟩ := id h
  refine qMet.of (L := [some (.ref (qb E + 114)), some (.int n), some (.int x), none]) (by decide +kernel) (Nat.le_of_ble_eq_true rfl) rfl ?_
  have body : (x = 0 ∨ x = 1 ∨ ∃ p, p < c ∧ x - 10 = nI p) → qW E y_Md_on b_Md_on (some .int) 5 0 0 (qAsk S I J) 0 0 22 [some (.ref (qb E + 114)), some (.int n), some (.int x), none] [] S I J := by
    intro hx
    refine ldi_n_4_1 (pc := 22) d_Md_on_22 ?_
    refine r_iconst (pc := 23) (v := 0) d_Md_on_23 rfl ?_
    refine r_bipush (pc := 24) (v := 60) d_Md_on_24 rfl ?_
    refine r_callS (pc := 26) (As := [.int n, .int 0, .int 60]) k_Md_120 sw_Md_within rfl (by decide) d_Md_on_26 (c_Md_within n 0 60) rfl (Nat.le_of_ble_eq_true rfl) (by omega) (by omega) (by omega) (fun v S' I' J' hq => ?_)
    obtain ⟨rfl, rfl, rfl, rfl⟩ := hq
    refine r_if_ne (pc := 29) (tgt := 35) d_Md_on_29 (by decide) (fun c2 => ?_) (fun c2 => ?_)
    · obtain ⟨m, hm, rfl⟩ := q60_z c2
      refine lda_n_4_0 (pc := 35) d_Md_on_35 ?_
      refine lda_n_4_0 (pc := 36) d_Md_on_36 ?_
      refine g_Md_88 (pc := 37) rfl d_Md_on_37 (by assumption) (by assumption) ?_
      refine r_callV (pc := 40) (As := [.ref (qb E + 140)]) (k := 9) (N := 56) (T := T_Md) k_Md_265 im_Md_keep se_Md_keep rfl (by decide) rfl (by decide) d_Md_on_40 hT (c_Md_keep hM g41 n140) rfl (Nat.le_of_ble_eq_true rfl) (by omega) (by omega) (by omega) (fun v S' I2 J' hq => ?_)
      obtain ⟨rfl, rfl, ⟨k1, k2⟩, rfl⟩ := hq
      refine r_iconst (pc := 43) (v := 0) d_Md_on_43 rfl ?_
      refine sti_n_4_3 (pc := 44) d_Md_on_44 rfl ?_
      rw [q0]
      have key : ∀ k, k ≤ m → ∀ K, mRun I2 (9999 + k) K → qW E y_Md_on b_Md_on (some .int) 5 0 0 (qAsk S I J) 0 0 45 [some (.ref (qb E + 114)), some (.int (nI m)), some (.int x), some (.int (nI k))] [] S K J := by
        refine qfor m ?_ ?_
        · intro K hK
          have e0 : K 114 0 = nI c := by rw [hK.2.2 0 (by decide), k1 114 (by decide), hc]
          have fin : ∀ r, qW E y_Md_on b_Md_on (some .int) 5 0 0 (qAsk S I J) 0 0 92 [some (.ref (qb E + 114)), some (.int (nI m)), some (.int x), some (.int (nI m))] [.int r] S K J := by
            intro r
            refine sti_n_4_3 (pc := 92) d_Md_on_92 rfl ?_
            refine lda_n_4_0 (pc := 93) d_Md_on_93 ?_
            refine lda_n_4_0 (pc := 94) d_Md_on_94 ?_
            refine g_Md_88 (pc := 95) rfl d_Md_on_95 (by assumption) (by assumption) ?_
            refine r_callV (pc := 98) (As := [.ref (qb E + 140)]) (k := 9) (N := 56) (T := T_Md) k_Md_269 im_Md_again se_Md_again rfl (by decide) rfl (by decide) d_Md_on_98 hT (c_Md_again hM g41 n140) rfl (Nat.le_of_ble_eq_true rfl) (by omega) (by omega) (by omega) (fun v S' I4 J' hq => ?_)
            obtain ⟨rfl, rfl, ⟨b1, b2, b3⟩, rfl⟩ := hq
            refine ldi_n_4_3 (pc := 101) d_Md_on_101 ?_
            exact r_iret d_Md_on_102 rfl (by omega) (by omega) (⟨_, rfl, rfl, mRun.back k1 k2 hK b1 b2 b3, rfl⟩)
          refine ldi_n_4_3 (pc := 45) d_Md_on_45 ?_
          refine ldi_n_4_1 (pc := 46) d_Md_on_46 ?_
          refine r_icmp_ge (pc := 47) (tgt := 60) d_Md_on_47 (by decide) (fun cc => ?_) (fun cc => ?_)
          · refine ldi_n_4_2 (pc := 60) d_Md_on_60 ?_
            refine r_if_ne (pc := 61) (tgt := 71) d_Md_on_61 (by decide) (fun c3 => ?_) (fun c3 => ?_)
            · refine ldi_n_4_2 (pc := 71) d_Md_on_71 ?_
              refine r_iconst (pc := 72) (v := 1) d_Md_on_72 rfl ?_
              refine r_icmp_ne (pc := 73) (tgt := 83) d_Md_on_73 (by decide) (fun c4 => ?_) (fun c4 => ?_)
              · obtain ⟨p, hp, ep⟩ := (hx.resolve_left c3).resolve_left c4
                have hin : vp_in (x - 10) 6 := by rw [ep]; exact vp_in_nI (by omega) (by omega)
                refine lda_n_4_0 (pc := 83) d_Md_on_83 ?_
                refine g_Md_24 (pc := 84) rfl d_Md_on_84 (by assumption) (by assumption) ?_
                refine ldi_n_4_2 (pc := 87) d_Md_on_87 ?_
                refine r_bipush (pc := 88) (v := 10) d_Md_on_88 rfl ?_
                refine r_isub (pc := 90) d_Md_on_90 ?_
                refine r_iald (pc := 91) d_Md_on_91 (by assumption) (by first | assumption | exact vp_in_nI (by omega) (by omega) | (unfold vp_in; decide)) ?_
                exact fin _
              · refine lda_n_4_0 (pc := 76) d_Md_on_76 ?_
                refine r_callV (pc := 77) (As := []) (k := 9) (N := 56) (T := T_Md) k_Md_256 im_Md_allDone se_Md_allDone rfl (by decide) rfl (by decide) d_Md_on_77 hT (c_Md_allDone hM e0 c6) rfl (Nat.le_of_ble_eq_true rfl) (by omega) (by omega) (by omega) (fun v S' I' J' hq => ?_)
                obtain ⟨rfl, rfl, rfl, rfl⟩ := hq
                refine r_goto (pc := 80) (tgt := 92) d_Md_on_80 (by decide) ?_
                exact fin _
            · refine lda_n_4_0 (pc := 64) d_Md_on_64 ?_
              refine r_callV (pc := 65) (As := []) (k := 9) (N := 56) (T := T_Md) k_Md_253 im_Md_allHurt se_Md_allHurt rfl (by decide) rfl (by decide) d_Md_on_65 hT (c_Md_allHurt hM e0 c6) rfl (Nat.le_of_ble_eq_true rfl) (by omega) (by omega) (by omega) (fun v S' I' J' hq => ?_)
              obtain ⟨rfl, rfl, rfl, rfl⟩ := hq
              refine r_goto (pc := 68) (tgt := 92) d_Md_on_68 (by decide) ?_
              exact fin _
          · exact absurd (nI_le (Nat.le_refl m) (by omega)) cc
        · intro k hk ih K hK
          refine ldi_n_4_3 (pc := 45) d_Md_on_45 ?_
          refine ldi_n_4_1 (pc := 46) d_Md_on_46 ?_
          refine r_icmp_ge (pc := 47) (tgt := 60) d_Md_on_47 (by decide) (fun cc => ?_) (fun cc => ?_)
          · exact absurd cc (nI_ge hk (by omega))
          · refine lda_n_4_0 (pc := 50) d_Md_on_50 ?_
            refine r_callV (pc := 51) (As := []) (k := 9) (N := 56) (T := T_Md) k_Md_250 im_Md_goesDay se_Md_goesDay rfl (by decide) rfl (by decide) d_Md_on_51 hT (c_Md_goesDay2 hM hK.1 (by omega)) rfl (Nat.le_of_ble_eq_true rfl) (by omega) (by omega) (by omega) (fun v S' K2 J' hq => ?_)
            obtain ⟨rfl, rfl, hg, rfl⟩ := hq
            refine inc_4_3 (pc := 54) (w := 1) d_Md_on_54 rfl rfl ?_
            refine r_goto (pc := 57) (tgt := 45) d_Md_on_57 (by decide) ?_
            rw [q1]
            exact ih _ (hK.go hg)
      exact key 0 (by omega) I2 ⟨h.k140 k1, fun _ _ _ _ _ _ _ => rfl, fun _ _ => rfl⟩
    · refine r_bipush (pc := 32) (v := (-2)) d_Md_on_32 rfl ?_
      exact r_iret d_Md_on_34 rfl (by omega) (by omega) (⟨_, rfl, rfl, mSame.rf, rfl⟩)
  refine ldi_n_4_2 (pc := 0) d_Md_on_0 ?_
  refine r_iconst (pc := 1) (v := 0) d_Md_on_1 rfl ?_
  refine r_iconst (pc := 2) (v := 1) d_Md_on_2 rfl ?_
  refine r_callS (pc := 3) (As := [.int x, .int 0, .int 1]) k_Md_120 sw_Md_within rfl (by decide) d_Md_on_3 (c_Md_within x 0 1) rfl (Nat.le_of_ble_eq_true rfl) (by omega) (by omega) (by omega) (fun v S' I' J' hq => ?_)
  obtain ⟨rfl, rfl, rfl, rfl⟩ := hq
  refine r_if_ne (pc := 6) (tgt := 22) d_Md_on_6 (by decide) (fun c1 => ?_) (fun c1 => ?_)
  · refine body ?_
    obtain ⟨h1, h2⟩ := qwithin_y c1
    rw [Int32.le_iff_toInt_le] at h1 h2
    have e1 : (0 : Int32).toInt = 0 := rfl
    have e2 : (1 : Int32).toInt = 1 := rfl
    rw [e1] at h1
    rw [e2] at h2
    by_cases e : x = 0
    · exact Or.inl e
    · refine Or.inr (Or.inl ?_)
      rw [← Int32.toInt_inj] at e ⊢
      rw [e1] at e
      rw [e2]
      omega
  · refine lda_n_4_0 (pc := 9) d_Md_on_9 ?_
    refine ldi_n_4_2 (pc := 10) d_Md_on_10 ?_
    refine r_bipush (pc := 11) (v := 10) d_Md_on_11 rfl ?_
    refine r_isub (pc := 13) d_Md_on_13 ?_
    refine r_callV (pc := 14) (As := [.int (x - 10)]) (k := 9) (N := 56) (T := T_Md) k_Md_127 im_Md_isOne se_Md_isOne rfl (by decide) rfl (by decide) d_Md_on_14 hT (c_Md_isOne hM) rfl (Nat.le_of_ble_eq_true rfl) (by omega) (by omega) (by omega) (fun v S' I' J' hq => ?_)
    obtain ⟨rfl, rfl, rfl, rfl⟩ := hq
    rw [hc]
    refine r_if_ne (pc := 17) (tgt := 22) d_Md_on_17 (by decide) (fun c2 => ?_) (fun c2 => ?_)
    · exact body (Or.inr (Or.inr (qisM_y (by omega) c2)))
    · refine r_iconst (pc := 20) (v := (-1)) d_Md_on_20 rfl ?_
      exact r_iret d_Md_on_21 rfl (by omega) (by omega) (⟨_, rfl, rfl, mSame.rf, rfl⟩)
theorem c_Md_turn {x : Int32} (hM : isMd S) (h : mDay I 9999) : qMet E y_Md_turn b_Md_turn 4 (some .int) 5 0 0 [.ref (qb E + 114), .int x] S I J (qAsk S I J) := by
  have hT := hM.1
  have f6 := hM.r 5 rfl
  have g6 := hM.a 5 rfl
  have f41 := hM.r 25 rfl
  have g41 := hM.a 25 rfl
  obtain ⟨-, ⟨c, c6, hc⟩, -⟩ := id h
  refine qMet.of (L := [some (.ref (qb E + 114)), some (.int x), none, none]) (by decide +kernel) (Nat.le_of_ble_eq_true rfl) rfl ?_
  refine lda_n_4_0 (pc := 0) d_Md_turn_0 ?_
  refine ldi_n_4_1 (pc := 1) d_Md_turn_1 ?_
  refine r_callV (pc := 2) (As := [.int x]) (k := 9) (N := 56) (T := T_Md) k_Md_127 im_Md_isOne se_Md_isOne rfl (by decide) rfl (by decide) d_Md_turn_2 hT (c_Md_isOne hM) rfl (Nat.le_of_ble_eq_true rfl) (by omega) (by omega) (by omega) (fun v S' I' J' hq => ?_)
  obtain ⟨rfl, rfl, rfl, rfl⟩ := hq
  rw [hc]
  refine r_if_ne (pc := 5) (tgt := 10) d_Md_turn_5 (by decide) (fun c1 => ?_) (fun c1 => ?_)
  · obtain ⟨p, hp, rfl⟩ := qisM_y (by omega) c1
    have hin : vp_in (nI p) 6 := vp_in_nI (by omega) (by omega)
    refine lda_n_4_0 (pc := 10) d_Md_turn_10 ?_
    refine lda_n_4_0 (pc := 11) d_Md_turn_11 ?_
    refine g_Md_88 (pc := 12) rfl d_Md_turn_12 (by assumption) (by assumption) ?_
    refine r_callV (pc := 15) (As := [.ref (qb E + 140)]) (k := 9) (N := 56) (T := T_Md) k_Md_265 im_Md_keep se_Md_keep rfl (by decide) rfl (by decide) d_Md_turn_15 hT (c_Md_keep hM g41 n140) rfl (Nat.le_of_ble_eq_true rfl) (by omega) (by omega) (by omega) (fun v S' I2 J' hq => ?_)
    obtain ⟨rfl, rfl, ⟨k1, k2⟩, rfl⟩ := hq
    refine r_bipush (pc := 18) (v := (-5)) d_Md_turn_18 rfl ?_
    refine sti_n_4_2 (pc := 20) d_Md_turn_20 rfl ?_
    refine r_iconst (pc := 21) (v := 0) d_Md_turn_21 rfl ?_
    refine sti_n_4_3 (pc := 22) d_Md_turn_22 rfl ?_
    rw [q0]
    have fin : ∀ K D f i, mRun I2 D K → qW E y_Md_turn b_Md_turn (some .int) 5 0 0 (qAsk S I J) 0 0 61 [some (.ref (qb E + 114)), some (.int (nI p)), some (.int f), some (.int i)] [] S K J := by
      intro K D f i hK
      refine lda_n_4_0 (pc := 61) d_Md_turn_61 ?_
      refine lda_n_4_0 (pc := 62) d_Md_turn_62 ?_
      refine g_Md_88 (pc := 63) rfl d_Md_turn_63 (by assumption) (by assumption) ?_
      refine r_callV (pc := 66) (As := [.ref (qb E + 140)]) (k := 9) (N := 56) (T := T_Md) k_Md_269 im_Md_again se_Md_again rfl (by decide) rfl (by decide) d_Md_turn_66 hT (c_Md_again hM g41 n140) rfl (Nat.le_of_ble_eq_true rfl) (by omega) (by omega) (by omega) (fun v S' I4 J' hq => ?_)
      obtain ⟨rfl, rfl, ⟨b1, b2, b3⟩, rfl⟩ := hq
      refine ldi_n_4_2 (pc := 69) d_Md_turn_69 ?_
      exact r_iret d_Md_turn_70 rfl (by omega) (by omega) (⟨_, rfl, rfl, mRun.back k1 k2 hK b1 b2 b3, rfl⟩)
    have key : ∀ k, k ≤ 61 → ∀ K f, mRun I2 (9999 + k) K → qW E y_Md_turn b_Md_turn (some .int) 5 0 0 (qAsk S I J) 0 0 23 [some (.ref (qb E + 114)), some (.int (nI p)), some (.int f), some (.int (nI k))] [] S K J := by
      refine qfor 61 ?_ ?_
      · intro K f hK
        refine ldi_n_4_3 (pc := 23) d_Md_turn_23 ?_
        refine r_bipush (pc := 24) (v := 61) d_Md_turn_24 rfl ?_
        refine r_icmp_ge (pc := 26) (tgt := 61) d_Md_turn_26 (by decide) (fun cc => ?_) (fun cc => ?_)
        · exact fin K _ f _ hK
        · exact absurd (show nI 61 ≤ nI 61 from by decide) cc
      · intro k hk ih K f hK
        have nxt : ∀ K2, mRun I2 (9999 + k + 1) K2 → qW E y_Md_turn b_Md_turn (some .int) 5 0 0 (qAsk S I J) 0 0 43 [some (.ref (qb E + 114)), some (.int (nI p)), some (.int f), some (.int (nI k))] [] S K2 J := by
          intro K2 h2
          refine lda_n_4_0 (pc := 43) d_Md_turn_43 ?_
          refine g_Md_27 (pc := 44) rfl d_Md_turn_44 (by assumption) (by assumption) ?_
          refine ldi_n_4_1 (pc := 47) d_Md_turn_47 ?_
          refine r_iald (pc := 48) d_Md_turn_48 (by assumption) (by first | assumption | exact vp_in_nI (by omega) (by omega) | (unfold vp_in; decide)) ?_
          refine r_iconst (pc := 49) (v := 1) d_Md_turn_49 rfl ?_
          refine r_icmp_ne (pc := 50) (tgt := 55) d_Md_turn_50 (by decide) (fun c5 => ?_) (fun c5 => ?_)
          · refine inc_4_3 (pc := 55) (w := 1) d_Md_turn_55 rfl rfl ?_
            refine r_goto (pc := 58) (tgt := 23) d_Md_turn_58 (by decide) ?_
            rw [q1]
            exact ih K2 _ h2
          · refine ldi_n_4_3 (pc := 53) d_Md_turn_53 ?_
            refine sti_n_4_2 (pc := 54) d_Md_turn_54 rfl ?_
            refine inc_4_3 (pc := 55) (w := 1) d_Md_turn_55 rfl rfl ?_
            refine r_goto (pc := 58) (tgt := 23) d_Md_turn_58 (by decide) ?_
            rw [q1]
            exact ih K2 _ h2
        refine ldi_n_4_3 (pc := 23) d_Md_turn_23 ?_
        refine r_bipush (pc := 24) (v := 61) d_Md_turn_24 rfl ?_
        refine r_icmp_ge (pc := 26) (tgt := 61) d_Md_turn_26 (by decide) (fun cc => ?_) (fun cc => ?_)
        · exact absurd (show nI 61 ≤ nI k from cc) (nI_ge hk (by omega))
        · refine ldi_n_4_2 (pc := 29) d_Md_turn_29 ?_
          refine r_bipush (pc := 30) (v := (-5)) d_Md_turn_30 rfl ?_
          refine r_icmp_ne (pc := 32) (tgt := 61) d_Md_turn_32 (by decide) (fun c3 => ?_) (fun c3 => ?_)
          · exact fin K _ f _ hK
          · refine ldi_n_4_3 (pc := 35) d_Md_turn_35 ?_
            refine r_if_le (pc := 36) (tgt := 43) d_Md_turn_36 (by decide) (fun c4 => ?_) (fun c4 => ?_)
            · exact nxt K ⟨hK.1.mo (by omega), hK.2.1, hK.2.2⟩
            · refine lda_n_4_0 (pc := 39) d_Md_turn_39 ?_
              refine r_callV (pc := 40) (As := []) (k := 9) (N := 56) (T := T_Md) k_Md_250 im_Md_goesDay se_Md_goesDay rfl (by decide) rfl (by decide) d_Md_turn_40 hT (c_Md_goesDay2 hM hK.1 (by omega)) rfl (Nat.le_of_ble_eq_true rfl) (by omega) (by omega) (by omega) (fun v S' K2 J' hq => ?_)
              obtain ⟨rfl, rfl, hg, rfl⟩ := hq
              exact nxt K2 (hK.go hg)
    exact key 0 (by omega) I2 _ ⟨h.k140 k1, fun _ _ _ _ _ _ _ => rfl, fun _ _ => rfl⟩
  · refine r_iconst (pc := 8) (v := (-1)) d_Md_turn_8 rfl ?_
    exact r_iret d_Md_turn_9 rfl (by omega) (by omega) (⟨_, rfl, rfl, mSame.rf, rfl⟩)
theorem c_Md_empty (hM : isMd S) (h : mDay I 9999) : qMet E y_Md_empty b_Md_empty 3 (some .int) 5 0 0 [.ref (qb E + 114)] S I J (qAsk S I J) := by
  have hT := hM.1
  have f41 := hM.r 25 rfl
  have g41 := hM.a 25 rfl
  obtain ⟨-, ⟨c, c6, hc⟩, -⟩ := id h
  refine qMet.of (L := [some (.ref (qb E + 114)), none, none]) (by decide +kernel) (Nat.le_of_ble_eq_true rfl) rfl ?_
  refine lda_n_3_0 (pc := 0) d_Md_empty_0 ?_
  refine lda_n_3_0 (pc := 1) d_Md_empty_1 ?_
  refine g_Md_88 (pc := 2) rfl d_Md_empty_2 (by assumption) (by assumption) ?_
  refine r_callV (pc := 5) (As := [.ref (qb E + 140)]) (k := 9) (N := 56) (T := T_Md) k_Md_265 im_Md_keep se_Md_keep rfl (by decide) rfl (by decide) d_Md_empty_5 hT (c_Md_keep hM g41 n140) rfl (Nat.le_of_ble_eq_true rfl) (by omega) (by omega) (by omega) (fun v S' I2 J' hq => ?_)
  obtain ⟨rfl, rfl, ⟨k1, k2⟩, rfl⟩ := hq
  refine r_bipush (pc := 8) (v := (-5)) d_Md_empty_8 rfl ?_
  refine sti_n_3_1 (pc := 10) d_Md_empty_10 rfl ?_
  refine r_iconst (pc := 11) (v := 0) d_Md_empty_11 rfl ?_
  refine sti_n_3_2 (pc := 12) d_Md_empty_12 rfl ?_
  rw [q0]
  have fin : ∀ K D f i, mRun I2 D K → qW E y_Md_empty b_Md_empty (some .int) 5 0 0 (qAsk S I J) 0 0 52 [some (.ref (qb E + 114)), some (.int f), some (.int i)] [] S K J := by
    intro K D f i hK
    refine lda_n_3_0 (pc := 52) d_Md_empty_52 ?_
    refine lda_n_3_0 (pc := 53) d_Md_empty_53 ?_
    refine g_Md_88 (pc := 54) rfl d_Md_empty_54 (by assumption) (by assumption) ?_
    refine r_callV (pc := 57) (As := [.ref (qb E + 140)]) (k := 9) (N := 56) (T := T_Md) k_Md_269 im_Md_again se_Md_again rfl (by decide) rfl (by decide) d_Md_empty_57 hT (c_Md_again hM g41 n140) rfl (Nat.le_of_ble_eq_true rfl) (by omega) (by omega) (by omega) (fun v S' I4 J' hq => ?_)
    obtain ⟨rfl, rfl, ⟨b1, b2, b3⟩, rfl⟩ := hq
    refine ldi_n_3_1 (pc := 60) d_Md_empty_60 ?_
    exact r_iret d_Md_empty_61 rfl (by omega) (by omega) (⟨_, rfl, rfl, mRun.back k1 k2 hK b1 b2 b3, rfl⟩)
  have key : ∀ k, k ≤ 61 → ∀ K f, mRun I2 (9999 + k) K → qW E y_Md_empty b_Md_empty (some .int) 5 0 0 (qAsk S I J) 0 0 13 [some (.ref (qb E + 114)), some (.int f), some (.int (nI k))] [] S K J := by
    refine qfor 61 ?_ ?_
    · intro K f hK
      refine ldi_n_3_2 (pc := 13) d_Md_empty_13 ?_
      refine r_bipush (pc := 14) (v := 61) d_Md_empty_14 rfl ?_
      refine r_icmp_ge (pc := 16) (tgt := 52) d_Md_empty_16 (by decide) (fun cc => ?_) (fun cc => ?_)
      · exact fin K _ f _ hK
      · exact absurd (show nI 61 ≤ nI 61 from by decide) cc
    · intro k hk ih K f hK
      have nxt : ∀ K2, mRun I2 (9999 + k + 1) K2 → qW E y_Md_empty b_Md_empty (some .int) 5 0 0 (qAsk S I J) 0 0 33 [some (.ref (qb E + 114)), some (.int f), some (.int (nI k))] [] S K2 J := by
        intro K2 h2
        have e0 : K2 114 0 = nI c := by rw [h2.2.2 0 (by decide), k1 114 (by decide), hc]
        refine lda_n_3_0 (pc := 33) d_Md_empty_33 ?_
        refine r_callV (pc := 34) (As := []) (k := 9) (N := 56) (T := T_Md) k_Md_256 im_Md_allDone se_Md_allDone rfl (by decide) rfl (by decide) d_Md_empty_34 hT (c_Md_allDone hM e0 c6) rfl (Nat.le_of_ble_eq_true rfl) (by omega) (by omega) (by omega) (fun v S' I' J' hq => ?_)
        obtain ⟨rfl, rfl, rfl, rfl⟩ := hq
        refine lda_n_3_0 (pc := 37) d_Md_empty_37 ?_
        refine g_Md_117 (pc := 38) rfl d_Md_empty_38 (by assumption) ?_
        refine r_icmp_ne (pc := 41) (tgt := 46) d_Md_empty_41 (by decide) (fun c5 => ?_) (fun c5 => ?_)
        · refine inc_3_2 (pc := 46) (w := 1) d_Md_empty_46 rfl rfl ?_
          refine r_goto (pc := 49) (tgt := 13) d_Md_empty_49 (by decide) ?_
          rw [q1]
          exact ih K2 _ h2
        · refine ldi_n_3_2 (pc := 44) d_Md_empty_44 ?_
          refine sti_n_3_1 (pc := 45) d_Md_empty_45 rfl ?_
          refine inc_3_2 (pc := 46) (w := 1) d_Md_empty_46 rfl rfl ?_
          refine r_goto (pc := 49) (tgt := 13) d_Md_empty_49 (by decide) ?_
          rw [q1]
          exact ih K2 _ h2
      refine ldi_n_3_2 (pc := 13) d_Md_empty_13 ?_
      refine r_bipush (pc := 14) (v := 61) d_Md_empty_14 rfl ?_
      refine r_icmp_ge (pc := 16) (tgt := 52) d_Md_empty_16 (by decide) (fun cc => ?_) (fun cc => ?_)
      · exact absurd (show nI 61 ≤ nI k from cc) (nI_ge hk (by omega))
      · refine ldi_n_3_1 (pc := 19) d_Md_empty_19 ?_
        refine r_bipush (pc := 20) (v := (-5)) d_Md_empty_20 rfl ?_
        refine r_icmp_ne (pc := 22) (tgt := 52) d_Md_empty_22 (by decide) (fun c3 => ?_) (fun c3 => ?_)
        · exact fin K _ f _ hK
        · refine ldi_n_3_2 (pc := 25) d_Md_empty_25 ?_
          refine r_if_le (pc := 26) (tgt := 33) d_Md_empty_26 (by decide) (fun c4 => ?_) (fun c4 => ?_)
          · exact nxt K ⟨hK.1.mo (by omega), hK.2.1, hK.2.2⟩
          · refine lda_n_3_0 (pc := 29) d_Md_empty_29 ?_
            refine r_callV (pc := 30) (As := []) (k := 9) (N := 56) (T := T_Md) k_Md_250 im_Md_goesDay se_Md_goesDay rfl (by decide) rfl (by decide) d_Md_empty_30 hT (c_Md_goesDay2 hM hK.1 (by omega)) rfl (Nat.le_of_ble_eq_true rfl) (by omega) (by omega) (by omega) (fun v S' K2 J' hq => ?_)
            obtain ⟨rfl, rfl, hg, rfl⟩ := hq
            exact nxt K2 (hK.go hg)
  exact key 0 (by omega) I2 _ ⟨h.k140 k1, fun _ _ _ _ _ _ _ => rfl, fun _ _ => rfl⟩
theorem c_Md_ends {x : Int32} {z : Nat} (hM : isMd S) (h : mDay I 9999) (hz : I 114 31 = nI z) (hz10 : z ≤ 10) (hW : ∀ i, i < 10 → ∃ p, p < 6 ∧ I 135 i = nI p) : qMet E y_Md_ends b_Md_ends 4 (some .int) 5 0 0 [.ref (qb E + 114), .int x] S I J (qAsk S I J) := by
  have hT := hM.1
  have f3 := hM.r 2 rfl
  have g3 := hM.a 2 rfl
  have f6 := hM.r 5 rfl
  have g6 := hM.a 5 rfl
  have f32 := hM.r 19 rfl
  have g32 := hM.a 19 rfl
  have f33 := hM.r 20 rfl
  have g33 := hM.a 20 rfl
  have f41 := hM.r 25 rfl
  have g41 := hM.a 25 rfl
  obtain ⟨-, ⟨c, c6, hc⟩, -⟩ := id h
  refine qMet.of (L := [some (.ref (qb E + 114)), some (.int x), none, none]) (by decide +kernel) (Nat.le_of_ble_eq_true rfl) rfl ?_
  refine ldi_n_4_1 (pc := 0) d_Md_ends_0 ?_
  refine r_iconst (pc := 1) (v := 0) d_Md_ends_1 rfl ?_
  refine r_iconst (pc := 2) (v := 1) d_Md_ends_2 rfl ?_
  refine r_callS (pc := 3) (As := [.int x, .int 0, .int 1]) k_Md_120 sw_Md_within rfl (by decide) d_Md_ends_3 (c_Md_within x 0 1) rfl (Nat.le_of_ble_eq_true rfl) (by omega) (by omega) (by omega) (fun v S' I' J' hq => ?_)
  obtain ⟨rfl, rfl, rfl, rfl⟩ := hq
  refine r_if_ne (pc := 6) (tgt := 11) d_Md_ends_6 (by decide) (fun c1 => ?_) (fun c1 => ?_)
  · refine lda_n_4_0 (pc := 11) d_Md_ends_11 ?_
    refine lda_n_4_0 (pc := 12) d_Md_ends_12 ?_
    refine g_Md_88 (pc := 13) rfl d_Md_ends_13 (by assumption) (by assumption) ?_
    refine r_callV (pc := 16) (As := [.ref (qb E + 140)]) (k := 9) (N := 56) (T := T_Md) k_Md_265 im_Md_keep se_Md_keep rfl (by decide) rfl (by decide) d_Md_ends_16 hT (c_Md_keep hM g41 n140) rfl (Nat.le_of_ble_eq_true rfl) (by omega) (by omega) (by omega) (fun v S' I2 J' hq => ?_)
    obtain ⟨rfl, rfl, ⟨k1, k2⟩, rfl⟩ := hq
    refine r_iconst (pc := 19) (v := 0) d_Md_ends_19 rfl ?_
    refine sti_n_4_2 (pc := 20) d_Md_ends_20 rfl ?_
    rw [q0]
    have key : ∀ k, k ≤ z → ∀ K (a3 : Option Value), mRun I2 (9999 + k) K → qW E y_Md_ends b_Md_ends (some .int) 5 0 0 (qAsk S I J) 0 0 21 [some (.ref (qb E + 114)), some (.int x), some (.int (nI k)), a3] [] S K J := by
      refine qfor z ?_ ?_
      · intro K a3 hK
        have e0 : K 114 0 = nI c := by rw [hK.2.2 0 (by decide), k1 114 (by decide), hc]
        have fin : ∀ r, qW E y_Md_ends b_Md_ends (some .int) 5 0 0 (qAsk S I J) 0 0 127 [some (.ref (qb E + 114)), some (.int x), some (.int (nI z)), a3] [.int r] S K J := by
          intro r
          refine sti_n_4_2 (pc := 127) d_Md_ends_127 rfl ?_
          refine lda_n_4_0 (pc := 128) d_Md_ends_128 ?_
          refine lda_n_4_0 (pc := 129) d_Md_ends_129 ?_
          refine g_Md_88 (pc := 130) rfl d_Md_ends_130 (by assumption) (by assumption) ?_
          refine r_callV (pc := 133) (As := [.ref (qb E + 140)]) (k := 9) (N := 56) (T := T_Md) k_Md_269 im_Md_again se_Md_again rfl (by decide) rfl (by decide) d_Md_ends_133 hT (c_Md_again hM g41 n140) rfl (Nat.le_of_ble_eq_true rfl) (by omega) (by omega) (by omega) (fun v S' I4 J' hq => ?_)
          obtain ⟨rfl, rfl, ⟨b1, b2, b3⟩, rfl⟩ := hq
          refine ldi_n_4_2 (pc := 136) d_Md_ends_136 ?_
          exact r_iret d_Md_ends_137 rfl (by omega) (by omega) (⟨_, rfl, rfl, mRun.back k1 k2 hK b1 b2 b3, rfl⟩)
        refine ldi_n_4_2 (pc := 21) d_Md_ends_21 ?_
        refine lda_n_4_0 (pc := 22) d_Md_ends_22 ?_
        refine g_Md_333 (pc := 23) rfl d_Md_ends_23 (by assumption) ?_
        rw [hK.2.2 31 (by decide), k1 114 (by decide), hz]
        refine r_icmp_ge (pc := 26) (tgt := 112) d_Md_ends_26 (by decide) (fun cc => ?_) (fun cc => ?_)
        · refine ldi_n_4_1 (pc := 112) d_Md_ends_112 ?_
          refine r_if_ne (pc := 113) (tgt := 123) d_Md_ends_113 (by decide) (fun c3 => ?_) (fun c3 => ?_)
          · refine lda_n_4_0 (pc := 123) d_Md_ends_123 ?_
            refine r_callV (pc := 124) (As := []) (k := 9) (N := 56) (T := T_Md) k_Md_256 im_Md_allDone se_Md_allDone rfl (by decide) rfl (by decide) d_Md_ends_124 hT (c_Md_allDone hM e0 c6) rfl (Nat.le_of_ble_eq_true rfl) (by omega) (by omega) (by omega) (fun v S' I' J' hq => ?_)
            obtain ⟨rfl, rfl, rfl, rfl⟩ := hq
            exact fin _
          · refine lda_n_4_0 (pc := 116) d_Md_ends_116 ?_
            refine r_callV (pc := 117) (As := []) (k := 9) (N := 56) (T := T_Md) k_Md_253 im_Md_allHurt se_Md_allHurt rfl (by decide) rfl (by decide) d_Md_ends_117 hT (c_Md_allHurt hM e0 c6) rfl (Nat.le_of_ble_eq_true rfl) (by omega) (by omega) (by omega) (fun v S' I' J' hq => ?_)
            obtain ⟨rfl, rfl, rfl, rfl⟩ := hq
            refine r_goto (pc := 120) (tgt := 127) d_Md_ends_120 (by decide) ?_
            exact fin _
        · exact absurd (nI_le (Nat.le_refl z) (by omega)) cc
      · intro k hk ih K a3 hK
        obtain ⟨p, hp, ep⟩ := hW k (by omega)
        have ek : (nI k).toNatClampNeg = k := qcl (by omega)
        have hin : vp_in (nI p) 6 := vp_in_nI hp (by omega)
        have hmo : mRun I2 (9999 + (k + 1)) K := ⟨hK.1.mo (by omega), hK.2.1, hK.2.2⟩
        have nxt : ∀ K2, mRun I2 (9999 + (k + 1)) K2 → qW E y_Md_ends b_Md_ends (some .int) 5 0 0 (qAsk S I J) 0 0 106 [some (.ref (qb E + 114)), some (.int x), some (.int (nI k)), some (.int (nI p))] [] S K2 J := by
          intro K2 h2
          refine inc_4_2 (pc := 106) (w := 1) d_Md_ends_106 rfl rfl ?_
          refine r_goto (pc := 109) (tgt := 21) d_Md_ends_109 (by decide) ?_
          rw [q1]
          exact ih K2 _ h2
        refine ldi_n_4_2 (pc := 21) d_Md_ends_21 ?_
        refine lda_n_4_0 (pc := 22) d_Md_ends_22 ?_
        refine g_Md_333 (pc := 23) rfl d_Md_ends_23 (by assumption) ?_
        rw [hK.2.2 31 (by decide), k1 114 (by decide), hz]
        refine r_icmp_ge (pc := 26) (tgt := 112) d_Md_ends_26 (by decide) (fun cc => ?_) (fun cc => ?_)
        · exact absurd cc (nI_ge hk (by omega))
        · refine lda_n_4_0 (pc := 29) d_Md_ends_29 ?_
          refine g_Md_73 (pc := 30) rfl d_Md_ends_30 (by assumption) (by assumption) ?_
          refine ldi_n_4_2 (pc := 33) d_Md_ends_33 ?_
          refine r_iald (pc := 34) d_Md_ends_34 (by assumption) (by first | assumption | exact vp_in_nI (by omega) (by omega) | (unfold vp_in; decide)) ?_
          rw [ek, hK.2.1 135 (by decide) (by decide) (by decide) (by decide) (by decide) (by decide), k1 135 (by decide), ep]
          refine sti_n_4_3 (pc := 35) d_Md_ends_35 rfl ?_
          refine lda_n_4_0 (pc := 36) d_Md_ends_36 ?_
          refine g_Md_70 (pc := 37) rfl d_Md_ends_37 (by assumption) (by assumption) ?_
          refine ldi_n_4_2 (pc := 40) d_Md_ends_40 ?_
          refine r_iald (pc := 41) d_Md_ends_41 (by assumption) (by first | assumption | exact vp_in_nI (by omega) (by omega) | (unfold vp_in; decide)) ?_
          refine r_if_ne (pc := 42) (tgt := 52) d_Md_ends_42 (by decide) (fun c3 => ?_) (fun c3 => ?_)
          · refine lda_n_4_0 (pc := 52) d_Md_ends_52 ?_
            refine g_Md_70 (pc := 53) rfl d_Md_ends_53 (by assumption) (by assumption) ?_
            refine ldi_n_4_2 (pc := 56) d_Md_ends_56 ?_
            refine r_iald (pc := 57) d_Md_ends_57 (by assumption) (by first | assumption | exact vp_in_nI (by omega) (by omega) | (unfold vp_in; decide)) ?_
            refine r_iconst (pc := 58) (v := 3) d_Md_ends_58 rfl ?_
            refine r_icmp_ne (pc := 59) (tgt := 85) d_Md_ends_59 (by decide) (fun c4 => ?_) (fun c4 => ?_)
            · refine lda_n_4_0 (pc := 85) d_Md_ends_85 ?_
              refine g_Md_27 (pc := 86) rfl d_Md_ends_86 (by assumption) (by assumption) ?_
              refine ldi_n_4_3 (pc := 89) d_Md_ends_89 ?_
              refine lda_n_4_0 (pc := 90) d_Md_ends_90 ?_
              refine g_Md_70 (pc := 91) rfl d_Md_ends_91 (by assumption) (by assumption) ?_
              refine ldi_n_4_2 (pc := 94) d_Md_ends_94 ?_
              refine r_iald (pc := 95) d_Md_ends_95 (by assumption) (by first | assumption | exact vp_in_nI (by omega) (by omega) | (unfold vp_in; decide)) ?_
              refine r_iconst (pc := 96) (v := 1) d_Md_ends_96 rfl ?_
              refine r_icmp_ne (pc := 97) (tgt := 104) d_Md_ends_97 (by decide) (fun c5 => ?_) (fun c5 => ?_)
              · refine r_iconst (pc := 104) (v := 0) d_Md_ends_104 rfl ?_
                refine r_iast (pc := 105) d_Md_ends_105 (by assumption) (by first | assumption | exact vp_in_nI (by omega) (by omega) | (unfold vp_in; decide)) ?_
                exact nxt _ (hmo.up (Or.inr rfl))
              · refine r_iconst (pc := 100) (v := 1) d_Md_ends_100 rfl ?_
                refine r_goto (pc := 101) (tgt := 105) d_Md_ends_101 (by decide) ?_
                refine r_iast (pc := 105) d_Md_ends_105 (by assumption) (by first | assumption | exact vp_in_nI (by omega) (by omega) | (unfold vp_in; decide)) ?_
                exact nxt _ (hmo.up (Or.inr rfl))
            · refine lda_n_4_0 (pc := 62) d_Md_ends_62 ?_
              refine g_Md_18 (pc := 63) rfl d_Md_ends_63 (by assumption) (by assumption) ?_
              refine ldi_n_4_3 (pc := 66) d_Md_ends_66 ?_
              refine r_bipush (pc := 67) (v := 99) d_Md_ends_67 rfl ?_
              refine lda_n_4_0 (pc := 69) d_Md_ends_69 ?_
              refine g_Md_18 (pc := 70) rfl d_Md_ends_70 (by assumption) (by assumption) ?_
              refine ldi_n_4_3 (pc := 73) d_Md_ends_73 ?_
              refine r_iald (pc := 74) d_Md_ends_74 (by assumption) (by first | assumption | exact vp_in_nI (by omega) (by omega) | (unfold vp_in; decide)) ?_
              refine r_bipush (pc := 75) (v := 10) d_Md_ends_75 rfl ?_
              refine r_iadd (pc := 77) d_Md_ends_77 ?_
              refine r_callS (pc := 78) (As := [.int 99, .int (K 117 (nI p).toNatClampNeg + 10)]) k_Md_247 sw_jM_min rfl (by decide) d_Md_ends_78 (c_min 99 _) rfl (Nat.le_of_ble_eq_true rfl) (by omega) (by omega) (by omega) (fun v S' I' J' hq => ?_)
              obtain ⟨rfl, rfl, rfl, rfl⟩ := hq
              refine r_iast (pc := 81) d_Md_ends_81 (by assumption) (by first | assumption | exact vp_in_nI (by omega) (by omega) | (unfold vp_in; decide)) ?_
              refine r_goto (pc := 82) (tgt := 106) d_Md_ends_82 (by decide) ?_
              exact nxt _ (hmo.up (Or.inl rfl))
          · refine lda_n_4_0 (pc := 45) d_Md_ends_45 ?_
            refine r_callV (pc := 46) (As := []) (k := 9) (N := 56) (T := T_Md) k_Md_250 im_Md_goesDay se_Md_goesDay rfl (by decide) rfl (by decide) d_Md_ends_46 hT (c_Md_goesDay2 hM hK.1 (by omega)) rfl (Nat.le_of_ble_eq_true rfl) (by omega) (by omega) (by omega) (fun v S' K2 J' hq => ?_)
            obtain ⟨rfl, rfl, hg, rfl⟩ := hq
            refine r_goto (pc := 49) (tgt := 106) d_Md_ends_49 (by decide) ?_
            exact nxt K2 (hK.go hg)
    exact key 0 (by omega) I2 _ ⟨h.k140 k1, fun _ _ _ _ _ _ _ => rfl, fun _ _ => rfl⟩
  · refine r_iconst (pc := 9) (v := (-1)) d_Md_ends_9 rfl ?_
    exact r_iret d_Md_ends_10 rfl (by omega) (by omega) (⟨_, rfl, rfl, mSame.rf, rfl⟩)
end G6
