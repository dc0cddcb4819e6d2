/-! all rows tried, told exactly: the reference's side -/
def rpn (I : qI) (p t : Nat) : Int32 := mpain I p (I 114 10 + nI t) (qmin 99 (I 118 p + nI t))
def rls (I : qI) (t : Nat) : Int32 := qlost (mlost I) (I 114 10 + nI t)
/-- as it was, but for what is looked at and tried -/
def mLk (I K : qI) : Prop := (∀ a, a ≠ 114 → a ≠ 130 → a ≠ 141 → a ≠ 142 → K a = I a) ∧ ∀ j, j ≠ 43 → K 114 j = I 114 j
theorem mLk.rf {I : qI} : mLk I I := ⟨fun _ _ _ _ _ => rfl, fun _ _ => rfl⟩
theorem mLk.tr {I K K2 : qI} (h : mLk I K) (h2 : mLk K K2) : mLk I K2 := ⟨fun a h1 h3 h4 h5 => (h2.1 a h1 h3 h4 h5).trans (h.1 a h1 h3 h4 h5), fun j hj => (h2.2 j hj).trans (h.2 j hj)⟩
theorem mLk.sc {I : qI} {a j : Nat} {x : Int32} (h : a = 141 ∨ a = 142) : mLk I (qup I a j x) := ⟨fun b _ _ h4 h5 => qup_row (by omega), fun j' _ => qup_o (by omega)⟩
theorem mLk.f {I : qI} {x : Int32} : mLk I (qup I 114 43 x) := ⟨fun b h1 _ _ _ => qup_row h1, fun j hj => qup_j hj⟩
theorem mLk.q {I K : qI} (h : q130 I K) : mLk I K := ⟨fun b _ h3 _ _ => h b h3, fun j _ => by rw [h 114 (by decide)]⟩
theorem mlost_lk {I K : qI} (h : mLk I K) : mlost K = mlost I := by
  have e : ∀ n k, mlostN K n k = mlostN I n k := by
    intro n k
    induction k with
    | zero => rfl
    | succ k ih => rw [mlostN, mlostN, ih, h.1 125 (by decide) (by decide) (by decide) (by decide), h.1 126 (by decide) (by decide) (by decide) (by decide)]
  unfold mlost
  rw [h.2 18 (by decide), h.1 124 (by decide) (by decide) (by decide) (by decide), e]
theorem mpain_lk {I K : qI} {p : Nat} {w d : Int32} (h : mLk I K) : mpain K p d w = mpain I p d w := by
  have r : ∀ a, (a ≠ 114 ∧ a ≠ 130 ∧ a ≠ 141 ∧ a ≠ 142) → K a = I a := fun a q => h.1 a q.1 q.2.1 q.2.2.1 q.2.2.2
  have tv : mtv K p w d = mtv I p w d := by
    funext c
    unfold mtv mlet
    rw [r 115 (by decide), r 116 (by decide), r 117 (by decide)]
  have e : ∀ n k, msumN K p w d n k = msumN I p w d n k := by
    intro n k
    induction k with
    | zero => rw [msumN, msumN, r 117 (by decide)]
    | succ k ih =>
      rw [msumN, msumN, ih, r 125 (by decide), r 126 (by decide)]
      unfold mtrue
      rw [tv, r 127 (by decide), r 128 (by decide), r 129 (by decide)]
  have s : msum K p w d = msum I p w d := by
    unfold msum
    rw [h.2 18 (by decide), r 124 (by decide), r 117 (by decide), e]
  unfold mpain mpn
  rw [s, r 115 (by decide), r 116 (by decide), r 121 (by decide)]
theorem lgc_lt {a b : Nat} (ha : a < 2 ^ 62) (hb : b < 2 ^ 62) : lg_cmp (lN a) (lN b) < 0 ↔ a < b := by
  have h := pk_lLE (a := a) (b := b) (by omega) (by omega)
  have h2 := pk_lEQ (a := a) (b := b) (by omega) (by omega)
  unfold lg_cmp
  by_cases q : lN a > lN b
  · rw [if_pos q]
    exact ⟨fun z => absurd z (by decide), fun z => absurd (h.mpr (by omega)) (Int64.not_le.mpr q)⟩
  · rw [if_neg q]
    have l := h.mp (Int64.not_lt.mp q)
    by_cases e : lN a = lN b
    · rw [if_pos e]
      have := h2.mp e
      exact ⟨fun z => absurd z (by decide), fun z => by omega⟩
    · rw [if_neg e]
      exact ⟨fun _ => by
        rcases Nat.lt_or_ge a b with z | z
        · exact z
        · exact absurd (h2.mpr (by omega)) e, fun _ => by decide⟩
theorem lgc_gt {a b : Nat} (ha : a < 2 ^ 62) (hb : b < 2 ^ 62) : 0 < lg_cmp (lN a) (lN b) ↔ b < a := by
  have h := pk_lLE (a := a) (b := b) (by omega) (by omega)
  have h2 := pk_lEQ (a := a) (b := b) (by omega) (by omega)
  unfold lg_cmp
  by_cases q : lN a > lN b
  · rw [if_pos q]
    exact ⟨fun _ => by
      rcases Nat.lt_or_ge b a with z | z
      · exact z
      · exact absurd (h.mpr z) (Int64.not_le.mpr q), fun _ => by decide⟩
  · rw [if_neg q]
    have l := h.mp (Int64.not_lt.mp q)
    by_cases e : lN a = lN b
    · rw [if_pos e]
      exact ⟨fun z => absurd z (by decide), fun z => by omega⟩
    · rw [if_neg e]
      exact ⟨fun z => absurd z (by decide), fun z => by omega⟩
theorem lgc_m1 : lg_cmp (-1) 0 < 0 := by decide +kernel
def rBt (I : qI) (J : qJ) (z : Nat) (o : Option (Nat × List Nat)) : Prop := (o = none ∧ J 114 47 = -1) ∨ ∃ m r, o = some (m, r) ∧ m < 2 ^ 30 ∧ J 114 47 = lN m ∧ r.length = z ∧ ∀ k, k < z → I 144 k = nI (r.getD k 0)
def nSel (fb : Int32) (s : nSt) : Option (Nat × List Nat) := if fb = 0 then s.2.2.2.1 else s.2.2.2.2
def rRs (I : qI) (J : qJ) (z : Nat) (s : nSt) : Prop := J 114 51 = lN s.1 ∧ J 114 50 = lN s.2.1 ∧ J 114 52 = lN s.2.2.1 ∧ rBt I J z (nSel (I 114 48) s)
/-- the table and who is left -/
def rTb (I : qI) (c z : Nat) (W : List Nat) (h : Nat → Nat → Nat) : Prop := I 114 43 = nI z ∧ W.length = z ∧ (∀ k, k < z → I 142 k = nI (W.getD k 0) ∧ W.getD k 0 < c) ∧ ∀ p j, p < c → j < 6 → I 141 (6 * p + j) = nI (h p j) ∧ h p j < 2 ^ 20
theorem rTb.fr {I K : qI} {c z : Nat} {W : List Nat} {h : Nat → Nat → Nat} (hT : rTb I c z W h) (hK : qOnly (fun b => b = 143 ∨ b = 144) I K) : rTb K c z W h := by
  obtain ⟨a, b, d, e⟩ := hT
  exact ⟨by rw [hK 114 (by decide)]; exact a, b, fun k hk => by rw [hK 142 (by decide)]; exact d k hk, fun p j x y => by rw [hK 141 (by decide)]; exact e p j x y⟩
theorem nhS_app {h : Nat → Nat → Nat} {l t : List Nat} : ∀ k, k ≤ l.length → nhS h (l ++ t) k = nhS h l k ∧ nmS h (l ++ t) k = nmS h l k := by
  intro k
  induction k with
  | zero => intro _; exact ⟨rfl, rfl⟩
  | succ k ih =>
    intro hk
    obtain ⟨i1, i2⟩ := ih (by omega)
    have e : (l ++ t).getD k 0 = l.getD k 0 := by rw [List.getD_eq_getElem?_getD, List.getElem?_append_left (by omega), ← List.getD_eq_getElem?_getD]
    exact ⟨by rw [nhS, nhS, i1, e], by rw [nmS, nmS, i2, e]⟩
theorem getD_end {l : List Nat} {x : Nat} : (l ++ [x]).getD l.length 0 = x := by
  rw [List.getD_eq_getElem?_getD, List.getElem?_append_right (Nat.le_refl _)]; simp
theorem nfm_step {W pre : List Nat} {m u k n : Nat} {g : nSt → List Nat → nSt} {s : nSt} (hb : u / 2 ^ k % 2 = 0) : (nfm (fun i => if u / 2 ^ i % 2 = 1 then [] else (npv W m (u ||| 2 ^ i)).map (W.getD i 0 :: ·)) (n + 1) k).foldl (fun s t => g s (pre ++ t)) s = (nfm (fun i => if u / 2 ^ i % 2 = 1 then [] else (npv W m (u ||| 2 ^ i)).map (W.getD i 0 :: ·)) n (k + 1)).foldl (fun s t => g s (pre ++ t)) ((npv W m (u ||| 2 ^ k)).foldl (fun s t => g s (pre ++ [W.getD k 0] ++ t)) s) := by
  have e : (fun (s : nSt) (t : List Nat) => g s (pre ++ (W.getD k 0 :: t))) = fun s t => g s (pre ++ [W.getD k 0] ++ t) := by
    funext s t
    rw [List.append_assoc]
    rfl
  rw [nfm, List.foldl_append]
  show List.foldl _ (List.foldl _ s (if u / 2 ^ k % 2 = 1 then [] else (npv W m (u ||| 2 ^ k)).map (W.getD k 0 :: ·))) _ = _
  rw [if_neg (by omega), List.foldl_map, e]
theorem nfm_skip {W pre : List Nat} {m u k n : Nat} {g : nSt → List Nat → nSt} {s : nSt} (hb : u / 2 ^ k % 2 = 1) : (nfm (fun i => if u / 2 ^ i % 2 = 1 then [] else (npv W m (u ||| 2 ^ i)).map (W.getD i 0 :: ·)) (n + 1) k).foldl (fun s t => g s (pre ++ t)) s = (nfm (fun i => if u / 2 ^ i % 2 = 1 then [] else (npv W m (u ||| 2 ^ i)).map (W.getD i 0 :: ·)) n (k + 1)).foldl (fun s t => g s (pre ++ t)) s := by
  rw [nfm, List.foldl_append]
  show List.foldl _ (List.foldl _ s (if u / 2 ^ k % 2 = 1 then [] else (npv W m (u ||| 2 ^ k)).map (W.getD k 0 :: ·))) _ = _
  rw [if_pos hb]
  rfl
theorem getD_app {l t : List Nat} {k : Nat} (h : k < l.length) : (l ++ t).getD k 0 = l.getD k 0 := by
  rw [List.getD_eq_getElem?_getD, List.getElem?_append_left h, ← List.getD_eq_getElem?_getD]
theorem rRs.fr {I K : qI} {J : qJ} {z : Nat} {s : nSt} (h : rRs I J z s) (h1 : K 144 = I 144) (h2 : K 114 48 = I 114 48) : rRs K J z s := by
  obtain ⟨a, b, c, d⟩ := h
  refine ⟨a, b, c, ?_⟩
  rw [h2]
  rcases d with ⟨x, y⟩ | ⟨m, r, x1, x2, x3, x4, x5⟩
  · exact Or.inl ⟨x, y⟩
  · exact Or.inr ⟨m, r, x1, x2, x3, x4, fun k hk => by rw [h1]; exact x5 k hk⟩
theorem qmaxl_lN {a b : Nat} (ha : a < 2 ^ 62) (hb : b < 2 ^ 62) : qmaxl (lN a) (lN b) = lN (max a b) := by
  unfold qmaxl
  have h := pk_lLE (a := b) (b := a) (by omega) (by omega)
  by_cases q : lN a < lN b
  · rw [if_pos q]
    have : ¬ b ≤ a := fun z => absurd q (Int64.not_lt.mpr (h.mpr z))
    rw [Nat.max_eq_right (by omega)]
  · rw [if_neg q]
    have := h.mp (Int64.not_lt.mp q)
    rw [Nat.max_eq_left this]
def rQ (S : qSh) (I : qI) (J : qJ) (j z : Nat) (F : nSt) : qPost := fun v S' I' J' => v = none ∧ S = S' ∧ qOnly (fun b => b = 143 ∨ b = 144) I I' ∧ mJo J J' ∧ J' 114 49 = J 114 49 ∧ (∀ k, k < j → I' 143 k = I 143 k) ∧ rRs I' J' z F
section T5
variable {E : qE} {S : qSh}
theorem c_Md_triesX (hM : isMd S) {z c qn : Nat} {W : List Nat} {h : Nat → Nat → Nat} (z6 : z ≤ 6) (c6 : c ≤ 6) (hqn : qn < 2 ^ 30) : ∀ (m : Nat) (I : qI) (J : qJ) (j u : Nat) (pre : List Nat) (s : nSt), j + m = z → rTb I c z W h → u < 64 → pre.length = j → (∀ k, k < j → I 143 k = nI (pre.getD k 0) ∧ pre.getD k 0 < c) → J 114 49 = lN qn → rRs I J z s → qMet E y_Md_tries b_Md_tries 10 none m 0 0 [.ref (qb E + 114), .int (nI j), .int (nI u), .long (lN (nhS h pre j)), .long (lN (nmS h pre j))] S I J (rQ S I J j z ((npv W m u).foldl (fun s t => nst h qn s (pre ++ t)) s)) := by
  have hT := hM.1
  have f42 := hM.r 26 rfl
  have g42 := hM.a 26 rfl
  have f44 := hM.r 27 rfl
  have g44 := hM.a 27 rfl
  have f45 := hM.r 28 rfl
  have g45 := hM.a 28 rfl
  have f46 := hM.r 29 rfl
  have g46 := hM.a 29 rfl
  intro m
  induction m with
  | zero =>
    intro I J j u pre s hj hTb hu hpl hpre h49 hs
    have ej : j = z := by omega
    subst ej
    have hbd : ∀ k, k < pre.length → h (pre.getD k 0) k < 2 ^ 20 := fun k hk => (hTb.2.2.2 _ k (hpre k (by omega)).2 (by omega)).2
    have x1 := nhS_lt hbd pre.length (Nat.le_refl _)
    have x2 := nmS_lt hbd pre.length (Nat.le_refl _)
    have x1' : nhS h pre j < 2 ^ 30 := by
      have : pre.length * 2 ^ 20 ≤ 6 * 2 ^ 20 := Nat.mul_le_mul_right _ (by omega)
      rw [hpl] at x1 this
      omega
    have x2' : nmS h pre j < 2 ^ 30 := by rw [hpl] at x2; omega
    have eF : (npv W 0 u).foldl (fun s t => nst h qn s (pre ++ t)) s = nst h qn s pre := by
      show nst h qn s (pre ++ []) = _
      rw [List.append_nil]
    rw [eF]
    obtain ⟨s1, s2, s3, s4⟩ := hs
    obtain ⟨t43, tW, t142, tT⟩ := hTb
    generalize hX : nhS h pre j = X at *
    generalize hY : nmS h pre j = Y at *
    have eN : nst h qn s pre = (s.1 + 1, s.2.1 + (if X ≤ qn then 1 else 0), s.2.2.1 + X, nBt X pre s.2.2.2.1, nBt Y pre s.2.2.2.2) := by
      unfold nst
      rw [hpl, hX, hY]
    rw [eN]
    refine qMet.of (L := [some (.ref (qb E + 114)), some (.int (nI j)), some (.int (nI u)), some (.long (lN X)), none, some (.long (lN Y)), none, none, none, none]) (by decide +kernel) (Nat.le_of_ble_eq_true rfl) rfl ?_
    refine ldi_n_10_1 (pc := 0) d_Md_tries_0 ?_
    refine lda_n_10_0 (pc := 1) d_Md_tries_1 ?_
    refine g_Md_272 (pc := 2) rfl d_Md_tries_2 (by assumption) ?_
    rw [t43]
    refine r_icmp_ne (pc := 5) (tgt := 121) d_Md_tries_5 (by decide) (fun cc => ?_) (fun cc => ?_)
    · exact absurd rfl cc
    · refine lda_n_10_0 (pc := 8) d_Md_tries_8 ?_
      refine r_dup (pc := 9) d_Md_tries_9 rfl ?_
      refine g_Md_275 (pc := 10) rfl d_Md_tries_10 (by assumption) ?_
      refine r_lconst (pc := 13) (v := 1) d_Md_tries_13 rfl ?_
      refine r_ladd (pc := 14) d_Md_tries_14 ?_
      refine p_Md_275 (pc := 15) rfl d_Md_tries_15 (by assumption) ?_
      rw [s1, lN_p1]
      refine r_nmJ (fun J1 hJ1 => ?_)
      have o1 : mJo J J1 := by rw [hJ1]; exact mJo.up (fun _ _ => rfl)
      refine lda_n_10_0 (pc := 18) d_Md_tries_18 ?_
      refine r_dup (pc := 19) d_Md_tries_19 rfl ?_
      refine g_Md_279 (pc := 20) rfl d_Md_tries_20 (by assumption) ?_
      refine ldl_n_10_3 (pc := 23) d_Md_tries_23 ?_
      refine r_ladd (pc := 24) d_Md_tries_24 ?_
      refine p_Md_279 (pc := 25) rfl d_Md_tries_25 (by assumption) ?_
      refine r_nmJ (fun J2 hJ2 => ?_)
      have o2 : mJo J J2 := by rw [hJ2]; exact o1.up
      have u51 : J2 114 51 = lN (s.1 + 1) := by rw [hJ2, qup_j (by decide), hJ1, qup_at]
      have u52 : J2 114 52 = lN (s.2.2.1 + X) := by rw [hJ2, qup_at, hJ1, qup_j (by decide), s3, lN_add]
      have u50 : J2 114 50 = lN s.2.1 := by rw [hJ2, qup_j (by decide), hJ1, qup_j (by decide), s2]
      have u49 : J2 114 49 = lN qn := by rw [hJ2, qup_j (by decide), hJ1, qup_j (by decide), h49]
      have u47 : J2 114 47 = J 114 47 := by rw [hJ2, qup_j (by decide), hJ1, qup_j (by decide)]
      have A47 : ∀ J3, mJo J J3 → J3 114 51 = lN (s.1 + 1) → J3 114 50 = lN (s.2.1 + (if X ≤ qn then 1 else 0)) → J3 114 52 = lN (s.2.2.1 + X) → J3 114 49 = lN qn → J3 114 47 = J 114 47 → qW E y_Md_tries b_Md_tries none 0 0 0 (rQ S I J j j (s.1 + 1, s.2.1 + (if X ≤ qn then 1 else 0), s.2.2.1 + X, nBt X pre s.2.2.2.1, nBt Y pre s.2.2.2.2)) 0 0 47 [some (.ref (qb E + 114)), some (.int (nI j)), some (.int (nI u)), some (.long (lN X)), none, some (.long (lN Y)), none, none, none, none] [] S I J3 := by
        intro J3 o3 k51 k50 k52 k49 k47
        have A60 : ∀ x, x < 2 ^ 30 → nBt x pre (nSel (I 114 48) s) = nSel (I 114 48) (s.1 + 1, s.2.1 + (if X ≤ qn then 1 else 0), s.2.2.1 + X, nBt X pre s.2.2.2.1, nBt Y pre s.2.2.2.2) → qW E y_Md_tries b_Md_tries none 0 0 0 (rQ S I J j j (s.1 + 1, s.2.1 + (if X ≤ qn then 1 else 0), s.2.2.1 + X, nBt X pre s.2.2.2.1, nBt Y pre s.2.2.2.2)) 0 0 60 [some (.ref (qb E + 114)), some (.int (nI j)), some (.int (nI u)), some (.long (lN X)), none, some (.long (lN Y)), none, none, none, none] [.long (lN x)] S I J3 := by
          intro x hx hsel
          have A82 : nBt x pre (nSel (I 114 48) s) = some (x, pre) → qW E y_Md_tries b_Md_tries none 0 0 0 (rQ S I J j j (s.1 + 1, s.2.1 + (if X ≤ qn then 1 else 0), s.2.2.1 + X, nBt X pre s.2.2.2.1, nBt Y pre s.2.2.2.2)) 0 0 82 [some (.ref (qb E + 114)), some (.int (nI j)), some (.int (nI u)), some (.long (lN X)), none, some (.long (lN Y)), none, some (.long (lN x)), none, none] [] S I J3 := by
            intro hb
            refine lda_n_10_0 (pc := 82) d_Md_tries_82 ?_
            refine ldl_10_7 (pc := 83) d_Md_tries_83 ?_
            refine p_Md_292 (pc := 85) rfl d_Md_tries_85 (by assumption) ?_
            refine r_iconst (pc := 88) (v := 0) d_Md_tries_88 rfl ?_
            refine sti_10_9 (pc := 89) d_Md_tries_89 rfl ?_
            refine r_nmJ (fun J4 hJ4 => ?_)
            have o4 : mJo J J4 := by rw [hJ4]; exact o3.up
            rw [q0]
            have lp : ∀ k, k ≤ j → ∀ K, qOnly (fun b => b = 144) I K → (∀ i, i < k → K 144 i = nI (pre.getD i 0)) → qW E y_Md_tries b_Md_tries none 0 0 0 (rQ S I J j j (s.1 + 1, s.2.1 + (if X ≤ qn then 1 else 0), s.2.2.1 + X, nBt X pre s.2.2.2.1, nBt Y pre s.2.2.2.2)) 0 0 91 [some (.ref (qb E + 114)), some (.int (nI j)), some (.int (nI u)), some (.long (lN X)), none, some (.long (lN Y)), none, some (.long (lN x)), none, some (.int (nI k))] [] S K J4 := by
              refine qfor j ?_ ?_
              · intro K hK hr
                refine ldi_10_9 (pc := 91) d_Md_tries_91 ?_
                refine lda_n_10_0 (pc := 93) d_Md_tries_93 ?_
                refine g_Md_272 (pc := 94) rfl d_Md_tries_94 (by assumption) ?_
                rw [hK 114 (by decide), t43]
                refine r_icmp_ge (pc := 97) (tgt := 120) d_Md_tries_97 (by decide) (fun c2 => ?_) (fun c2 => ?_)
                · exact r_vret d_Md_tries_120 rfl (by omega) (by omega) (⟨rfl, rfl, hK.mo (fun a ha => Or.inr ha), o4, by rw [hJ4, qup_j (by decide), k49, h49], fun k _ => by rw [hK 143 (by decide)], by rw [hJ4, qup_j (by decide)]; exact k51, by rw [hJ4, qup_j (by decide)]; exact k50, by rw [hJ4, qup_j (by decide)]; exact k52, Or.inr ⟨x, pre, by rw [hK 114 (by decide), ← hsel]; exact hb, hx, by rw [hJ4, qup_at], hpl, hr⟩⟩)
                · exact absurd (nI_le (Nat.le_refl j) (by omega)) c2
              · intro k hk ih K hK hr
                refine ldi_10_9 (pc := 91) d_Md_tries_91 ?_
                refine lda_n_10_0 (pc := 93) d_Md_tries_93 ?_
                refine g_Md_272 (pc := 94) rfl d_Md_tries_94 (by assumption) ?_
                rw [hK 114 (by decide), t43]
                refine r_icmp_ge (pc := 97) (tgt := 120) d_Md_tries_97 (by decide) (fun c2 => ?_) (fun c2 => ?_)
                · exact absurd c2 (nI_ge hk (by omega))
                · refine lda_n_10_0 (pc := 100) d_Md_tries_100 ?_
                  refine g_Md_100 (pc := 101) rfl d_Md_tries_101 (by assumption) (by assumption) ?_
                  refine ldi_10_9 (pc := 104) d_Md_tries_104 ?_
                  refine lda_n_10_0 (pc := 106) d_Md_tries_106 ?_
                  refine g_Md_97 (pc := 107) rfl d_Md_tries_107 (by assumption) (by assumption) ?_
                  refine ldi_10_9 (pc := 110) d_Md_tries_110 ?_
                  refine r_iald (pc := 112) d_Md_tries_112 (by assumption) (by first | assumption | exact vp_in_nI (by omega) (by omega) | (unfold vp_in; decide)) ?_
                  refine r_iast (pc := 113) d_Md_tries_113 (by assumption) (by first | assumption | exact vp_in_nI (by omega) (by omega) | (unfold vp_in; decide)) ?_
                  refine inc_10_9 (pc := 114) (w := 1) d_Md_tries_114 rfl rfl ?_
                  refine r_goto (pc := 117) (tgt := 91) d_Md_tries_117 (by decide) ?_
                  rw [q1, qcl (n := k) (by omega), hK 143 (by decide), (hpre k hk).1]
                  refine ih _ (hK.up rfl) (fun i hi => ?_)
                  by_cases e : i = k
                  · subst e; rw [qup_at]
                  · rw [qup_j e]; exact hr i (by omega)
            exact lp 0 (by omega) I qOnly.rf (fun i hi => absurd hi (Nat.not_lt_zero _))
          refine stl_10_7 (pc := 60) d_Md_tries_60 rfl ?_
          refine lda_n_10_0 (pc := 62) d_Md_tries_62 ?_
          refine g_Md_292 (pc := 63) rfl d_Md_tries_63 (by assumption) ?_
          refine r_lconst (pc := 66) (v := 0) d_Md_tries_66 rfl ?_
          refine r_lcmp (pc := 67) d_Md_tries_67 ?_
          rw [k47]
          rcases s4 with ⟨w1, w2⟩ | ⟨m0, r0, w1, w2, w3, w4, w5⟩
          · rw [w2]
            refine r_if_lt (pc := 68) (tgt := 82) d_Md_tries_68 (by decide) (fun c2 => ?_) (fun c2 => ?_)
            · exact A82 (by rw [w1]; rfl)
            · exact absurd lgc_m1 c2
          · rw [w3]
            refine r_if_lt (pc := 68) (tgt := 82) d_Md_tries_68 (by decide) (fun c2 => ?_) (fun c2 => ?_)
            · have := (lgc_lt (a := m0) (b := 0) (by omega) (by omega)).mp c2
              omega
            · refine ldl_10_7 (pc := 71) d_Md_tries_71 ?_
              refine lda_n_10_0 (pc := 73) d_Md_tries_73 ?_
              refine g_Md_292 (pc := 74) rfl d_Md_tries_74 (by assumption) ?_
              refine r_lcmp (pc := 77) d_Md_tries_77 ?_
              rw [k47, w3]
              refine r_if_lt (pc := 78) (tgt := 82) d_Md_tries_78 (by decide) (fun c3 => ?_) (fun c3 => ?_)
              · have hlt := (lgc_lt (a := x) (b := m0) (by omega) (by omega)).mp c3
                exact A82 (by rw [w1]; show (if x < m0 then some (x, pre) else some (m0, r0)) = _; rw [if_pos hlt])
              · have hlt : ¬ x < m0 := fun q => c3 ((lgc_lt (a := x) (b := m0) (by omega) (by omega)).mpr q)
                exact r_vret d_Md_tries_81 rfl (by omega) (by omega) (⟨rfl, rfl, qOnly.rf, o3, by rw [k49, h49], fun _ _ => rfl, k51, k50, k52, Or.inr ⟨m0, r0, by rw [← hsel, w1]; show (if x < m0 then some (x, pre) else some (m0, r0)) = _; rw [if_neg hlt], w2, by rw [k47]; exact w3, w4, w5⟩⟩)
        refine lda_n_10_0 (pc := 47) d_Md_tries_47 ?_
        refine g_Md_288 (pc := 48) rfl d_Md_tries_48 (by assumption) ?_
        refine r_if_eq (pc := 51) (tgt := 59) d_Md_tries_51 (by decide) (fun c2 => ?_) (fun c2 => ?_)
        · have c2' : I 114 48 = 0 := c2
          refine ldl_n_10_3 (pc := 59) d_Md_tries_59 ?_
          exact A60 X x1' (by unfold nSel; rw [if_pos c2', if_pos c2'])
        · refine ldl_10_5 (pc := 54) d_Md_tries_54 ?_
          refine r_goto (pc := 56) (tgt := 60) d_Md_tries_56 (by decide) ?_
          exact A60 Y x2' (by unfold nSel; rw [if_neg c2, if_neg c2])
      refine ldl_n_10_3 (pc := 28) d_Md_tries_28 ?_
      refine lda_n_10_0 (pc := 29) d_Md_tries_29 ?_
      refine g_Md_282 (pc := 30) rfl d_Md_tries_30 (by assumption) ?_
      refine r_lcmp (pc := 33) d_Md_tries_33 ?_
      rw [u49]
      refine r_if_gt (pc := 34) (tgt := 47) d_Md_tries_34 (by decide) (fun c2 => ?_) (fun c2 => ?_)
      · have hgt := (lgc_gt (a := X) (b := qn) (by omega) (by omega)).mp c2
        rw [if_neg (show ¬ X ≤ qn by omega)] at A47 ⊢
        exact A47 J2 o2 u51 u50 u52 u49 u47
      · have hle : X ≤ qn := by
          rcases Nat.lt_or_ge qn X with q | q
          · exact absurd ((lgc_gt (a := X) (b := qn) (by omega) (by omega)).mpr q) c2
          · exact q
        rw [if_pos hle] at A47 ⊢
        refine lda_n_10_0 (pc := 37) d_Md_tries_37 ?_
        refine r_dup (pc := 38) d_Md_tries_38 rfl ?_
        refine g_Md_285 (pc := 39) rfl d_Md_tries_39 (by assumption) ?_
        refine r_lconst (pc := 42) (v := 1) d_Md_tries_42 rfl ?_
        refine r_ladd (pc := 43) d_Md_tries_43 ?_
        refine p_Md_285 (pc := 44) rfl d_Md_tries_44 (by assumption) ?_
        rw [u50, lN_p1]
        refine r_nmJ (fun J3 hJ3 => ?_)
        exact A47 J3 (by rw [hJ3]; exact o2.up) (by rw [hJ3, qup_j (by decide)]; exact u51) (by rw [hJ3, qup_at]) (by rw [hJ3, qup_j (by decide)]; exact u52) (by rw [hJ3, qup_j (by decide)]; exact u49) (by rw [hJ3, qup_j (by decide)]; exact u47)
  | succ m ih =>
    intro I J j u pre s hj hTb hu hpl hpre h49 hs
    have hinj : vp_in (nI j) 6 := vp_in_nI (by omega) (by omega)
    obtain ⟨t43, tW, t142, tT⟩ := id hTb
    have hbd : ∀ k, k < pre.length → h (pre.getD k 0) k < 2 ^ 20 := fun k hk => (tT _ k (hpre k (by omega)).2 (by omega)).2
    have x1 := nhS_lt hbd pre.length (Nat.le_refl _)
    have x2 := nmS_lt hbd pre.length (Nat.le_refl _)
    have x1' : nhS h pre j < 2 ^ 30 := by
      have : pre.length * 2 ^ 20 ≤ 6 * 2 ^ 20 := Nat.mul_le_mul_right _ (by omega)
      rw [hpl] at x1 this
      omega
    have x2' : nmS h pre j < 2 ^ 30 := by rw [hpl] at x2; omega
    refine qMet.of (L := [some (.ref (qb E + 114)), some (.int (nI j)), some (.int (nI u)), some (.long (lN (nhS h pre j))), none, some (.long (lN (nmS h pre j))), none, none, none, none]) (by decide +kernel) (Nat.le_of_ble_eq_true rfl) rfl ?_
    refine ldi_n_10_1 (pc := 0) d_Md_tries_0 ?_
    refine lda_n_10_0 (pc := 1) d_Md_tries_1 ?_
    refine g_Md_272 (pc := 2) rfl d_Md_tries_2 (by assumption) ?_
    rw [t43]
    refine r_icmp_ne (pc := 5) (tgt := 121) d_Md_tries_5 (by decide) (fun cc => ?_) (fun cc => ?_)
    · refine r_iconst (pc := 121) (v := 0) d_Md_tries_121 rfl ?_
      refine sti_10_7 (pc := 122) d_Md_tries_122 rfl ?_
      rw [q0]
      generalize hF : (npv W (m + 1) u).foldl (fun s t => nst h qn s (pre ++ t)) s = F
      rw [npv, tW] at hF
      have lp : ∀ k, k ≤ z → ∀ (K : qI) (J2 : qJ) (s : nSt) (a8 a9 : Option Value), qOnly (fun b => b = 143 ∨ b = 144) I K → mJo J J2 → J2 114 49 = lN qn → (∀ i, i < j → K 143 i = I 143 i) → rRs K J2 z s → (nfm (fun i => if u / 2 ^ i % 2 = 1 then [] else (npv W m (u ||| 2 ^ i)).map (W.getD i 0 :: ·)) (z - k) k).foldl (fun s t => nst h qn s (pre ++ t)) s = F → qn2 a8 = true → qW E y_Md_tries b_Md_tries none (m + 1) 0 0 (rQ S I J j z F) 0 0 124 [some (.ref (qb E + 114)), some (.int (nI j)), some (.int (nI u)), some (.long (lN (nhS h pre j))), none, some (.long (lN (nmS h pre j))), none, some (.int (nI k)), a8, a9] [] S K J2 := by
        refine qfor z ?_ ?_
        · intro K J2 s a8 a9 hK o2 k49 k143 hs hFo n8
          rw [Nat.sub_self] at hFo
          refine ldi_10_7 (pc := 124) d_Md_tries_124 ?_
          refine lda_n_10_0 (pc := 126) d_Md_tries_126 ?_
          refine g_Md_272 (pc := 127) rfl d_Md_tries_127 (by assumption) ?_
          rw [hK 114 (by decide), t43]
          refine r_icmp_ge (pc := 130) (tgt := 210) d_Md_tries_130 (by decide) (fun c2 => ?_) (fun c2 => ?_)
          · exact r_vret d_Md_tries_210 rfl (by omega) (by omega) (⟨rfl, rfl, hK, o2, by rw [k49, h49], k143, by rw [← hFo]; exact hs⟩)
          · exact absurd (nI_le (Nat.le_refl z) (by omega)) c2
        · intro k hk ik K J2 s a8 a9 hK o2 k49 k143 hs hFo n8
          rw [show z - k = (z - (k + 1)) + 1 by omega] at hFo
          obtain ⟨ep, hp⟩ := t142 k hk
          have ek : (nI k).toNatClampNeg = k := qcl (by omega)
          have ej : (nI j).toNatClampNeg = j := qcl (by omega)
          refine ldi_10_7 (pc := 124) d_Md_tries_124 ?_
          refine lda_n_10_0 (pc := 126) d_Md_tries_126 ?_
          refine g_Md_272 (pc := 127) rfl d_Md_tries_127 (by assumption) ?_
          rw [hK 114 (by decide), t43]
          refine r_icmp_ge (pc := 130) (tgt := 210) d_Md_tries_130 (by decide) (fun c2 => ?_) (fun c2 => ?_)
          · exact absurd c2 (nI_ge hk (by omega))
          · refine ldi_n_10_2 (pc := 133) d_Md_tries_133 ?_
            refine ldi_10_7 (pc := 134) d_Md_tries_134 ?_
            refine r_ishr (pc := 136) d_Md_tries_136 ?_
            refine r_iconst (pc := 137) (v := 1) d_Md_tries_137 rfl ?_
            refine r_iand (pc := 138) d_Md_tries_138 ?_
            rw [ubit u hu k (by omega)]
            refine r_iconst (pc := 139) (v := 1) d_Md_tries_139 rfl ?_
            by_cases hb : u / 2 ^ k % 2 = 0
            · rw [nfm_step (g := nst h qn) hb] at hFo
              obtain ⟨p, hp'⟩ : ∃ p, p = W.getD k 0 := ⟨_, rfl⟩
              rw [← hp'] at ep hp hFo
              have hTp := tT p j hp (by omega)
              have e6 : 6 * nI p + nI j = nI (6 * p + j) := by rw [show (6 : Int32) = nI 6 from rfl, pk_mul, nI_add]
              have eA := nhS_app (h := h) (l := pre) (t := [p]) pre.length (Nat.le_refl _)
              have gE : (pre ++ [p]).getD j 0 = p := by rw [← hpl]; exact getD_end
              have eH : lN (nhS h pre j) + (nI (h p j)).toInt64 = lN (nhS h (pre ++ [p]) (j + 1)) := by
                rw [nI_l (by omega), lN_add, nhS, gE]
                rw [hpl] at eA
                rw [eA.1]
              have eM : qmaxl (lN (nmS h pre j)) (nI (h p j)).toInt64 = lN (nmS h (pre ++ [p]) (j + 1)) := by
                rw [nI_l (by omega), qmaxl_lN (by omega) (by omega), nmS, gE]
                rw [hpl] at eA
                rw [eA.2]
              rw [hb]
              refine r_icmp_ne (pc := 140) (tgt := 146) d_Md_tries_140 (by decide) (fun c3 => ?_) (fun c3 => ?_)
              · have hin : vp_in (6 * nI p + nI j) 36 := by rw [e6]; exact vp_in_nI (by omega) (by omega)
                refine lda_n_10_0 (pc := 146) d_Md_tries_146 ?_
                refine g_Md_97 (pc := 147) rfl d_Md_tries_147 (by assumption) (by assumption) ?_
                refine ldi_n_10_1 (pc := 150) d_Md_tries_150 ?_
                refine lda_n_10_0 (pc := 151) d_Md_tries_151 ?_
                refine g_Md_94 (pc := 152) rfl d_Md_tries_152 (by assumption) (by assumption) ?_
                refine ldi_10_7 (pc := 155) d_Md_tries_155 ?_
                refine r_iald (pc := 157) d_Md_tries_157 (by assumption) (by first | assumption | exact vp_in_nI (by omega) (by omega) | (unfold vp_in; decide)) ?_
                refine r_iast (pc := 158) d_Md_tries_158 (by assumption) (by first | assumption | exact vp_in_nI (by omega) (by omega) | (unfold vp_in; decide)) ?_
                refine r_nmI (fun K2 hK2 => ?_)
                have s2 : qOnly (fun b => b = 143 ∨ b = 144) I K2 := by rw [hK2]; exact hK.up (Or.inl rfl)
                have k2 : K2 = qup K 143 j (nI p) := by rw [hK2, ej, ek, hK 142 (by decide), ep]
                refine lda_n_10_0 (pc := 159) d_Md_tries_159 ?_
                refine g_Md_91 (pc := 160) rfl d_Md_tries_160 (by assumption) (by assumption) ?_
                refine r_bipush (pc := 163) (v := 6) d_Md_tries_163 rfl ?_
                refine lda_n_10_0 (pc := 165) d_Md_tries_165 ?_
                refine g_Md_94 (pc := 166) rfl d_Md_tries_166 (by assumption) (by assumption) ?_
                refine ldi_10_7 (pc := 169) d_Md_tries_169 ?_
                refine r_iald (pc := 171) d_Md_tries_171 (by assumption) (by first | assumption | exact vp_in_nI (by omega) (by omega) | (unfold vp_in; decide)) ?_
                rw [ek, s2 142 (by decide), ep]
                refine r_imul (pc := 172) d_Md_tries_172 ?_
                refine ldi_n_10_1 (pc := 173) d_Md_tries_173 ?_
                refine r_iadd (pc := 174) d_Md_tries_174 ?_
                refine r_iald (pc := 175) d_Md_tries_175 (by assumption) (by first | assumption | exact vp_in_nI (by omega) (by omega) | (unfold vp_in; decide)) ?_
                refine sti_10_8 (pc := 176) d_Md_tries_176 rfl ?_
                rw [e6, qcl (n := 6 * p + j) (by omega), s2 141 (by decide), hTp.1]
                refine lda_n_10_0 (pc := 178) d_Md_tries_178 ?_
                refine ldi_n_10_1 (pc := 179) d_Md_tries_179 ?_
                refine r_iconst (pc := 180) (v := 1) d_Md_tries_180 rfl ?_
                refine r_iadd (pc := 181) d_Md_tries_181 ?_
                refine ldi_n_10_2 (pc := 182) d_Md_tries_182 ?_
                refine r_iconst (pc := 183) (v := 1) d_Md_tries_183 rfl ?_
                refine ldi_10_7 (pc := 184) d_Md_tries_184 ?_
                refine r_ishl (pc := 186) d_Md_tries_186 ?_
                refine r_ior (pc := 187) d_Md_tries_187 ?_
                rw [q1, (uset u hu k (by omega)).1]
                refine ldl_n_10_3 (pc := 188) d_Md_tries_188 ?_
                refine ldi_10_8 (pc := 189) d_Md_tries_189 ?_
                refine r_i2l (pc := 191) d_Md_tries_191 ?_
                refine r_ladd (pc := 192) d_Md_tries_192 ?_
                refine ldl_10_5 (pc := 193) d_Md_tries_193 ?_
                refine ldi_10_8 (pc := 195) d_Md_tries_195 ?_
                refine r_i2l (pc := 197) d_Md_tries_197 ?_
                refine r_callS (pc := 198) (As := [.long (lN (nmS h pre j)), .long (nI (h p j)).toInt64]) k_Md_295 sw_jM_maxL rfl (by decide) d_Md_tries_198 (c_maxL _ _) rfl (Nat.le_of_ble_eq_true rfl) (by omega) (by omega) (by omega) (fun v S' I' J' hq => ?_)
                obtain ⟨rfl, rfl, rfl, rfl⟩ := hq
                rw [eH, eM]
                have hpre2 : ∀ i, i < j + 1 → K2 143 i = nI ((pre ++ [p]).getD i 0) ∧ (pre ++ [p]).getD i 0 < c := by
                  intro i hi
                  rw [k2]
                  by_cases e : i = j
                  · subst e
                    rw [qup_at, gE]
                    exact ⟨rfl, hp⟩
                  · rw [qup_j e, k143 i (by omega), getD_app (by omega)]
                    exact hpre i (by omega)
                have hs2 : rRs K2 J2 z s := hs.fr (by rw [k2]; exact qup_row (by decide)) (by rw [k2]; exact qup_o (by decide))
                have hl2 : (pre ++ [p]).length = j + 1 := by rw [List.length_append, hpl]; rfl
                refine r_callV (pc := 201) (As := [.int (nI (j + 1)), .int (nI (u ||| 2 ^ k)), .long (lN (nhS h (pre ++ [p]) (j + 1))), .long (lN (nmS h (pre ++ [p]) (j + 1)))]) (k := 9) (N := 56) (T := T_Md) k_Md_298 im_Md_tries se_Md_tries rfl (by decide) rfl (by decide) d_Md_tries_201 hT (ih K2 J2 (j + 1) (u ||| 2 ^ k) (pre ++ [p]) s (by omega) (hTb.fr s2) (uset u hu k (by omega)).2 hl2 hpre2 k49 hs2) rfl (Nat.le_of_ble_eq_true rfl) (by omega) (by omega) (by omega) (fun v S' K3 J3 hq => ?_)
                obtain ⟨rfl, rfl, s3, o3, k49', k143', hs3⟩ := hq
                refine inc_10_7 (pc := 204) (w := 1) d_Md_tries_204 rfl rfl ?_
                refine r_goto (pc := 207) (tgt := 124) d_Md_tries_207 (by decide) ?_
                rw [q1]
                refine ik K3 J3 _ _ _ (s2.tr s3) (fun b hb => (o3 b hb).trans (o2 b hb)) (by rw [k49', k49]) (fun i hi => ?_) hs3 hFo rfl
                rw [k143' i (by omega), k2, qup_j (by omega)]
                exact k143 i hi
              · exact absurd c3 (by decide)
            · have hb1 : u / 2 ^ k % 2 = 1 := by omega
              rw [nfm_skip (g := nst h qn) hb1] at hFo
              rw [hb1]
              refine r_icmp_ne (pc := 140) (tgt := 146) d_Md_tries_140 (by decide) (fun c3 => ?_) (fun c3 => ?_)
              · exact absurd rfl c3
              · refine r_goto (pc := 143) (tgt := 204) d_Md_tries_143 (by decide) ?_
                refine inc_10_7 (pc := 204) (w := 1) d_Md_tries_204 rfl rfl ?_
                refine r_goto (pc := 207) (tgt := 124) d_Md_tries_207 (by decide) ?_
                rw [q1]
                exact ik K J2 s _ _ hK o2 k49 k143 hs hFo n8
      exact lp 0 (by omega) I J s none none qOnly.rf (fun _ _ => rfl) h49 (fun _ _ => rfl) hs (by rw [Nat.sub_zero]; exact hF) rfl
    · exact absurd ((nI_eq (by omega) (by omega)).mp cc) (by omega)
end T5
