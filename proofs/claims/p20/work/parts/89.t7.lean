/-! all rows looked through, both ways the same; best, odds, means told exactly: the reference's side -/
def nWb (l : List Bool) : Nat → List Nat
  | 0 => []
  | p + 1 => nWb l p ++ (if l.getD p false = true then [p] else [])
def nKb (l : List Bool) : Nat → Nat
  | 0 => 0
  | p + 1 => nKb l p + (if l.getD p false = true then 2 ^ p else 0)
set_option maxRecDepth 100000 in
theorem nWb_n : ∀ a b c d e g : Bool, ∀ n, n < 7 → nKb [a, b, c, d, e, g] n < 64 ∧ nWb [a, b, c, d, e, g] n = nWn (nKb [a, b, c, d, e, g] n) 6 := by decide +kernel
theorem nWl_b (f : Nat → Int32) : ∀ n, n ≤ 6 → nWl f n = nWb [decide (f 0 = 0), decide (f 1 = 0), decide (f 2 = 0), decide (f 3 = 0), decide (f 4 = 0), decide (f 5 = 0)] n := by
  intro n
  induction n with
  | zero => intro _; rfl
  | succ n ih =>
    intro hn
    have e : [decide (f 0 = 0), decide (f 1 = 0), decide (f 2 = 0), decide (f 3 = 0), decide (f 4 = 0), decide (f 5 = 0)].getD n false = decide (f n = 0) := by
      have : n = 0 ∨ n = 1 ∨ n = 2 ∨ n = 3 ∨ n = 4 ∨ n = 5 := by omega
      rcases this with rfl | rfl | rfl | rfl | rfl | rfl <;> rfl
    rw [nWl, nWb, ih (by omega), e]
    by_cases q : f n = 0
    · rw [if_pos q, if_pos (decide_eq_true q)]
    · rw [if_neg q, if_neg (fun w => q (of_decide_eq_true w))]
theorem nWl_n (f : Nat → Int32) (n : Nat) (hn : n ≤ 6) : ∃ k, k < 64 ∧ nWl f n = nWn k 6 := by
  obtain ⟨a, b⟩ := nWb_n (decide (f 0 = 0)) (decide (f 1 = 0)) (decide (f 2 = 0)) (decide (f 3 = 0)) (decide (f 4 = 0)) (decide (f 5 = 0)) n (by omega)
  exact ⟨_, a, (nWl_b f n hn).trans b⟩
set_option maxRecDepth 100000 in
theorem nit_in : ∀ k, k < 64 → ∀ t ∈ nit 720 (nWn k 6), t.length ≤ 6 ∧ ∀ j, j < t.length → t.getD j 0 ∈ nWn k 6 := by decide +kernel
theorem nit_len : ∀ n l, (nit n l).length ≤ n := by
  intro n
  induction n with
  | zero => intro l; exact Nat.le_refl 0
  | succ n ih =>
    intro l
    rw [nit, List.length_cons]
    cases nxt l with
    | none => simp
    | some t => have := ih t; simp only; omega
theorem nWl_mem {f : Nat → Int32} {n x : Nat} (h : x ∈ nWl f n) : x < n := by
  induction n with
  | zero => exact absurd h (List.not_mem_nil)
  | succ n ih =>
    rw [nWl, List.mem_append] at h
    rcases h with h | h
    · have := ih h; omega
    · split at h
      · rw [List.mem_singleton] at h; omega
      · exact absurd h (List.not_mem_nil)
theorem nBt_some {x : Nat} {l : List Nat} {a : Option (Nat × List Nat)} : ∃ m, nBt x l a = some m := by
  unfold nBt
  split
  · exact ⟨_, rfl⟩
  · split
    · exact ⟨_, rfl⟩
    · exact ⟨_, rfl⟩
theorem nfold {h : Nat → Nat → Nat} {q : Nat} : ∀ (L : List (List Nat)) (s : nSt), (∀ t ∈ L, nhS h t t.length ≤ 2 ^ 23) → (L.foldl (nst h q) s).1 = s.1 + L.length ∧ (L.foldl (nst h q) s).2.1 ≤ s.2.1 + L.length ∧ (L.foldl (nst h q) s).2.2.1 ≤ s.2.2.1 + L.length * 2 ^ 23 ∧ ((∃ m, s.2.2.2.1 = some m) → ∃ m, (L.foldl (nst h q) s).2.2.2.1 = some m) ∧ ((∃ m, s.2.2.2.2 = some m) → ∃ m, (L.foldl (nst h q) s).2.2.2.2 = some m) := by
  intro L
  induction L with
  | nil => intro s _; exact ⟨rfl, Nat.le_refl _, by simp, id, id⟩
  | cons t L ih =>
    intro s hb
    obtain ⟨i1, i2, i3, i4, i5⟩ := ih (nst h q s t) (fun u hu => hb u (List.mem_cons_of_mem _ hu))
    have b := hb t List.mem_cons_self
    rw [List.foldl_cons, List.length_cons]
    have e1 : (nst h q s t).1 = s.1 + 1 := rfl
    have e2 : (nst h q s t).2.1 ≤ s.2.1 + 1 := by
      show s.2.1 + (if nhS h t t.length ≤ q then 1 else 0) ≤ _
      split <;> omega
    have e3 : (nst h q s t).2.2.1 = s.2.2.1 + nhS h t t.length := rfl
    refine ⟨by omega, by omega, by omega, fun _ => i4 nBt_some, fun _ => i5 nBt_some⟩
def nF (h : Nat → Nat → Nat) (q : Nat) (W : List Nat) : nSt := (nit 720 W).foldl (nst h q) nS0
theorem nF_ok {h : Nat → Nat → Nat} {q c : Nat} (f : Nat → Int32) (c6 : c ≤ 6) (hb : ∀ p j, p < c → j < 6 → h p j < 2 ^ 20) : 1 ≤ (nF h q (nWl f c)).1 ∧ (nF h q (nWl f c)).1 ≤ 720 ∧ (nF h q (nWl f c)).2.1 ≤ 720 ∧ (nF h q (nWl f c)).2.2.1 < 2 ^ 40 ∧ (∃ m, (nF h q (nWl f c)).2.2.2.1 = some m) ∧ ∃ m, (nF h q (nWl f c)).2.2.2.2 = some m := by
  have hlen := nit_len 720 (nWl f c)
  obtain ⟨k, k64, ek⟩ := nWl_n f c c6
  have hb2 : ∀ t ∈ nit 720 (nWl f c), nhS h t t.length ≤ 2 ^ 23 := fun t ht => by
    rw [ek] at ht
    obtain ⟨a, b⟩ := nit_in k k64 t ht
    have := nhS_lt (h := h) (l := t) (fun j hj => by
      have := b j hj
      rw [← ek] at this
      exact hb _ j (nWl_mem this) (by omega)) t.length (Nat.le_refl _)
    have e : t.length * 2 ^ 20 ≤ 6 * 2 ^ 20 := Nat.mul_le_mul_right _ a
    omega
  have e : ∃ L, nit 720 (nWl f c) = nWl f c :: L := ⟨_, by rw [show (720 : Nat) = 719 + 1 from rfl, nit]⟩
  obtain ⟨L, eL⟩ := e
  unfold nF
  rw [eL] at hb2 hlen ⊢
  obtain ⟨i1, i2, i3, i4, i5⟩ := nfold (h := h) (q := q) L (nst h q nS0 (nWl f c)) (fun u hu => hb2 u (List.mem_cons_of_mem _ hu))
  have b := hb2 _ List.mem_cons_self
  rw [List.length_cons] at hlen
  rw [List.foldl_cons]
  have e1 : (nst h q nS0 (nWl f c)).1 = 1 := rfl
  have e2 : (nst h q nS0 (nWl f c)).2.1 ≤ 1 := by
    show 0 + (if nhS h _ _ ≤ q then 1 else 0) ≤ _
    split <;> omega
  have e3 : (nst h q nS0 (nWl f c)).2.2.1 = 0 + nhS h (nWl f c) (nWl f c).length := rfl
  have e4 : L.length * 2 ^ 23 ≤ 719 * 2 ^ 23 := Nat.mul_le_mul_right _ (by omega)
  refine ⟨by omega, by omega, by omega, by omega, i4 (show ∃ m, nBt (nhS h (nWl f c) (nWl f c).length) (nWl f c) nS0.2.2.2.1 = some m from nBt_some), i5 (show ∃ m, nBt (nmS h (nWl f c) (nWl f c).length) (nWl f c) nS0.2.2.2.2 = some m from nBt_some)⟩
def aBest (z : Nat) (s : nSt) (x k : Int32) : Int32 := if qwithin x 0 1 = 0 then -1 else if qwithin k (-1) 5 = 0 then -1 else match (if x = 0 then s.2.2.2.1 else s.2.2.2.2) with
  | none => 0
  | some a => if k < 0 then nI a.1 else if nI z ≤ k then -5 else nI (a.2.getD k.toNatClampNeg 0)
def aOdds (s : nSt) (q p : Int32) : Int64 := if qwithin q 0 9999 = 0 then -9223372036854775808 else if qwithin p 0 1 = 0 then -9223372036854775808 else aLow s.2.1 s.1 p
def aMean (s : nSt) (p : Int32) : Int64 := if qwithin p 0 1 = 0 then -9223372036854775808 else aLow s.2.2.1 s.1 p
abbrev rWl (I : qI) (c : Nat) : List Nat := nWl (fun p => I 120 p) c
def rHh (I : qI) (c : Nat) (h : Nat → Nat → Nat) : Prop := ∀ p j, p < c → j < 6 → wH (rls I) (rpn I p) j = nI (h p j) ∧ h p j < 2 ^ 20
section T7
variable {E : qE} {S : qSh} {I : qI} {J : qJ}
theorem c_Md_allWaysX {b : Int32} {c qn : Nat} {h : Nat → Nat → Nat} (hM : isMd S) (hd : mDay I 9999) (hb : qbool b) (hq : qn < 2 ^ 30) (hc : I 114 0 = nI c) (c6 : c ≤ 6) (hh : rHh I c h) : qMet E y_Md_allWays b_Md_allWays 3 none 8 0 0 [.ref (qb E + 114), .int b, .int (nI qn)] S I J (fun v S' I' J' => v = none ∧ S = S' ∧ mSame I I' ∧ mJo J J' ∧ I' 114 43 = nI (rWl I c).length ∧ I' 114 48 = b ∧ rRs I' J' (rWl I c).length (nF h qn (rWl I c))) := by
  have hT := hM.1
  have eN : nF h qn (rWl I c) = (npv (rWl I c) (rWl I c).length 0).foldl (fun s t => nst h qn s ([] ++ t)) nS0 := by
    obtain ⟨k, k64, ek⟩ := nWl_n (fun p => I 120 p) c c6
    unfold nF rWl
    rw [ek, nit_npv k k64]
    rfl
  have zl : (rWl I c).length ≤ c := nWl_len c
  have wl : ∀ k, k < (rWl I c).length → (rWl I c).getD k 0 < c := fun k hk => nWl_lt c k hk
  rw [eN]
  refine qMet.of (L := [some (.ref (qb E + 114)), some (.int b), some (.int (nI qn))]) (by decide +kernel) (Nat.le_of_ble_eq_true rfl) rfl ?_
  refine lda_n_3_0 (pc := 0) d_Md_allWays_0 ?_
  refine r_callV (pc := 1) (As := []) (k := 9) (N := 56) (T := T_Md) k_Md_302 im_Md_looks se_Md_looks rfl (by decide) rfl (by decide) d_Md_allWays_1 hT (c_Md_looksX hM hd hc c6) rfl (Nat.le_of_ble_eq_true rfl) (by omega) (by omega) (by omega) (fun v S' I2 J' hq => ?_)
  obtain ⟨rfl, rfl, hL, rfl⟩ := hq
  obtain ⟨k1, k2, k3, k4, k5⟩ := hL
  change I2 114 43 = nI (rWl I c).length at k3
  change ∀ i, i < (rWl I c).length → I2 142 i = nI ((rWl I c).getD i 0) at k4
  generalize rWl I c = W at *
  refine lda_n_3_0 (pc := 4) d_Md_allWays_4 ?_
  refine ldi_n_3_1 (pc := 5) d_Md_allWays_5 ?_
  refine p_Md_288 (pc := 6) rfl d_Md_allWays_6 (by assumption) (by first | exact Or.inl rfl | exact Or.inr rfl | assumption) ?_
  refine r_nmI (fun I3 hI3 => ?_)
  have s3 : mSame I I3 := by rw [hI3]; exact k1.tr (mSame.f (Or.inr rfl))
  have t3 : rTb I3 c W.length W h := by
    rw [hI3]
    refine ⟨by rw [qup_j (by decide)]; exact k3, rfl, fun k hk => ⟨by rw [qup_o (by decide)]; exact k4 k hk, wl k hk⟩, fun p j hp hj => ?_⟩
    obtain ⟨g1, g2⟩ := hh p j hp hj
    exact ⟨by rw [qup_o (by decide), k5 p j hp hj]; exact g1, g2⟩
  have b3 : I3 114 48 = b := by rw [hI3, qup_at]
  refine lda_n_3_0 (pc := 9) d_Md_allWays_9 ?_
  refine ldi_n_3_2 (pc := 10) d_Md_allWays_10 ?_
  refine r_i2l (pc := 11) d_Md_allWays_11 ?_
  refine p_Md_282 (pc := 12) rfl d_Md_allWays_12 (by assumption) ?_
  refine r_nmJ (fun J1 h1 => ?_)
  have o1 : mJo J J1 := by rw [h1]; exact mJo.up (fun _ _ => rfl)
  refine lda_n_3_0 (pc := 15) d_Md_allWays_15 ?_
  refine r_ldc2 (pc := 16) cl_Md_305 d_Md_allWays_16 ?_
  refine p_Md_292 (pc := 19) rfl d_Md_allWays_19 (by assumption) ?_
  refine r_nmJ (fun J2 h2 => ?_)
  have o2 : mJo J J2 := by rw [h2]; exact o1.up
  refine lda_n_3_0 (pc := 22) d_Md_allWays_22 ?_
  refine r_lconst (pc := 23) (v := 0) d_Md_allWays_23 rfl ?_
  refine p_Md_285 (pc := 24) rfl d_Md_allWays_24 (by assumption) ?_
  refine r_nmJ (fun J3 h3 => ?_)
  have o3 : mJo J J3 := by rw [h3]; exact o2.up
  refine lda_n_3_0 (pc := 27) d_Md_allWays_27 ?_
  refine r_lconst (pc := 28) (v := 0) d_Md_allWays_28 rfl ?_
  refine p_Md_275 (pc := 29) rfl d_Md_allWays_29 (by assumption) ?_
  refine r_nmJ (fun J4 h4 => ?_)
  have o4 : mJo J J4 := by rw [h4]; exact o3.up
  refine lda_n_3_0 (pc := 32) d_Md_allWays_32 ?_
  refine r_lconst (pc := 33) (v := 0) d_Md_allWays_33 rfl ?_
  refine p_Md_279 (pc := 34) rfl d_Md_allWays_34 (by assumption) ?_
  refine r_nmJ (fun J5 h5 => ?_)
  have o5 : mJo J J5 := by rw [h5]; exact o4.up
  have w49 : J5 114 49 = lN qn := by rw [h5, qup_j (by decide), h4, qup_j (by decide), h3, qup_j (by decide), h2, qup_j (by decide), h1, qup_at, nI_l (by omega)]
  have w47 : J5 114 47 = -1 := by rw [h5, qup_j (by decide), h4, qup_j (by decide), h3, qup_j (by decide), h2, qup_at]
  have w50 : J5 114 50 = lN 0 := by rw [h5, qup_j (by decide), h4, qup_j (by decide), h3, qup_at]; rfl
  have w51 : J5 114 51 = lN 0 := by rw [h5, qup_j (by decide), h4, qup_at]; rfl
  have w52 : J5 114 52 = lN 0 := by rw [h5, qup_at]; rfl
  have hs : rRs I3 J5 W.length nS0 := ⟨w51, w50, w52, Or.inl ⟨by unfold nSel; split <;> rfl, w47⟩⟩
  refine lda_n_3_0 (pc := 37) d_Md_allWays_37 ?_
  refine r_iconst (pc := 38) (v := 0) d_Md_allWays_38 rfl ?_
  refine r_iconst (pc := 39) (v := 0) d_Md_allWays_39 rfl ?_
  refine r_lconst (pc := 40) (v := 0) d_Md_allWays_40 rfl ?_
  refine r_lconst (pc := 41) (v := 0) d_Md_allWays_41 rfl ?_
  have hd : W.length ≤ 6 := by omega
  rw [q0]
  refine r_callV (pc := 42) (As := [.int (nI 0), .int (nI 0), .long (lN (nhS h [] 0)), .long (lN (nmS h [] 0))]) (k := 9) (N := 56) (T := T_Md) k_Md_298 im_Md_tries se_Md_tries rfl (by decide) rfl (by decide) d_Md_allWays_42 hT (c_Md_triesX hM hd c6 hq W.length I3 J5 0 0 [] nS0 (by omega) t3 (by decide) rfl (fun k hk => absurd hk (Nat.not_lt_zero _)) w49 hs) rfl (Nat.le_of_ble_eq_true rfl) (by omega) (by omega) (by omega) (fun v S' I4 J6 hq => ?_)
  obtain ⟨rfl, rfl, s4, o6, -, -, r6⟩ := hq
  exact r_vret d_Md_allWays_45 rfl (by omega) (by omega) (⟨rfl, rfl, s3.tr (mSame.only s4 (fun a ha => by omega)), fun b hb => (o6 b hb).trans (o5 b hb), by rw [s4 114 (by decide)]; exact t3.1, by rw [s4 114 (by decide)]; exact b3, r6⟩)
theorem c_Md_bestX {x k : Int32} {c : Nat} {h : Nat → Nat → Nat} (hM : isMd S) (hd : mDay I 9999) (hc : I 114 0 = nI c) (c6 : c ≤ 6) (hh : rHh I c h) : qMet E y_Md_best b_Md_best 3 (some .int) 9 0 0 [.ref (qb E + 114), .int x, .int k] S I J (fun v S' I' J' => v = some (.int (aBest (rWl I c).length (nF h 0 (rWl I c)) x k)) ∧ S = S' ∧ mSame I I' ∧ mJo J J') := by
  have hT := hM.1
  have f46 := hM.r 29 rfl
  have g46 := hM.a 29 rfl
  obtain ⟨-, -, -, -, n4, n5⟩ := nF_ok (h := h) (q := 0) (fun p => I 120 p) c6 (fun p j hp hj => (hh p j hp hj).2)
  change ∃ m, (nF h 0 (rWl I c)).2.2.2.1 = some m at n4
  change ∃ m, (nF h 0 (rWl I c)).2.2.2.2 = some m at n5
  have zl : (rWl I c).length ≤ c := nWl_len c
  have hall := fun b (hb : qbool b) => c_Md_allWaysX (E := E) (J := J) hM hd hb (show 0 < 2 ^ 30 by omega) hc c6 hh
  generalize nF h 0 (rWl I c) = F at *
  generalize rWl I c = W at *
  generalize hR : aBest W.length F x k = R
  unfold aBest at hR
  refine qMet.of (L := [some (.ref (qb E + 114)), some (.int x), some (.int k)]) (by decide +kernel) (Nat.le_of_ble_eq_true rfl) rfl ?_
  refine ldi_n_3_1 (pc := 0) d_Md_best_0 ?_
  refine r_iconst (pc := 1) (v := 0) d_Md_best_1 rfl ?_
  refine r_iconst (pc := 2) (v := 1) d_Md_best_2 rfl ?_
  refine r_callS (pc := 3) (As := [.int x, .int 0, .int 1]) k_Md_120 sw_Md_within rfl (by decide) d_Md_best_3 (c_Md_within x 0 1) rfl (Nat.le_of_ble_eq_true rfl) (by omega) (by omega) (by omega) (fun v S' I' J' hq => ?_)
  obtain ⟨rfl, rfl, rfl, rfl⟩ := hq
  refine r_if_eq (pc := 6) (tgt := 18) d_Md_best_6 (by decide) (fun c1 => ?_) (fun c1 => ?_)
  · rw [if_pos c1] at hR
    refine r_iconst (pc := 18) (v := (-1)) d_Md_best_18 rfl ?_
    exact r_iret d_Md_best_19 rfl (by omega) (by omega) (⟨by rw [← hR], rfl, mSame.rf, fun _ _ => rfl⟩)
  · rw [if_neg c1] at hR
    refine ldi_n_3_2 (pc := 9) d_Md_best_9 ?_
    refine r_iconst (pc := 10) (v := (-1)) d_Md_best_10 rfl ?_
    refine r_iconst (pc := 11) (v := 5) d_Md_best_11 rfl ?_
    refine r_callS (pc := 12) (As := [.int k, .int (-1), .int 5]) k_Md_120 sw_Md_within rfl (by decide) d_Md_best_12 (c_Md_within k (-1) 5) rfl (Nat.le_of_ble_eq_true rfl) (by omega) (by omega) (by omega) (fun v S' I' J' hq => ?_)
    obtain ⟨rfl, rfl, rfl, rfl⟩ := hq
    refine r_if_ne (pc := 15) (tgt := 20) d_Md_best_15 (by decide) (fun c2 => ?_) (fun c2 => ?_)
    · rw [if_neg c2] at hR
      have body : ∀ b, qbool b → (∀ a, nSel b F = some a → (if k < 0 then nI a.1 else if nI W.length ≤ k then -5 else nI (a.2.getD k.toNatClampNeg 0)) = R) → qW E y_Md_best b_Md_best (some .int) 9 0 0 (fun v S' I' J' => v = some (.int R) ∧ S = S' ∧ mSame I I' ∧ mJo J J') 0 0 31 [some (.ref (qb E + 114)), some (.int x), some (.int k)] [.int b, .ref (qb E + 114)] S I J := by
        intro b hb hsel
        refine r_iconst (pc := 31) (v := 0) d_Md_best_31 rfl ?_
        rw [q0]
        refine r_callV (pc := 32) (As := [.int b, .int (nI 0)]) (k := 9) (N := 56) (T := T_Md) k_Md_307 im_Md_allWays se_Md_allWays rfl (by decide) rfl (by decide) d_Md_best_32 hT (hall b hb) rfl (Nat.le_of_ble_eq_true rfl) (by omega) (by omega) (by omega) (fun v S' I2 J2 hq => ?_)
        obtain ⟨rfl, rfl, s2, o2, k43, k48, -, -, -, hB⟩ := hq
        rw [k48] at hB
        obtain ⟨w1, w2⟩ : (∃ m, nSel b F = some m) ∧ True := ⟨by unfold nSel; split; exact n4; exact n5, trivial⟩
        obtain ⟨a, ha⟩ := w1
        have hr := hsel a ha
        rcases hB with ⟨z1, -⟩ | ⟨m, r, z1, z2, z3, z4, z5⟩
        · rw [z1] at ha; exact absurd ha (by simp)
        have ea : a = (m, r) := by rw [z1] at ha; exact (Option.some.inj ha).symm
        subst ea
        refine ldi_n_3_2 (pc := 35) d_Md_best_35 ?_
        refine r_iconst (pc := 36) (v := (-1)) d_Md_best_36 rfl ?_
        refine r_icmp_ne (pc := 37) (tgt := 48) d_Md_best_37 (by decide) (fun c3 => ?_) (fun c3 => ?_)
        · have hk0 : ¬ k < 0 := by
            obtain ⟨h1, -⟩ := qwithin_y c2
            intro q
            rw [Int32.lt_iff_toInt_lt] at q
            rw [Int32.le_iff_toInt_le] at h1
            rw [← Int32.toInt_inj] at c3
            have e1 : (0 : Int32).toInt = 0 := rfl
            have e2 : (-1 : Int32).toInt = -1 := rfl
            rw [e1] at q
            rw [e2] at h1 c3
            omega
          rw [if_neg hk0] at hr
          refine ldi_n_3_2 (pc := 48) d_Md_best_48 ?_
          refine lda_n_3_0 (pc := 49) d_Md_best_49 ?_
          refine g_Md_272 (pc := 50) rfl d_Md_best_50 (by assumption) ?_
          rw [k43]
          refine r_icmp_ge (pc := 53) (tgt := 65) d_Md_best_53 (by decide) (fun c4 => ?_) (fun c4 => ?_)
          · rw [if_pos c4] at hr
            refine r_bipush (pc := 65) (v := (-5)) d_Md_best_65 rfl ?_
            exact r_iret d_Md_best_67 rfl (by omega) (by omega) (⟨by rw [← hr], rfl, s2, o2⟩)
          · rw [if_neg c4] at hr
            obtain ⟨i, i1, rfl⟩ := nI_of hk0
            have hi : i < W.length := by
              rcases Nat.lt_or_ge i W.length with q | q
              · exact q
              · exact absurd (nI_le q (by omega)) c4
            have hin : vp_in (nI i) 6 := vp_in_nI (by omega) (by omega)
            refine lda_n_3_0 (pc := 56) d_Md_best_56 ?_
            refine g_Md_100 (pc := 57) rfl d_Md_best_57 (by assumption) (by assumption) ?_
            refine ldi_n_3_2 (pc := 60) d_Md_best_60 ?_
            refine r_iald (pc := 61) d_Md_best_61 (by assumption) (by first | assumption | exact vp_in_nI (by omega) (by omega) | (unfold vp_in; decide)) ?_
            refine r_goto (pc := 62) (tgt := 67) d_Md_best_62 (by decide) ?_
            rw [qcl (n := i) (by omega)] at hr ⊢
            exact r_iret d_Md_best_67 rfl (by omega) (by omega) (⟨by rw [z5 i hi, ← hr], rfl, s2, o2⟩)
        · have hk0 : k < 0 := by
            have : k = -1 := by
              first | exact c3 | exact Decidable.not_not.mp c3
            rw [this]; decide
          rw [if_pos hk0] at hr
          refine lda_n_3_0 (pc := 40) d_Md_best_40 ?_
          refine g_Md_292 (pc := 41) rfl d_Md_best_41 (by assumption) ?_
          refine r_l2i (pc := 44) d_Md_best_44 ?_
          refine r_goto (pc := 45) (tgt := 67) d_Md_best_45 (by decide) ?_
          exact r_iret d_Md_best_67 rfl (by omega) (by omega) (⟨by rw [z3, ← hr, lN_i], rfl, s2, o2⟩)
      refine lda_n_3_0 (pc := 20) d_Md_best_20 ?_
      refine ldi_n_3_1 (pc := 21) d_Md_best_21 ?_
      refine r_iconst (pc := 22) (v := 1) d_Md_best_22 rfl ?_
      refine r_icmp_ne (pc := 23) (tgt := 30) d_Md_best_23 (by decide) (fun c3 => ?_) (fun c3 => ?_)
      · have x0 : x = 0 := by
          obtain ⟨h1, h2⟩ := qwithin_y c1
          obtain ⟨m, m1, rfl⟩ := nI_of2 (M := 1) (n := 1) rfl (Int32.not_lt.mpr h1) h2
          have : m = 0 ∨ m = 1 := by omega
          rcases this with rfl | rfl
          · rfl
          · exact absurd rfl c3
        refine r_iconst (pc := 30) (v := 0) d_Md_best_30 rfl ?_
        refine body 0 (Or.inl rfl) (fun a ha => ?_)
        unfold nSel at ha
        rw [if_pos rfl] at ha
        rw [if_pos x0, ha] at hR
        exact hR
      · have x1 : ¬ x = 0 := fun q => absurd (q.symm.trans c3) (by decide)
        refine r_iconst (pc := 26) (v := 1) d_Md_best_26 rfl ?_
        refine r_goto (pc := 27) (tgt := 31) d_Md_best_27 (by decide) ?_
        refine body 1 (Or.inr rfl) (fun a ha => ?_)
        unfold nSel at ha
        rw [if_neg (by decide)] at ha
        rw [if_neg x1, ha] at hR
        exact hR
    · rw [if_pos c2] at hR
      refine r_iconst (pc := 18) (v := (-1)) d_Md_best_18 rfl ?_
      exact r_iret d_Md_best_19 rfl (by omega) (by omega) (⟨by rw [← hR], rfl, mSame.rf, fun _ _ => rfl⟩)
theorem c_Md_oddsX {q p : Int32} {c : Nat} {h : Nat → Nat → Nat} (hM : isMd S) (hd : mDay I 9999) (hc : I 114 0 = nI c) (c6 : c ≤ 6) (hh : rHh I c h) : qMet E y_Md_odds b_Md_odds 3 (some .long) 9 0 0 [.ref (qb E + 114), .int q, .int p] S I J (fun v S' I' J' => v = some (.long (aOdds (nF h q.toNatClampNeg (rWl I c)) q p)) ∧ S = S' ∧ mSame I I' ∧ mJo J J') := by
  have hT := hM.1
  obtain ⟨n1, n2, n3, n4, -, -⟩ := nF_ok (h := h) (q := q.toNatClampNeg) (fun p => I 120 p) c6 (fun p j hp hj => (hh p j hp hj).2)
  change 1 ≤ (nF h q.toNatClampNeg (rWl I c)).1 at n1
  change (nF h q.toNatClampNeg (rWl I c)).1 ≤ 720 at n2
  change (nF h q.toNatClampNeg (rWl I c)).2.1 ≤ 720 at n3
  generalize hR : aOdds (nF h q.toNatClampNeg (rWl I c)) q p = R
  unfold aOdds at hR
  refine qMet.of (L := [some (.ref (qb E + 114)), some (.int q), some (.int p)]) (by decide +kernel) (Nat.le_of_ble_eq_true rfl) rfl ?_
  refine ldi_n_3_1 (pc := 0) d_Md_odds_0 ?_
  refine r_iconst (pc := 1) (v := 0) d_Md_odds_1 rfl ?_
  refine r_sipush (pc := 2) (v := 9999) d_Md_odds_2 rfl ?_
  refine r_callS (pc := 5) (As := [.int q, .int 0, .int 9999]) k_Md_120 sw_Md_within rfl (by decide) d_Md_odds_5 (c_Md_within q 0 9999) rfl (Nat.le_of_ble_eq_true rfl) (by omega) (by omega) (by omega) (fun v S' I' J' hq => ?_)
  obtain ⟨rfl, rfl, rfl, rfl⟩ := hq
  refine r_if_eq (pc := 8) (tgt := 20) d_Md_odds_8 (by decide) (fun c1 => ?_) (fun c1 => ?_)
  · rw [if_pos c1] at hR
    refine r_ldc2 (pc := 20) cl_Md_327 d_Md_odds_20 ?_
    exact r_lret d_Md_odds_23 rfl (by omega) (by omega) (⟨by rw [← hR], rfl, mSame.rf, fun _ _ => rfl⟩)
  · rw [if_neg c1] at hR
    refine ldi_n_3_2 (pc := 11) d_Md_odds_11 ?_
    refine r_iconst (pc := 12) (v := 0) d_Md_odds_12 rfl ?_
    refine r_iconst (pc := 13) (v := 1) d_Md_odds_13 rfl ?_
    refine r_callS (pc := 14) (As := [.int p, .int 0, .int 1]) k_Md_120 sw_Md_within rfl (by decide) d_Md_odds_14 (c_Md_within p 0 1) rfl (Nat.le_of_ble_eq_true rfl) (by omega) (by omega) (by omega) (fun v S' I' J' hq => ?_)
    obtain ⟨rfl, rfl, rfl, rfl⟩ := hq
    refine r_if_ne (pc := 17) (tgt := 24) d_Md_odds_17 (by decide) (fun c2 => ?_) (fun c2 => ?_)
    · rw [if_neg c2] at hR
      obtain ⟨g1, g2⟩ := qwithin_y c1
      obtain ⟨m, m1, rfl⟩ := nI_of2 (M := 9999) (n := 9999) rfl (Int32.not_lt.mpr g1) g2
      rw [qcl (n := m) (by omega)] at n1 n2 n3 hR
      have hall := c_Md_allWaysX (E := E) (J := J) (b := 0) hM hd (Or.inl rfl) (show m < 2 ^ 30 by omega) hc c6 hh
      generalize nF h m (rWl I c) = F at *
      generalize rWl I c = W at *
      refine lda_n_3_0 (pc := 24) d_Md_odds_24 ?_
      refine r_iconst (pc := 25) (v := 0) d_Md_odds_25 rfl ?_
      refine ldi_n_3_1 (pc := 26) d_Md_odds_26 ?_
      refine r_callV (pc := 27) (As := [.int 0, .int (nI m)]) (k := 9) (N := 56) (T := T_Md) k_Md_307 im_Md_allWays se_Md_allWays rfl (by decide) rfl (by decide) d_Md_odds_27 hT (hall) rfl (Nat.le_of_ble_eq_true rfl) (by omega) (by omega) (by omega) (fun v S' I2 J2 hq => ?_)
      obtain ⟨rfl, rfl, s2, o2, -, -, r1, r2, -, -⟩ := hq
      refine lda_n_3_0 (pc := 30) d_Md_odds_30 ?_
      refine g_Md_285 (pc := 31) rfl d_Md_odds_31 (by assumption) ?_
      refine lda_n_3_0 (pc := 34) d_Md_odds_34 ?_
      refine g_Md_275 (pc := 35) rfl d_Md_odds_35 (by assumption) ?_
      rw [r1, r2]
      refine ldi_n_3_2 (pc := 38) d_Md_odds_38 ?_
      refine r_callS (pc := 39) (As := [.long (lN F.2.1), .long (lN F.1), .int p]) k_Md_329 sw_Md_part rfl (by decide) d_Md_odds_39 (c_Md_partX (by omega) n1 (by omega)) rfl (Nat.le_of_ble_eq_true rfl) (by omega) (by omega) (by omega) (fun v S' I' J' hq => ?_)
      obtain ⟨rfl, rfl, rfl, rfl⟩ := hq
      exact r_lret d_Md_odds_42 rfl (by omega) (by omega) (⟨by rw [← hR], rfl, s2, o2⟩)
    · rw [if_pos c2] at hR
      refine r_ldc2 (pc := 20) cl_Md_327 d_Md_odds_20 ?_
      exact r_lret d_Md_odds_23 rfl (by omega) (by omega) (⟨by rw [← hR], rfl, mSame.rf, fun _ _ => rfl⟩)
theorem c_Md_meanX {p : Int32} {c : Nat} {h : Nat → Nat → Nat} (hM : isMd S) (hd : mDay I 9999) (hc : I 114 0 = nI c) (c6 : c ≤ 6) (hh : rHh I c h) : qMet E y_Md_mean b_Md_mean 2 (some .long) 9 0 0 [.ref (qb E + 114), .int p] S I J (fun v S' I' J' => v = some (.long (aMean (nF h 0 (rWl I c)) p)) ∧ S = S' ∧ mSame I I' ∧ mJo J J') := by
  have hT := hM.1
  obtain ⟨n1, n2, n3, n4, -, -⟩ := nF_ok (h := h) (q := 0) (fun p => I 120 p) c6 (fun p j hp hj => (hh p j hp hj).2)
  change 1 ≤ (nF h 0 (rWl I c)).1 at n1
  change (nF h 0 (rWl I c)).1 ≤ 720 at n2
  change (nF h 0 (rWl I c)).2.2.1 < 2 ^ 40 at n4
  have hall := c_Md_allWaysX (E := E) (J := J) (b := 0) hM hd (Or.inl rfl) (show 0 < 2 ^ 30 by omega) hc c6 hh
  generalize nF h 0 (rWl I c) = F at *
  generalize rWl I c = W at *
  generalize hR : aMean F p = R
  unfold aMean at hR
  refine qMet.of (L := [some (.ref (qb E + 114)), some (.int p)]) (by decide +kernel) (Nat.le_of_ble_eq_true rfl) rfl ?_
  refine ldi_n_2_1 (pc := 0) d_Md_mean_0 ?_
  refine r_iconst (pc := 1) (v := 0) d_Md_mean_1 rfl ?_
  refine r_iconst (pc := 2) (v := 1) d_Md_mean_2 rfl ?_
  refine r_callS (pc := 3) (As := [.int p, .int 0, .int 1]) k_Md_120 sw_Md_within rfl (by decide) d_Md_mean_3 (c_Md_within p 0 1) rfl (Nat.le_of_ble_eq_true rfl) (by omega) (by omega) (by omega) (fun v S' I' J' hq => ?_)
  obtain ⟨rfl, rfl, rfl, rfl⟩ := hq
  refine r_if_ne (pc := 6) (tgt := 13) d_Md_mean_6 (by decide) (fun c2 => ?_) (fun c2 => ?_)
  · rw [if_neg c2] at hR
    refine lda_n_2_0 (pc := 13) d_Md_mean_13 ?_
    refine r_iconst (pc := 14) (v := 0) d_Md_mean_14 rfl ?_
    refine r_iconst (pc := 15) (v := 0) d_Md_mean_15 rfl ?_
    refine r_callV (pc := 16) (As := [.int 0, .int (nI 0)]) (k := 9) (N := 56) (T := T_Md) k_Md_307 im_Md_allWays se_Md_allWays rfl (by decide) rfl (by decide) d_Md_mean_16 hT (hall) rfl (Nat.le_of_ble_eq_true rfl) (by omega) (by omega) (by omega) (fun v S' I2 J2 hq => ?_)
    obtain ⟨rfl, rfl, s2, o2, -, -, r1, -, r3, -⟩ := hq
    refine lda_n_2_0 (pc := 19) d_Md_mean_19 ?_
    refine g_Md_279 (pc := 20) rfl d_Md_mean_20 (by assumption) ?_
    refine lda_n_2_0 (pc := 23) d_Md_mean_23 ?_
    refine g_Md_275 (pc := 24) rfl d_Md_mean_24 (by assumption) ?_
    rw [r1, r3]
    refine ldi_n_2_1 (pc := 27) d_Md_mean_27 ?_
    refine r_callS (pc := 28) (As := [.long (lN F.2.2.1), .long (lN F.1), .int p]) k_Md_329 sw_Md_part rfl (by decide) d_Md_mean_28 (c_Md_partX (by omega) n1 (by omega)) rfl (Nat.le_of_ble_eq_true rfl) (by omega) (by omega) (by omega) (fun v S' I' J' hq => ?_)
    obtain ⟨rfl, rfl, rfl, rfl⟩ := hq
    exact r_lret d_Md_mean_31 rfl (by omega) (by omega) (⟨by rw [← hR], rfl, s2, o2⟩)
  · rw [if_pos c2] at hR
    refine r_ldc2 (pc := 9) cl_Md_327 d_Md_mean_9 ?_
    exact r_lret d_Md_mean_12 rfl (by omega) (by omega) (⟨by rw [← hR], rfl, mSame.rf, fun _ _ => rfl⟩)
end T7
