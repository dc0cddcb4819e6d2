/-! what the text says of a clause: both count it alike -/
def pT (c : Int32) : Prop := ∃ l s n, l < 6 ∧ s < 3 ∧ n ≤ 99 ∧ c = nI (3 + 300 * l + 100 * s + n)
/-- codes of one expression; no more than D stand on the pile for it -/
def pEx (D : Nat) (w : List Int32) : Prop := ∀ P : Nat → List Int32 → Prop, (∀ c D, pT c → 1 ≤ D → P D [c]) → (∀ w D, P D w → P D (w ++ [0])) → (∀ a b x D D', P D a → P D' b → (x = 1 ∨ x = 2) → D' + 1 ≤ D → P D (a ++ b ++ [x])) → P D w
theorem pEx.test (c : Int32) (D : Nat) (h : pT c) (hD : 1 ≤ D) : pEx D [c] := fun P t _ _ => t c D h hD
theorem pEx.no (w : List Int32) (D : Nat) (h : pEx D w) : pEx D (w ++ [0]) := fun P t n o => n w D (h P t n o)
theorem pEx.two (a b : List Int32) (x : Int32) (D D' : Nat) (ha : pEx D a) (hb : pEx D' b) (hx : x = 1 ∨ x = 2) (hD : D' + 1 ≤ D) : pEx D (a ++ b ++ [x]) := fun P t n o => o a b x D D' (ha P t n o) (hb P t n o) hx hD
theorem pEx.ind {C : Nat → List Int32 → Prop} (t : ∀ c D, pT c → 1 ≤ D → C D [c]) (n : ∀ w D, pEx D w → C D w → C D (w ++ [0])) (o : ∀ a b x D D', pEx D a → pEx D' b → (x = 1 ∨ x = 2) → D' + 1 ≤ D → C D a → C D' b → C D (a ++ b ++ [x])) {D : Nat} {w : List Int32} (h : pEx D w) : C D w :=
  (h (fun D w => pEx D w ∧ C D w) (fun c D h1 h2 => ⟨pEx.test c D h1 h2, t c D h1 h2⟩) (fun w D h => ⟨pEx.no w D h.1, n w D h.1 h.2⟩) (fun a b x D D' ha hb hx hD => ⟨pEx.two a b x D D' ha.1 hb.1 hx hD, o a b x D D' ha.1 hb.1 hx hD ha.2 hb.2⟩)).2
theorem pEx.pos {D : Nat} {w : List Int32} (h : pEx D w) : 1 ≤ D := pEx.ind (C := fun D _ => 1 ≤ D) (fun _ _ _ hD => hD) (fun _ _ _ ih => ih) (fun _ _ _ _ _ _ _ _ _ ih _ => ih) h
theorem pEx.mono {D : Nat} {w : List Int32} (h : pEx D w) : ∀ {D2 : Nat}, D ≤ D2 → pEx D2 w := by
  have := pEx.ind (C := fun D w => ∀ D2, D ≤ D2 → pEx D2 w) (fun c D h hD D2 hd => pEx.test c D2 h (by omega)) (fun w D _ ih D2 hd => pEx.no w D2 (ih D2 hd)) (fun a b x D D' _ hb hx hD iha _ D2 hd => pEx.two a b x D2 D' (iha D2 hd) hb hx (by omega)) h
  exact fun {D2} hd => this D2 hd
def mrun (tv : Int32 → Int32) (w : List Int32) (l : List Int32) : List Int32 := w.foldl (fun l c => mstp tv c l) l
def crun (vs : Nat → Int32) (w : List Int32) (b : Int32) : Int32 := w.foldl (fun b x => qsoStep vs x b) b
def cbit (b : Int32) (i : Nat) : Bool := b.toBitVec.getLsbD i
theorem mrun_app {tv : Int32 → Int32} {a b l : List Int32} : mrun tv (a ++ b) l = mrun tv b (mrun tv a l) := List.foldl_append
theorem crun_app {vs : Nat → Int32} {a b : List Int32} {x : Int32} : crun vs (a ++ b) x = crun vs b (crun vs a x) := List.foldl_append
theorem cbit_not {b : Int32} : cbit (b ^^^ 1) 0 = !cbit b 0 ∧ ∀ i, cbit (b ^^^ 1) (i + 1) = cbit b (i + 1) := by
  have e : (b ^^^ 1).toBitVec = b.toBitVec ^^^ 1#32 := rfl
  unfold cbit
  rw [e]
  refine ⟨by simp [BitVec.getLsbD_xor], fun i => ?_⟩
  simp [BitVec.getLsbD_xor]
theorem cshr {b : Int32} : ((b.toUInt32 >>> ((1 : Int32).toUInt32 &&& Int32.toUInt32 31)).toInt32).toBitVec = b.toBitVec >>> 1 := by
  have h : (1 : Int32).toUInt32 &&& Int32.toUInt32 31 = 1 := by decide
  rw [h]
  rfl
theorem cshl {b : Int32} : (b <<< ((1 : Int32) &&& 31)).toBitVec = b.toBitVec <<< 1 := by
  have h : (1 : Int32) &&& 31 = 1 := by decide
  rw [h]
  rfl
theorem cbit_and {b : Int32} : cbit ((b.toUInt32 >>> ((1 : Int32).toUInt32 &&& Int32.toUInt32 31)).toInt32 &&& (-2 ||| (b &&& 1))) 0 = (cbit b 1 && cbit b 0) ∧ ∀ i, i < 31 → cbit ((b.toUInt32 >>> ((1 : Int32).toUInt32 &&& Int32.toUInt32 31)).toInt32 &&& (-2 ||| (b &&& 1))) (i + 1) = cbit b (i + 2) := by
  have e : ((b.toUInt32 >>> ((1 : Int32).toUInt32 &&& Int32.toUInt32 31)).toInt32 &&& (-2 ||| (b &&& 1))).toBitVec = (b.toBitVec >>> 1) &&& ((-2#32) ||| (b.toBitVec &&& 1#32)) := by
    rw [← cshr]; rfl
  unfold cbit
  rw [e]
  refine ⟨?_, fun i hi => ?_⟩
  · simp [BitVec.getLsbD_and, BitVec.getLsbD_or]
  · have h2 : (-2#32 : BitVec 32).getLsbD (i + 1) = true := by
      have : ∀ i, i < 31 → (-2#32 : BitVec 32).getLsbD (i + 1) = true := by decide
      exact this i hi
    have e3 : (b.toBitVec >>> 1).getLsbD (i + 1) = b.toBitVec.getLsbD (i + 2) := by rw [BitVec.getLsbD_ushiftRight]; congr 1; omega
    rw [BitVec.getLsbD_and, e3, BitVec.getLsbD_or, h2, Bool.true_or, Bool.and_true]
theorem cbit_or {b : Int32} : cbit ((b.toUInt32 >>> ((1 : Int32).toUInt32 &&& Int32.toUInt32 31)).toInt32 ||| (b &&& 1)) 0 = (cbit b 1 || cbit b 0) ∧ ∀ i, cbit ((b.toUInt32 >>> ((1 : Int32).toUInt32 &&& Int32.toUInt32 31)).toInt32 ||| (b &&& 1)) (i + 1) = cbit b (i + 2) := by
  have e : ((b.toUInt32 >>> ((1 : Int32).toUInt32 &&& Int32.toUInt32 31)).toInt32 ||| (b &&& 1)).toBitVec = (b.toBitVec >>> 1) ||| (b.toBitVec &&& 1#32) := by
    rw [← cshr]; rfl
  unfold cbit
  rw [e]
  refine ⟨?_, fun i => ?_⟩
  · simp [BitVec.getLsbD_and, BitVec.getLsbD_or]
  · have e3 : (b.toBitVec >>> 1).getLsbD (i + 1) = b.toBitVec.getLsbD (i + 2) := by rw [BitVec.getLsbD_ushiftRight]; congr 1; omega
    rw [BitVec.getLsbD_or, e3, BitVec.getLsbD_and]
    simp
theorem cbit_test {b y : Int32} : cbit ((b <<< ((1 : Int32) &&& 31)) ||| (if y = 0 then 0 else 1)) 0 = !decide (y = 0) ∧ ∀ i, i < 31 → cbit ((b <<< ((1 : Int32) &&& 31)) ||| (if y = 0 then 0 else 1)) (i + 1) = cbit b i := by
  have e : ∀ z : Int32, ((b <<< ((1 : Int32) &&& 31)) ||| z).toBitVec = (b.toBitVec <<< 1) ||| z.toBitVec := fun z => by
    rw [← cshl]; rfl
  unfold cbit
  rw [e]
  by_cases h : y = 0
  · rw [if_pos h]
    have z : (0 : Int32).toBitVec = 0#32 := rfl
    rw [z]
    refine ⟨by simp [h], fun i hi => ?_⟩
    simp [BitVec.getLsbD_or]; omega
  · rw [if_neg h]
    have z : (1 : Int32).toBitVec = 1#32 := rfl
    rw [z]
    refine ⟨by simp [BitVec.getLsbD_or, h], fun i hi => ?_⟩
    simp [BitVec.getLsbD_or]; omega
theorem vT {v : Int32} (h : qbool v) : (!decide (v = 0)) = decide (v = 1) := by
  rcases h with rfl | rfl <;> decide
theorem pT.ge {c : Int32} (h : pT c) : 3 ≤ c ∧ ¬ trc c = -1 ∧ ¬ trc c = -2 ∧ ¬ trc c = -3 ∧ ∃ x, x < 1800 ∧ c = nI (3 + x) ∧ trc c = nI x := by
  obtain ⟨l, s, n, hl, hs, hn, rfl⟩ := h
  have e : trc (nI (3 + 300 * l + 100 * s + n)) = nI (300 * l + 100 * s + n) := by
    have ne : ∀ b, b < 3 → ¬ nI (3 + 300 * l + 100 * s + n) = nI b := fun b hb q => by
      have := (nI_eq (by omega) (by omega)).mp q
      omega
    unfold trc
    rw [if_neg (show ¬ nI (3 + 300 * l + 100 * s + n) = 0 from ne 0 (by omega)), if_neg (show ¬ nI (3 + 300 * l + 100 * s + n) = 1 from ne 1 (by omega)), if_neg (show ¬ nI (3 + 300 * l + 100 * s + n) = 2 from ne 2 (by omega))]
    refine (nI_subk (b := 3) (by omega)).trans ?_
    congr 1
    omega
  have neg : ∀ x, x < 1800 → ¬ nI x < 0 := fun x hx => nI_pos (by omega)
  have nn : ∀ y : Int32, y < 0 → ¬ nI (300 * l + 100 * s + n) = y := fun y hy q => neg _ (by omega) (q ▸ hy)
  refine ⟨show nI 3 ≤ _ from nI_le (by omega) (by omega), ?_, ?_, ?_, 300 * l + 100 * s + n, by omega, by congr 1; omega, e⟩
  · rw [e]; exact nn _ (by decide)
  · rw [e]; exact nn _ (by decide)
  · rw [e]; exact nn _ (by decide)
theorem ex_run {tv : Int32 → Int32} {vs : Nat → Int32} (htv : ∀ c, pT c → tv c = qtestV vs (trc c)) {D : Nat} {w : List Int32} (h : pEx D w) : D ≤ 31 → ∃ v, qbool v ∧ (∀ l, mrun tv w l = v :: l) ∧ ∀ b, cbit (crun vs (w.map trc) b) 0 = decide (v = 1) ∧ ∀ i, i + D < 32 → cbit (crun vs (w.map trc) b) (i + 1) = cbit b i := by
  refine pEx.ind (C := fun D w => D ≤ 31 → ∃ v, qbool v ∧ (∀ l, mrun tv w l = v :: l) ∧ ∀ b, cbit (crun vs (w.map trc) b) 0 = decide (v = 1) ∧ ∀ i, i + D < 32 → cbit (crun vs (w.map trc) b) (i + 1) = cbit b i) (fun c D h hD => ?_) (fun w D h ih => ?_) (fun a b x D D' ha hb hx hD iha ihb => ?_) h
  · intro _
    obtain ⟨g1, g2, g3, g4, -⟩ := h.ge
    refine ⟨tv c, by rw [htv c h]; exact qtestV_b, fun l => ?_, fun b => ?_⟩
    · show mstp tv c l = _
      unfold mstp
      rw [if_pos g1]
    · have e : crun vs ([c].map trc) b = (b <<< ((1 : Int32) &&& 31)) ||| (if qtestV vs (trc c) = 0 then 0 else 1) := by
        show qsoStep vs (trc c) b = _
        unfold qsoStep
        rw [if_neg g2, if_neg g3, if_neg g4]
      rw [e]
      obtain ⟨t1, t2⟩ := cbit_test (b := b) (y := qtestV vs (trc c))
      exact ⟨by rw [t1, vT qtestV_b, htv c h], fun i hi => t2 i (by omega)⟩
  · intro h31
    obtain ⟨v, hv, m1, c1⟩ := ih h31
    refine ⟨if v = 0 then 1 else 0, by split; exact Or.inr rfl; exact Or.inl rfl, fun l => ?_, fun b => ?_⟩
    · rw [mrun_app, m1]
      show mstp tv 0 (v :: l) = _
      unfold mstp
      rw [if_neg (by decide), if_pos rfl]
    · rw [List.map_append, crun_app]
      obtain ⟨c0, ci⟩ := c1 b
      generalize crun vs (w.map trc) b = r at *
      have e : crun vs ([0].map trc) r = r ^^^ 1 := by
        show qsoStep vs (trc 0) r = _
        unfold qsoStep
        rw [if_pos (by decide)]
      rw [e]
      obtain ⟨t1, t2⟩ := cbit_not (b := r)
      refine ⟨?_, fun i hi => by rw [t2, ci i hi]⟩
      rw [t1, c0]
      rcases hv with rfl | rfl <;> decide
  · intro h31
    obtain ⟨v1, hv1, m1, c1⟩ := iha h31
    obtain ⟨v2, hv2, m2, c2⟩ := ihb (by omega)
    have hb1 := hb.pos
    refine ⟨mop x v1 v2, mop_b, fun l => ?_, fun y => ?_⟩
    · rw [mrun_app, mrun_app, m1, m2]
      show mstp tv x (v2 :: v1 :: l) = _
      unfold mstp
      rcases hx with rfl | rfl
      · rw [if_neg (by decide), if_neg (by decide)]
      · rw [if_neg (by decide), if_neg (by decide)]
    · rw [List.map_append, List.map_append, crun_app, crun_app]
      obtain ⟨a0, ai⟩ := c1 y
      generalize crun vs (a.map trc) y = r1 at *
      obtain ⟨b0, bi⟩ := c2 r1
      generalize crun vs (b.map trc) r1 = r2 at *
      have hi1 : ∀ i, i + D < 32 → cbit r2 (i + 2) = cbit y i := fun i hi => by
        rw [show i + 2 = (i + 1) + 1 by omega, bi (i + 1) (by omega), ai i hi]
      have h10 : cbit r2 1 = decide (v1 = 1) := by
        rw [show (1 : Nat) = 0 + 1 from rfl]
        rw [bi 0 (by omega), a0]
      rcases hx with rfl | rfl
      · have e : crun vs ([1].map trc) r2 = (r2.toUInt32 >>> ((1 : Int32).toUInt32 &&& Int32.toUInt32 31)).toInt32 &&& (-2 ||| (r2 &&& 1)) := by
          show qsoStep vs (trc 1) r2 = _
          unfold qsoStep
          rw [if_neg (by decide), if_pos (by decide)]
        rw [e]
        obtain ⟨t1, t2⟩ := cbit_and (b := r2)
        refine ⟨?_, fun i hi => by rw [t2 i (by omega), hi1 i hi]⟩
        rw [t1, h10, b0]
        rcases hv1 with rfl | rfl <;> rcases hv2 with rfl | rfl <;> decide
      · have e : crun vs ([2].map trc) r2 = (r2.toUInt32 >>> ((1 : Int32).toUInt32 &&& Int32.toUInt32 31)).toInt32 ||| (r2 &&& 1) := by
          show qsoStep vs (trc 2) r2 = _
          unfold qsoStep
          rw [if_neg (by decide), if_neg (by decide), if_pos (by decide)]
        rw [e]
        obtain ⟨t1, t2⟩ := cbit_or (b := r2)
        refine ⟨?_, fun i hi => by rw [t2 i, hi1 i hi]⟩
        rw [t1, h10, b0]
        rcases hv1 with rfl | rfl <;> rcases hv2 with rfl | rfl <;> decide
theorem mevl_run {tv : Int32 → Int32} {g : Nat → Int32} : ∀ (w : List Int32) (b : Nat) (l : List Int32), (∀ j, j < w.length → g (b + j) = w.getD j 0) → mevl tv g w.length b l = mrun tv w l := by
  intro w
  induction w with
  | nil => intro b l _; rfl
  | cons c w ih =>
    intro b l hg
    have h0 : g b = c := by have := hg 0 (by simp); simpa using this
    rw [List.length_cons, mevl, h0]
    show _ = mrun tv w (mstp tv c l)
    refine ih (b + 1) _ (fun j hj => ?_)
    have := hg (j + 1) (by simp; omega)
    rw [show b + 1 + j = b + (j + 1) by omega, this]; rfl
theorem qsoN_run {vs : Nat → Int32} {g : Nat → Int32} {a : Nat} : ∀ (m : Nat) (w : List Int32), m ≤ w.length → (∀ j, j < w.length → g (a + j) = w.getD j 0) → qsoN g vs a m = crun vs (w.take m) 0 := by
  intro m
  induction m with
  | zero => intro w _ _; rfl
  | succ m ih =>
    intro w hm hg
    rw [qsoN, ih w (by omega) hg, hg m (by omega)]
    have e : w.take (m + 1) = w.take m ++ [w.getD m 0] := by
      rw [List.take_add_one]
      congr 1
      rw [List.getD_eq_getElem?_getD, List.getElem?_eq_getElem (by omega)]; rfl
    rw [e, crun_app]; rfl
/-- a clause holds for both, or for neither -/
theorem clause_val {tv : Int32 → Int32} {vs g1 g2 : Nat → Int32} (htv : ∀ c, pT c → tv c = qtestV vs (trc c)) {w : List Int32} (h : pEx 31 w) {a b : Nat} (h1 : ∀ j, j < w.length → g1 (a + j) = trc (w.getD j 0)) (h2 : ∀ j, j < w.length → g2 (b + j) = w.getD j 0) : qisSo g1 vs a (a + w.length) = (mevl tv g2 w.length b []).reverse.getD 0 0 := by
  obtain ⟨v, hv, m1, c1⟩ := ex_run htv h (Nat.le_refl 31)
  rw [mevl_run w b [] h2, m1]
  unfold qisSo
  rw [show a + w.length - a = w.length by omega]
  have e : qsoN g1 vs a w.length = crun vs (w.map trc) 0 := by
    have := qsoN_run (vs := vs) (g := g1) (a := a) w.length (w.map trc) (by simp) (fun j hj => by
      rw [List.length_map] at hj
      rw [h1 j hj, List.getD_eq_getElem?_getD, List.getD_eq_getElem?_getD, List.getElem?_map, List.getElem?_eq_getElem hj]; rfl)
    rw [List.take_of_length_le (by simp)] at this
    exact this
  rw [e]
  have c0 := (c1 0).1
  generalize crun vs (w.map trc) 0 = r at *
  show _ = v
  have hb : (r &&& 1 = 1) ↔ cbit r 0 = true := by
    unfold cbit
    rw [← Int32.toBitVec_inj]
    have e2 : (r &&& 1).toBitVec = r.toBitVec &&& 1#32 := rfl
    have e3 : (1 : Int32).toBitVec = 1#32 := rfl
    rw [e2, e3]
    constructor
    · intro q
      have := congrArg (fun z => z.getLsbD 0) q
      simpa [BitVec.getLsbD_and] using this
    · intro q
      apply BitVec.eq_of_getLsbD_eq
      intro i hi
      rw [BitVec.getLsbD_and]
      by_cases z : i = 0
      · subst z; rw [q]; rfl
      · have : (1#32 : BitVec 32).getLsbD i = false := by simp [z]
        rw [this]; simp
  rcases hv with rfl | rfl
  · rw [if_neg]
    rw [hb, c0]; decide
  · rw [if_pos]
    rw [hb, c0]; decide
/-! what the reference's reader codes is one expression; the clauses of both as lists -/
def pexE (D : Nat) (one : pSt → Bool × pSt) : Prop := ∀ s, ∃ w, (one s).2.2 = s.2 ++ w ∧ ((one s).1 = true → pEx D w)
section W2
variable {f : Nat → Int32} {n : Nat}
theorem ptest_ex (hf : ∀ j, j < n → ∃ k, k < 128 ∧ f j = nI k) : pexE 1 (ptest f n) := by
  intro s
  unfold ptest
  split
  · exact ⟨[], by simp, fun q => absurd q Bool.false_ne_true⟩
  · rename_i h1
    split
    · exact ⟨[], by simp, fun q => absurd q Bool.false_ne_true⟩
    · rename_i h2
      split
      · exact ⟨[], by simp, fun q => absurd q Bool.false_ne_true⟩
      · refine ⟨_, rfl, fun _ => pEx.test _ 1 ?_ (Nat.le_refl 1)⟩
        obtain ⟨l, l1, l2⟩ := plet_ok h1
        obtain ⟨g, g1, g2⟩ := plet_ok h2
        obtain ⟨v, v1, v2⟩ := pnum99 hf (s.1 + 2)
        have l3 : l < 6 := Nat.lt_of_lt_of_le l1 (by decide +kernel)
        have g3 : g < 3 := Nat.lt_of_lt_of_le g1 (by decide +kernel)
        refine ⟨l, g, v, l3, g3, v1, ?_⟩
        rw [l2, g2, v2, show (300 : Int32) = nI 300 from rfl, show (100 : Int32) = nI 100 from rfl, show (3 : Int32) = nI 3 from rfl, pk_mul, pk_mul, nI_add, nI_add, nI_add]
theorem ploop_ex {one : pSt → Bool × pSt} {c x : Int32} {D E : Nat} (hx : x = 1 ∨ x = 2) (hD : D + 1 ≤ E) (h : pexE D one) : ∀ (m : Nat) (s : pSt), ∃ w, (ploop f n one c x m s).2.2 = s.2 ++ w ∧ ((ploop f n one c x m s).1 = true → ∀ u, pEx E u → pEx E (u ++ w)) := by
  intro m
  induction m with
  | zero => intro s; exact ⟨[], by simp [ploop], fun _ u hu => by simpa using hu⟩
  | succ m ih =>
    intro s
    rw [ploop]
    split
    · obtain ⟨w1, a1, a2⟩ := h (s.1 + 1, s.2)
      split
      · rename_i q
        obtain ⟨w2, b1, b2⟩ := ih ((one (s.1 + 1, s.2)).2.1, (one (s.1 + 1, s.2)).2.2 ++ [x])
        refine ⟨w1 ++ ([x] ++ w2), ?_, fun z u hu => ?_⟩
        · rw [b1]; simp only [a1, List.append_assoc]
        · have := b2 z (u ++ w1 ++ [x]) (pEx.two u w1 x E D hu (a2 q) hx hD)
          simpa only [List.append_assoc] using this
      · rename_i q
        exact ⟨w1, a1, fun z => absurd z q⟩
    · exact ⟨[], by simp, fun _ u hu => by simpa using hu⟩
theorem psq_ex {one : pSt → Bool × pSt} {c x : Int32} {D E : Nat} (hx : x = 1 ∨ x = 2) (hD : D + 1 ≤ E) (h : pexE D one) : pexE E (psq f n one c x) := by
  intro s
  unfold psq
  obtain ⟨w1, a1, a2⟩ := h s
  split
  · rename_i q
    obtain ⟨w2, b1, b2⟩ := ploop_ex (f := f) (n := n) (c := c) hx hD h 101 (one s).2
    exact ⟨w1 ++ w2, by rw [b1, a1, List.append_assoc], fun z => b2 z w1 ((a2 q).mono (by omega))⟩
  · rename_i q
    exact ⟨w1, a1, fun z => absurd z q⟩
theorem pE_ex {one : pSt → Bool × pSt} {D : Nat} (h : pexE D one) : pexE (D + 2) (pE f n one) := psq_ex (D := D + 1) (Or.inr rfl) (by omega) (psq_ex (D := D) (Or.inl rfl) (by omega) h)
theorem pF_ex (hf : ∀ j, j < n → ∃ k, k < 128 ∧ f j = nI k) : ∀ k, pexE (1 + 2 * k) (pF f n k) := by
  intro k
  induction k with
  | zero => exact ptest_ex hf
  | succ k ih =>
    intro s
    rw [pF]
    split
    · obtain ⟨w1, a1, a2⟩ := ih (s.1 + 1, s.2)
      split
      · rename_i q
        exact ⟨w1 ++ [0], by simp only [a1, List.append_assoc], fun _ => pEx.no w1 _ ((a2 q).mono (by omega))⟩
      · rename_i q
        exact ⟨w1, a1, fun z => absurd z q⟩
    · split
      · obtain ⟨w1, a1, a2⟩ := pE_ex (f := f) (n := n) ih (s.1 + 1, s.2)
        split
        · rename_i q
          exact ⟨w1, by rw [pis_codes]; exact a1, fun _ => (a2 q).mono (by omega)⟩
        · rename_i q
          exact ⟨w1, a1, fun z => absurd z q⟩
      · obtain ⟨w1, a1, a2⟩ := ptest_ex hf s
        exact ⟨w1, a1, fun q => (a2 q).mono (by omega)⟩
end W2
/-- where the last of the clauses ends -/
def xEnd (L : List (Int32 × Nat)) : Nat := (L.getLast?.map (fun p => p.2)).getD 0
/-- the first m clauses of the h-th island in the reference's tables, and the class's list of them; codes P begin at cz -/
def xCs (B : qI) (cz h : Nat) (P : List Int32) : Nat → List (Int32 × Nat) → Int32 → Prop
  | 0, L, z => L = [] ∧ z = 0
  | m + 1, L, z =>
    (B 125 (10 * h + m) = 2 ∧ B 126 (10 * h + m) = z ∧ ∃ z0, xCs B cz h P m L z0) ∨
    ((B 125 (10 * h + m) = 0 ∨ B 125 (10 * h + m) = 1) ∧ ∃ (L0 : List (Int32 × Nat)) (u w y : List Int32), P = u ++ (w ++ y) ∧ pEx 31 w ∧ u.length = xEnd L0 ∧ B 127 (10 * h + m) = nI (cz + u.length) ∧ B 128 (10 * h + m) = nI w.length ∧ L = L0 ++ [((if B 125 (10 * h + m) = 0 then B 126 (10 * h + m) else -(B 126 (10 * h + m))), u.length + w.length)] ∧ xCs B cz h P m L0 z)
theorem xCs.more {B B2 : qI} {cz h : Nat} {P : List Int32} (Q : List Int32) : ∀ (m : Nat) (L : List (Int32 × Nat)) (z : Int32), (∀ a j, 125 ≤ a → a ≤ 128 → j < 10 * h + m → 10 * h ≤ j → B2 a j = B a j) → xCs B cz h P m L z → xCs B2 cz h (P ++ Q) m L z := by
  intro m
  induction m with
  | zero => intro L z _ hx; exact hx
  | succ m ih =>
    intro L z hB hx
    have ih' := fun L z => ih L z (fun a j a1 a2 a3 a4 => hB a j a1 a2 (by omega) a4)
    rcases hx with ⟨x1, x2, z0, x3⟩ | ⟨x1, L0, u, w, y, x2, x3, x4, x5, x6, x7, x8⟩
    · exact Or.inl ⟨by rw [hB 125 _ (by omega) (by omega) (by omega) (by omega)]; exact x1, by rw [hB 126 _ (by omega) (by omega) (by omega) (by omega)]; exact x2, z0, ih' L z0 x3⟩
    · refine Or.inr ⟨by rw [hB 125 _ (by omega) (by omega) (by omega) (by omega)]; exact x1, L0, u, w, y ++ Q, by rw [x2]; simp only [List.append_assoc], x3, x4, by rw [hB 127 _ (by omega) (by omega) (by omega) (by omega)]; exact x5, by rw [hB 128 _ (by omega) (by omega) (by omega) (by omega)]; exact x6, ?_, ih' L0 z x8⟩
      rw [hB 125 _ (by omega) (by omega) (by omega) (by omega), hB 126 _ (by omega) (by omega) (by omega) (by omega)]; exact x7
theorem xEnd_app {L : List (Int32 × Nat)} {p : Int32 × Nat} : xEnd (L ++ [p]) = p.2 := by
  unfold xEnd
  rw [List.getLast?_append]
  rfl
section W2b
variable {f : Nat → Int32} {n : Nat}
/-- a clause that is read: what both keep of it -/
theorem clause_lst (hf : ∀ j, j < n → ∃ k, k < 128 ∧ f j = nI k) (hn : n ≤ 100) {B : qI} {cz h m a : Nat} {P : List Int32} {L : List (Int32 × Nat)} {z : Int32} (hP : P.length ≤ a) (ha : a ≤ n) (hm : L.length ≤ m) (hm9 : m ≤ 9) (hx : xCs B cz h P m L z) (he : xEnd L = P.length) (hok : (pcl f n B cz (10 * h + m) (a, P)).1 = true) : ∃ (C : List Int32) (L2 : List (Int32 × Nat)) (z2 : Int32), (pcl f n B cz (10 * h + m) (a, P)).2.1.2 = C ∧ (rclause f n ((a, false, P.map trc), L, z)).2 = (L2, z2) ∧ xCs (pcl f n B cz (10 * h + m) (a, P)).2.2 cz h C (m + 1) L2 z2 ∧ xEnd L2 = C.length ∧ L2.length ≤ m + 1 := by
  have hE := either_sim hn (rst_one (f := f) (n := n) 4) (one_sim hf hn 4) (go_F 4)
  have hX := pE_ex (f := f) (n := n) (pF_ex hf 4)
  have main : ∀ (i : Nat) (w : Int32), (∀ c ∈ qByt.getD i [], c ≠ -1) → w = 0 ∨ w = 1 → pw f n a = w → pwi f a = i → ∃ (C : List Int32) (L2 : List (Int32 × Nat)), (pcl f n B cz (10 * h + m) (a, P)).2.1.2 = C ∧ (rendc (if w = 0 then (rnum f n (rtake f n (qByt.getD i []) (a, false, P.map trc))).1 else -(rnum f n (rtake f n (qByt.getD i []) (a, false, P.map trc))).1) (reither f n (rone f n 4) (rtake f n (qByt.getD 4 []) (rnum f n (rtake f n (qByt.getD i []) (a, false, P.map trc))).2)).2.2.length L) = L2 ∧ xCs (pcl f n B cz (10 * h + m) (a, P)).2.2 cz h C (m + 1) L2 z ∧ xEnd L2 = C.length ∧ L2.length ≤ m + 1 := by
    intro i w hi hw01 hw hpi
    obtain ⟨t1, t2, t3, t4⟩ := take_sim (f := f) (n := n) (qByt.getD i []) a (P.map trc) P hi
    have len := pall_len (f := f) (n := n) (qByt.getD i []) (a, P)
    have le := pall_le (f := f) (n := n) (qByt.getD i []) (a, P) ha
    have hw1 : ¬ w = -1 := by rcases hw01 with rfl | rfl <;> decide
    have hw2 : w < 2 := by rcases hw01 with rfl | rfl <;> decide
    unfold pcl at hok ⊢
    rw [hw, if_neg hw1, hpi] at hok ⊢
    generalize hp : pall f n (qByt.getD i []) (a, P) = p at *
    obtain ⟨ok, b, Q⟩ := p
    simp only at t1 t3 t4 len le hok ⊢
    generalize ht : rtake f n (qByt.getD i []) (a, false, P.map trc) = t at *
    obtain ⟨tb, tf, tC⟩ := t
    simp only at t1 t2 t3 t4
    subst t1; subst t2
    by_cases c : ok = true
    · have hQ : Q = P := len.1
      subst hQ
      rw [if_pos c] at hok ⊢
      rw [t3 c, rnum_k]
      have nle := pnumL_le (f := f) (n := n) 2 0 0 tb le
      have ng := pnumL_good (f := f) (n := n) 2 0 0 tb
      by_cases c2 : (pnumL f n 2 0 0 tb).2.1 = 0
      · rw [if_pos c2] at hok; exact absurd hok Bool.false_ne_true
      · rw [if_neg c2] at hok ⊢
        rw [if_neg c2]
        unfold ptl at hok ⊢
        rw [if_pos hw2] at hok ⊢
        rw [qB4]
        unfold pis at hok ⊢
        simp only at hok ⊢
        rw [take1 (by decide)]
        by_cases c3 : (pnumL f n 2 0 0 tb).2.2 < n ∧ f (pnumL f n 2 0 0 tb).2.2 = 32
        · rw [if_pos c3]
          simp only [if_pos c3, if_true] at hok ⊢
          have hr := hE ((pnumL f n 2 0 0 tb).2.2 + 1) Q (by simp only at len; omega) (by omega)
          obtain ⟨ww, e1, e2⟩ := hX ((pnumL f n 2 0 0 tb).2.2 + 1, Q)
          by_cases c4 : (pE f n (pF f n 4) ((pnumL f n 2 0 0 tb).2.2 + 1, Q)).1 = true
          · simp only [if_pos c4] at hok ⊢
            have es := hr.ok c4
            simp only at e1
            rw [es, e1]
            have hlen : L.length < 10 := by omega
            refine ⟨Q ++ ww, _, rfl, rfl, ?_, ?_, ?_⟩
            · unfold rendc
              rw [if_pos hlen]
              refine Or.inr ⟨?_, L, Q, ww, [], by simp, (e2 c4).mono (by omega), he.symm, ?_, ?_, ?_, ?_⟩
              · have : qup (pB1 B cz (10 * h + m) w (pnumL f n 2 0 0 tb).1 ((pnumL f n 2 0 0 tb).2.2, Q)) 128 (10 * h + m) (nI ((Q ++ ww).length - Q.length)) 125 (10 * h + m) = w := by
                  unfold pB1; rw [qup_o (by decide), qup_o (by decide), qup_o (by decide), qup_at]
                rw [this]; exact hw01
              · unfold pB1; rw [qup_o (by decide), qup_at]
              · rw [qup_at, List.length_append, Nat.add_sub_cancel_left]
              · have x5 : qup (pB1 B cz (10 * h + m) w (pnumL f n 2 0 0 tb).1 ((pnumL f n 2 0 0 tb).2.2, Q)) 128 (10 * h + m) (nI ((Q ++ ww).length - Q.length)) 125 (10 * h + m) = w := by
                  unfold pB1; rw [qup_o (by decide), qup_o (by decide), qup_o (by decide), qup_at]
                have x6 : qup (pB1 B cz (10 * h + m) w (pnumL f n 2 0 0 tb).1 ((pnumL f n 2 0 0 tb).2.2, Q)) 128 (10 * h + m) (nI ((Q ++ ww).length - Q.length)) 126 (10 * h + m) = (pnumL f n 2 0 0 tb).1 := by
                  unfold pB1; rw [qup_o (by decide), qup_o (by decide), qup_at]
                rw [x5, x6, List.length_map, List.length_append]
              · refine xCs.more ww m L z (fun a' j a1 a2 a3 a4 => ?_) hx
                unfold pB1
                rw [qup_j (by omega), qup_j (by omega), qup_j (by omega), qup_j (by omega)]
            · unfold rendc
              rw [if_pos hlen, xEnd_app]
              simp only [List.length_map]
            · unfold rendc
              rw [if_pos hlen, List.length_append]
              show _ + 1 ≤ _; omega
          · simp only [if_neg c4] at hok; exact absurd hok Bool.false_ne_true
        · simp only [if_neg c3] at hok
          rw [if_neg Bool.false_ne_true] at hok
          exact absurd hok Bool.false_ne_true
    · rw [if_neg c] at hok; exact absurd hok Bool.false_ne_true
  unfold rclause
  dsimp only
  by_cases c1 : a < n ∧ f a = 97
  · have w1 : rword f n (a, false, P.map trc) = qByt.getD 1 [] := by unfold rword; rw [rnx_k, if_pos c1.1, if_pos c1.2]
    have x0 : rnx f n (a, false, P.map trc) = 97 := by rw [rnx_k, if_pos c1.1]; exact c1.2
    rw [if_pos (Or.inl x0), w1, if_pos x0]
    obtain ⟨C, L2, g1, g2, g3, g4, g5⟩ := main 1 0 qBw.1 (Or.inl rfl) (by unfold pw; rw [if_pos c1.1, if_pos c1.2]) (by unfold pwi; rw [if_pos c1.2])
    rw [if_pos rfl] at g2
    exact ⟨C, L2, z, g1, by rw [← g2], g3, g4, g5⟩
  · by_cases c2 : a < n ∧ f a = 99
    · have n97 : ¬ f a = 97 := fun q => c1 ⟨c2.1, q⟩
      have w1 : rword f n (a, false, P.map trc) = qByt.getD 2 [] := by unfold rword; rw [rnx_k, if_pos c2.1, if_neg n97, if_pos c2.2]
      have x0 : rnx f n (a, false, P.map trc) = 99 := by rw [rnx_k, if_pos c2.1]; exact c2.2
      rw [if_pos (Or.inr x0), w1, if_neg (by rw [x0]; decide)]
      obtain ⟨C, L2, g1, g2, g3, g4, g5⟩ := main 2 1 qBw.2.1 (Or.inr rfl) (by unfold pw; rw [if_pos c2.1, if_neg n97, if_pos c2.2]) (by unfold pwi; rw [if_neg n97, if_pos c2.2])
      rw [if_neg (by decide)] at g2
      exact ⟨C, L2, z, g1, by rw [← g2], g3, g4, g5⟩
    · have e : ∀ x : Int32, x ≠ -1 → (a < n → f a ≠ x) → ¬ rnx f n (a, false, P.map trc) = x := fun x hx hfx q => by
        rw [rnx_k] at q
        by_cases h : a < n
        · rw [if_pos h] at q; exact hfx h q
        · rw [if_neg h] at q; exact hx q.symm
      have n97 := e 97 (by decide) (fun h q => c1 ⟨h, q⟩)
      have n99 := e 99 (by decide) (fun h q => c2 ⟨h, q⟩)
      have w1 : rword f n (a, false, P.map trc) = qByt.getD 3 [] := by unfold rword; rw [if_neg n97, if_neg n99]
      rw [if_neg (fun q => q.elim n97 n99), w1]
      dsimp only
      by_cases c0 : a < n ∧ f a = 108
      · obtain ⟨t1, t2, t3, t4⟩ := take_sim (f := f) (n := n) (qByt.getD 3 []) a (P.map trc) P qBw.2.2
        have len := pall_len (f := f) (n := n) (qByt.getD 3 []) (a, P)
        have hw : pw f n a = 2 := by
          unfold pw
          rw [if_pos c0.1, c0.2, if_neg (by decide), if_neg (by decide), if_pos rfl]
        have hpi : pwi f a = 3 := by
          unfold pwi
          rw [c0.2, if_neg (by decide), if_neg (by decide)]
        unfold pcl at hok ⊢
        rw [hw, if_neg (by decide), hpi] at hok ⊢
        generalize hp : pall f n (qByt.getD 3 []) (a, P) = p at *
        obtain ⟨ok, b, Q⟩ := p
        simp only at t1 t3 t4 len hok ⊢
        generalize ht : rtake f n (qByt.getD 3 []) (a, false, P.map trc) = t at *
        obtain ⟨tb, tf, tC⟩ := t
        simp only at t1 t2 t3 t4
        subst t1; subst t2
        by_cases c : ok = true
        · have hQ : Q = P := len.1
          subst hQ
          rw [if_pos c] at hok ⊢
          rw [t3 c, rnum_k]
          by_cases c2' : (pnumL f n 2 0 0 tb).2.1 = 0
          · rw [if_pos c2'] at hok; exact absurd hok Bool.false_ne_true
          · rw [if_neg c2'] at hok ⊢
            rw [if_neg c2']
            unfold ptl
            rw [if_neg (by decide)]
            dsimp only
            refine ⟨Q, L, (pnumL f n 2 0 0 tb).1, rfl, rfl, Or.inl ⟨?_, ?_, z, ?_⟩, he, by omega⟩
            · unfold pB1; rw [qup_o (by decide), qup_o (by decide), qup_o (by decide), qup_at]
            · unfold pB1; rw [qup_o (by decide), qup_o (by decide), qup_at]
            · have := xCs.more (B := B) (B2 := qup (pB1 B cz (10 * h + m) 2 (pnumL f n 2 0 0 tb).1 ((pnumL f n 2 0 0 tb).2.2, Q)) 128 (10 * h + m) 0) [] m L z (fun a' j a1 a2 a3 a4 => by
                unfold pB1
                rw [qup_j (by omega), qup_j (by omega), qup_j (by omega), qup_j (by omega)]) hx
              rw [List.append_nil] at this
              exact this
        · rw [if_neg c] at hok; exact absurd hok Bool.false_ne_true
      · have hw : pw f n a = -1 := by
          unfold pw
          by_cases h : a < n
          · rw [if_pos h, if_neg (fun q => c1 ⟨h, q⟩), if_neg (fun q => c2 ⟨h, q⟩), if_neg (fun q => c0 ⟨h, q⟩)]
          · rw [if_neg h]
        unfold pcl at hok
        rw [hw, if_pos rfl] at hok
        exact absurd hok Bool.false_ne_true
/-- a text that is read: what both keep of it -/
theorem read_lst (hf : ∀ j, j < n → ∃ k, k < 128 ∧ f j = nI k) (hn : n ≤ 100) {h cz : Nat} : ∀ (k m : Nat) (B : qI) (a : Nat) (P : List Int32) (L : List (Int32 × Nat)) (z : Int32), P.length ≤ a → a ≤ n → m + k ≤ 9 → L.length ≤ m → xCs B cz h P m L z → xEnd L = P.length → (pisl f n h cz (k + 1) m B (a, P)).1 = true → ∃ (C : List Int32) (L2 : List (Int32 × Nat)) (z2 : Int32), (pisl f n h cz (k + 1) m B (a, P)).2.2.1.2 = C ∧ (rreadN f n k (rclause f n ((a, false, P.map trc), L, z))).1.2.2 = C.map trc ∧ (rreadN f n k (rclause f n ((a, false, P.map trc), L, z))).2 = (L2, z2) ∧ xCs (pisl f n h cz (k + 1) m B (a, P)).2.2.2 cz h C (pisl f n h cz (k + 1) m B (a, P)).2.1 L2 z2 ∧ L2.length ≤ (pisl f n h cz (k + 1) m B (a, P)).2.1 ∧ (pisl f n h cz (k + 1) m B (a, P)).2.1 ≤ 10 := by
  intro k
  induction k with
  | zero =>
    intro m B a P L z hP ha hmk hL hx he hok
    have hc := clause_sim hf hn (B := B) (cz := cz) (cc := 10 * h + m) (l := L) (z := z) hP ha
    have hl := clause_lst hf hn (B := B) (cz := cz) (h := h) (m := m) hP ha hL (by omega) hx he
    rw [rreadN]
    rw [pisl] at hok ⊢
    generalize pcl f n B cz (10 * h + m) (a, P) = r at *
    obtain ⟨ok, ⟨b, Q⟩, B2⟩ := r
    simp only at hc hl hok ⊢
    by_cases c : ok = true
    · have e := hc.ok c
      obtain ⟨C, L2, z2, rfl, g2, g3, g4, g5⟩ := hl c
      simp only at e
      rw [if_pos c] at hok ⊢
      by_cases c2 : b = n
      · rw [if_pos c2] at hok ⊢
        exact ⟨_, L2, z2, rfl, by rw [e], g2, g3, g5, by simp only; omega⟩
      · rw [if_neg c2, if_pos trivial] at hok
        exact absurd hok Bool.false_ne_true
    · rw [if_neg c] at hok; exact absurd hok Bool.false_ne_true
  | succ k ih =>
    intro m B a P L z hP ha hmk hL hx he hok
    have hc := clause_sim hf hn (B := B) (cz := cz) (cc := 10 * h + m) (l := L) (z := z) hP ha
    have gd := pcl_good (f := f) (n := n) (B := B) (cz := cz) (c := 10 * h + m) (s := (a, P))
    have hl := clause_lst hf hn (B := B) (cz := cz) (h := h) (m := m) hP ha hL (by omega) hx he
    rw [rreadN]
    rw [pisl] at hok ⊢
    unfold pgd at gd
    generalize pcl f n B cz (10 * h + m) (a, P) = r at *
    generalize rclause f n ((a, false, P.map trc), L, z) = R at *
    obtain ⟨ok, ⟨b, Q⟩, B2⟩ := r
    obtain ⟨R1, R2⟩ := R
    simp only at hc gd hl hok ⊢
    by_cases c : ok = true
    · have e := hc.ok c
      obtain ⟨C, L2, z2, rfl, g2, g3, g4, g5⟩ := hl c
      simp only at e g2
      subst e
      subst g2
      rw [if_pos c] at hok ⊢
      by_cases c2 : b = n
      · rw [if_pos c2] at hok ⊢
        rw [rnx_k, if_neg (show ¬ (if b < n then f b else -1) = 59 from fun q => by rw [if_neg (by omega)] at q; exact absurd q (by decide))]
        exact ⟨_, L2, z2, rfl, rfl, rfl, g3, g5, by simp only; omega⟩
      · rw [if_neg c2, if_neg (Nat.succ_ne_zero k)] at hok ⊢
        unfold pis at hok ⊢
        by_cases c3 : b < n ∧ f b = 59
        · rw [rnx_k, if_pos (show (if b < n then f b else -1) = 59 by rw [if_pos c3.1]; exact c3.2)]
          simp only [if_pos c3, if_true] at hok ⊢
          exact ih (m + 1) B2 (b + 1) Q L2 z2 (by omega) (by omega) (by omega) g5 g3 g4 hok
        · simp only [if_neg c3] at hok
          rw [if_neg Bool.false_ne_true] at hok
          exact absurd hok Bool.false_ne_true
    · rw [if_neg c] at hok; exact absurd hok Bool.false_ne_true
end W2b
