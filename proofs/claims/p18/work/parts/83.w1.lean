/-! what the text says of a clause: both count it alike -/
def pT (c : Int32) : Prop := ∃ l s n, l < 6 ∧ s < 3 ∧ n ≤ 99 ∧ c = nI (3 + 300 * l + 100 * s + n)
/-- codes of one expression; no more than D stand on the pile for it -/
def pEx (D : Nat) (w : List Int32) : Prop := ∀ P : Nat → List Int32 → Prop, (∀ c D, pT c → 1 ≤ D → P D [c]) → (∀ w D, P D w → P D (w ++ [0])) → (∀ a b x D D', P D a → P D' b → (x = 1 ∨ x = 2) → D' + 1 ≤ D → P D (a ++ b ++ [x])) → P D w
theorem pEx.test (c : Int32) (D : Nat) (h : pT c) (hD : 1 ≤ D) : pEx D [c] := fun P t _ _ => t c D h hD
theorem pEx.no (w : List Int32) (D : Nat) (h : pEx D w) : pEx D (w ++ [0]) := fun P t n o => n w D (h P t n o)
theorem pEx.two (a b : List Int32) (x : Int32) (D D' : Nat) (ha : pEx D a) (hb : pEx D' b) (hx : x = 1 ∨ x = 2) (hD : D' + 1 ≤ D) : pEx D (a ++ b ++ [x]) := fun P t n o => o a b x D D' (ha P t n o) (hb P t n o) hx hD
theorem pEx.ind {C : Nat → List Int32 → Prop} (t : ∀ c D, pT c → 1 ≤ D → C D [c]) (n : ∀ w D, pEx D w → C D w → C D (w ++ [0])) (o : ∀ a b x D D', pEx D a → pEx D' b → (x = 1 ∨ x = 2) → D' + 1 ≤ D → C D a → C D' b → C D (a ++ b ++ [x])) {D : Nat} {w : List Int32} (h : pEx D w) : C D w :=
  (h (fun D w => pEx D w ∧ C D w) (fun c D h1 h2 => ⟨pEx.test c D h1 h2, t c D h1 h2⟩) (fun w D h => ⟨pEx.no w D h.1, n w D h.1 h.2⟩) (fun a b x D D' ha hb hx hD => ⟨pEx.two a b x D D' ha.1 hb.1 hx hD, o a b x D D' ha.1 hb.1 hx hD ha.2 hb.2⟩)).2
theorem pEx.pos {D : Nat} {w : List Int32} (h : pEx D w) : 1 ≤ D := pEx.ind (C := fun D _ => 1 ≤ D) (fun _ _ _ hD => hD) (fun _ _ _ ih => ih) (fun _ _ _ _ _ _ _ _ _ ih _ => ih) h
theorem pEx.mono {D : Nat} {w : List Int32} (h : pEx D w) : ∀ {D2 : Nat}, D ≤ D2 → pEx D2 w := by
  have := pEx.ind (C := fun D w => ∀ D2, D ≤ D2 → pEx D2 w) (fun c D h hD D2 hd => pEx.test c D2 h (by omega)) (fun w D _ ih D2 hd => pEx.no w D2 (ih D2 hd)) (fun a b x D D' _ hb hx hD iha _ D2 hd => pEx.two a b x D2 D' (iha D2 hd) hb hx (by omega)) h
  exact fun {D2} hd => this D2 hd
def mrun (tv : Int32 → Int32) (w : List Int32) (l : List Int32) : List Int32 := w.foldl (fun l c => mstp tv c l) l
def crun (vs : Nat → Int32) (w : List Int32) (b : Int32) : Int32 := w.foldl (fun b x => qsoStep vs x b) b
def cbit (b : Int32) (i : Nat) : Bool := b.toBitVec.getLsbD i
theorem mrun_app {tv : Int32 → Int32} {a b l : List Int32} : mrun tv (a ++ b) l = mrun tv b (mrun tv a l) := List.foldl_append
theorem crun_app {vs : Nat → Int32} {a b : List Int32} {x : Int32} : crun vs (a ++ b) x = crun vs b (crun vs a x) := List.foldl_append
theorem cbit_not {b : Int32} : cbit (b ^^^ 1) 0 = !cbit b 0 ∧ ∀ i, cbit (b ^^^ 1) (i + 1) = cbit b (i + 1) := by
  have e : (b ^^^ 1).toBitVec = b.toBitVec ^^^ 1#32 := rfl
  unfold cbit
  rw [e]
  refine ⟨by simp [BitVec.getLsbD_xor], fun i => ?_⟩
  simp [BitVec.getLsbD_xor]
theorem cshr {b : Int32} : ((b.toUInt32 >>> ((1 : Int32).toUInt32 &&& Int32.toUInt32 31)).toInt32).toBitVec = b.toBitVec >>> 1 := by
  have h : (1 : Int32).toUInt32 &&& Int32.toUInt32 31 = 1 := by decide
  rw [h]
  rfl
theorem cshl {b : Int32} : (b <<< ((1 : Int32) &&& 31)).toBitVec = b.toBitVec <<< 1 := by
  have h : (1 : Int32) &&& 31 = 1 := by decide
  rw [h]
  rfl
theorem cbit_and {b : Int32} : cbit ((b.toUInt32 >>> ((1 : Int32).toUInt32 &&& Int32.toUInt32 31)).toInt32 &&& (-2 ||| (b &&& 1))) 0 = (cbit b 1 && cbit b 0) ∧ ∀ i, i < 31 → cbit ((b.toUInt32 >>> ((1 : Int32).toUInt32 &&& Int32.toUInt32 31)).toInt32 &&& (-2 ||| (b &&& 1))) (i + 1) = cbit b (i + 2) := by
  have e : ((b.toUInt32 >>> ((1 : Int32).toUInt32 &&& Int32.toUInt32 31)).toInt32 &&& (-2 ||| (b &&& 1))).toBitVec = (b.toBitVec >>> 1) &&& ((-2#32) ||| (b.toBitVec &&& 1#32)) := by
    rw [← cshr]; rfl
  unfold cbit
  rw [e]
  refine ⟨?_, fun i hi => ?_⟩
  · simp [BitVec.getLsbD_and, BitVec.getLsbD_or]
  · have h2 : (-2#32 : BitVec 32).getLsbD (i + 1) = true := by
      have : ∀ i, i < 31 → (-2#32 : BitVec 32).getLsbD (i + 1) = true := by decide
      exact this i hi
    have e3 : (b.toBitVec >>> 1).getLsbD (i + 1) = b.toBitVec.getLsbD (i + 2) := by rw [BitVec.getLsbD_ushiftRight]; congr 1; omega
    rw [BitVec.getLsbD_and, e3, BitVec.getLsbD_or, h2, Bool.true_or, Bool.and_true]
theorem cbit_or {b : Int32} : cbit ((b.toUInt32 >>> ((1 : Int32).toUInt32 &&& Int32.toUInt32 31)).toInt32 ||| (b &&& 1)) 0 = (cbit b 1 || cbit b 0) ∧ ∀ i, cbit ((b.toUInt32 >>> ((1 : Int32).toUInt32 &&& Int32.toUInt32 31)).toInt32 ||| (b &&& 1)) (i + 1) = cbit b (i + 2) := by
  have e : ((b.toUInt32 >>> ((1 : Int32).toUInt32 &&& Int32.toUInt32 31)).toInt32 ||| (b &&& 1)).toBitVec = (b.toBitVec >>> 1) ||| (b.toBitVec &&& 1#32) := by
    rw [← cshr]; rfl
  unfold cbit
  rw [e]
  refine ⟨?_, fun i => ?_⟩
  · simp [BitVec.getLsbD_and, BitVec.getLsbD_or]
  · have e3 : (b.toBitVec >>> 1).getLsbD (i + 1) = b.toBitVec.getLsbD (i + 2) := by rw [BitVec.getLsbD_ushiftRight]; congr 1; omega
    rw [BitVec.getLsbD_or, e3, BitVec.getLsbD_and]
    simp
theorem cbit_test {b y : Int32} : cbit ((b <<< ((1 : Int32) &&& 31)) ||| (if y = 0 then 0 else 1)) 0 = !decide (y = 0) ∧ ∀ i, i < 31 → cbit ((b <<< ((1 : Int32) &&& 31)) ||| (if y = 0 then 0 else 1)) (i + 1) = cbit b i := by
  have e : ∀ z : Int32, ((b <<< ((1 : Int32) &&& 31)) ||| z).toBitVec = (b.toBitVec <<< 1) ||| z.toBitVec := fun z => by
    rw [← cshl]; rfl
  unfold cbit
  rw [e]
  by_cases h : y = 0
  · rw [if_pos h]
    have z : (0 : Int32).toBitVec = 0#32 := rfl
    rw [z]
    refine ⟨by simp [h], fun i hi => ?_⟩
    simp [BitVec.getLsbD_or]; omega
  · rw [if_neg h]
    have z : (1 : Int32).toBitVec = 1#32 := rfl
    rw [z]
    refine ⟨by simp [BitVec.getLsbD_or, h], fun i hi => ?_⟩
    simp [BitVec.getLsbD_or]; omega
theorem vT {v : Int32} (h : qbool v) : (!decide (v = 0)) = decide (v = 1) := by
  rcases h with rfl | rfl <;> decide
theorem pT.ge {c : Int32} (h : pT c) : 3 ≤ c ∧ ¬ trc c = -1 ∧ ¬ trc c = -2 ∧ ¬ trc c = -3 ∧ ∃ x, x < 1800 ∧ c = nI (3 + x) ∧ trc c = nI x := by
  obtain ⟨l, s, n, hl, hs, hn, rfl⟩ := h
  have e : trc (nI (3 + 300 * l + 100 * s + n)) = nI (300 * l + 100 * s + n) := by
    have ne : ∀ b, b < 3 → ¬ nI (3 + 300 * l + 100 * s + n) = nI b := fun b hb q => by
      have := (nI_eq (by omega) (by omega)).mp q
      omega
    unfold trc
    rw [if_neg (show ¬ nI (3 + 300 * l + 100 * s + n) = 0 from ne 0 (by omega)), if_neg (show ¬ nI (3 + 300 * l + 100 * s + n) = 1 from ne 1 (by omega)), if_neg (show ¬ nI (3 + 300 * l + 100 * s + n) = 2 from ne 2 (by omega))]
    refine (nI_subk (b := 3) (by omega)).trans ?_
    congr 1
    omega
  have neg : ∀ x, x < 1800 → ¬ nI x < 0 := fun x hx => nI_pos (by omega)
  have nn : ∀ y : Int32, y < 0 → ¬ nI (300 * l + 100 * s + n) = y := fun y hy q => neg _ (by omega) (q ▸ hy)
  refine ⟨show nI 3 ≤ _ from nI_le (by omega) (by omega), ?_, ?_, ?_, 300 * l + 100 * s + n, by omega, by congr 1; omega, e⟩
  · rw [e]; exact nn _ (by decide)
  · rw [e]; exact nn _ (by decide)
  · rw [e]; exact nn _ (by decide)
theorem ex_run {tv : Int32 → Int32} {vs : Nat → Int32} (htv : ∀ c, pT c → tv c = qtestV vs (trc c)) {D : Nat} {w : List Int32} (h : pEx D w) : D ≤ 31 → ∃ v, qbool v ∧ (∀ l, mrun tv w l = v :: l) ∧ ∀ b, cbit (crun vs (w.map trc) b) 0 = decide (v = 1) ∧ ∀ i, i + D < 32 → cbit (crun vs (w.map trc) b) (i + 1) = cbit b i := by
  refine pEx.ind (C := fun D w => D ≤ 31 → ∃ v, qbool v ∧ (∀ l, mrun tv w l = v :: l) ∧ ∀ b, cbit (crun vs (w.map trc) b) 0 = decide (v = 1) ∧ ∀ i, i + D < 32 → cbit (crun vs (w.map trc) b) (i + 1) = cbit b i) (fun c D h hD => ?_) (fun w D h ih => ?_) (fun a b x D D' ha hb hx hD iha ihb => ?_) h
  · intro _
    obtain ⟨g1, g2, g3, g4, -⟩ := h.ge
    refine ⟨tv c, by rw [htv c h]; exact qtestV_b, fun l => ?_, fun b => ?_⟩
    · show mstp tv c l = _
      unfold mstp
      rw [if_pos g1]
    · have e : crun vs ([c].map trc) b = (b <<< ((1 : Int32) &&& 31)) ||| (if qtestV vs (trc c) = 0 then 0 else 1) := by
        show qsoStep vs (trc c) b = _
        unfold qsoStep
        rw [if_neg g2, if_neg g3, if_neg g4]
      rw [e]
      obtain ⟨t1, t2⟩ := cbit_test (b := b) (y := qtestV vs (trc c))
      exact ⟨by rw [t1, vT qtestV_b, htv c h], fun i hi => t2 i (by omega)⟩
  · intro h31
    obtain ⟨v, hv, m1, c1⟩ := ih h31
    refine ⟨if v = 0 then 1 else 0, by split; exact Or.inr rfl; exact Or.inl rfl, fun l => ?_, fun b => ?_⟩
    · rw [mrun_app, m1]
      show mstp tv 0 (v :: l) = _
      unfold mstp
      rw [if_neg (by decide), if_pos rfl]
    · rw [List.map_append, crun_app]
      obtain ⟨c0, ci⟩ := c1 b
      generalize crun vs (w.map trc) b = r at *
      have e : crun vs ([0].map trc) r = r ^^^ 1 := by
        show qsoStep vs (trc 0) r = _
        unfold qsoStep
        rw [if_pos (by decide)]
      rw [e]
      obtain ⟨t1, t2⟩ := cbit_not (b := r)
      refine ⟨?_, fun i hi => by rw [t2, ci i hi]⟩
      rw [t1, c0]
      rcases hv with rfl | rfl <;> decide
  · intro h31
    obtain ⟨v1, hv1, m1, c1⟩ := iha h31
    obtain ⟨v2, hv2, m2, c2⟩ := ihb (by omega)
    have hb1 := hb.pos
    refine ⟨mop x v1 v2, mop_b, fun l => ?_, fun y => ?_⟩
    · rw [mrun_app, mrun_app, m1, m2]
      show mstp tv x (v2 :: v1 :: l) = _
      unfold mstp
      rcases hx with rfl | rfl
      · rw [if_neg (by decide), if_neg (by decide)]
      · rw [if_neg (by decide), if_neg (by decide)]
    · rw [List.map_append, List.map_append, crun_app, crun_app]
      obtain ⟨a0, ai⟩ := c1 y
      generalize crun vs (a.map trc) y = r1 at *
      obtain ⟨b0, bi⟩ := c2 r1
      generalize crun vs (b.map trc) r1 = r2 at *
      have hi1 : ∀ i, i + D < 32 → cbit r2 (i + 2) = cbit y i := fun i hi => by
        rw [show i + 2 = (i + 1) + 1 by omega, bi (i + 1) (by omega), ai i hi]
      have h10 : cbit r2 1 = decide (v1 = 1) := by
        rw [show (1 : Nat) = 0 + 1 from rfl]
        rw [bi 0 (by omega), a0]
      rcases hx with rfl | rfl
      · have e : crun vs ([1].map trc) r2 = (r2.toUInt32 >>> ((1 : Int32).toUInt32 &&& Int32.toUInt32 31)).toInt32 &&& (-2 ||| (r2 &&& 1)) := by
          show qsoStep vs (trc 1) r2 = _
          unfold qsoStep
          rw [if_neg (by decide), if_pos (by decide)]
        rw [e]
        obtain ⟨t1, t2⟩ := cbit_and (b := r2)
        refine ⟨?_, fun i hi => by rw [t2 i (by omega), hi1 i hi]⟩
        rw [t1, h10, b0]
        rcases hv1 with rfl | rfl <;> rcases hv2 with rfl | rfl <;> decide
      · have e : crun vs ([2].map trc) r2 = (r2.toUInt32 >>> ((1 : Int32).toUInt32 &&& Int32.toUInt32 31)).toInt32 ||| (r2 &&& 1) := by
          show qsoStep vs (trc 2) r2 = _
          unfold qsoStep
          rw [if_neg (by decide), if_neg (by decide), if_pos (by decide)]
        rw [e]
        obtain ⟨t1, t2⟩ := cbit_or (b := r2)
        refine ⟨?_, fun i hi => by rw [t2 i, hi1 i hi]⟩
        rw [t1, h10, b0]
        rcases hv1 with rfl | rfl <;> rcases hv2 with rfl | rfl <;> decide
theorem mevl_run {tv : Int32 → Int32} {g : Nat → Int32} : ∀ (w : List Int32) (b : Nat) (l : List Int32), (∀ j, j < w.length → g (b + j) = w.getD j 0) → mevl tv g w.length b l = mrun tv w l := by
  intro w
  induction w with
  | nil => intro b l _; rfl
  | cons c w ih =>
    intro b l hg
    have h0 : g b = c := by have := hg 0 (by simp); simpa using this
    rw [List.length_cons, mevl, h0]
    show _ = mrun tv w (mstp tv c l)
    refine ih (b + 1) _ (fun j hj => ?_)
    have := hg (j + 1) (by simp; omega)
    rw [show b + 1 + j = b + (j + 1) by omega, this]; rfl
theorem qsoN_run {vs : Nat → Int32} {g : Nat → Int32} {a : Nat} : ∀ (m : Nat) (w : List Int32), m ≤ w.length → (∀ j, j < w.length → g (a + j) = w.getD j 0) → qsoN g vs a m = crun vs (w.take m) 0 := by
  intro m
  induction m with
  | zero => intro w _ _; rfl
  | succ m ih =>
    intro w hm hg
    rw [qsoN, ih w (by omega) hg, hg m (by omega)]
    have e : w.take (m + 1) = w.take m ++ [w.getD m 0] := by
      rw [List.take_add_one]
      congr 1
      rw [List.getD_eq_getElem?_getD, List.getElem?_eq_getElem (by omega)]; rfl
    rw [e, crun_app]; rfl
/-- a clause holds for both, or for neither -/
theorem clause_val {tv : Int32 → Int32} {vs g1 g2 : Nat → Int32} (htv : ∀ c, pT c → tv c = qtestV vs (trc c)) {w : List Int32} (h : pEx 31 w) {a b : Nat} (h1 : ∀ j, j < w.length → g1 (a + j) = trc (w.getD j 0)) (h2 : ∀ j, j < w.length → g2 (b + j) = w.getD j 0) : qisSo g1 vs a (a + w.length) = (mevl tv g2 w.length b []).reverse.getD 0 0 := by
  obtain ⟨v, hv, m1, c1⟩ := ex_run htv h (Nat.le_refl 31)
  rw [mevl_run w b [] h2, m1]
  unfold qisSo
  rw [show a + w.length - a = w.length by omega]
  have e : qsoN g1 vs a w.length = crun vs (w.map trc) 0 := by
    have := qsoN_run (vs := vs) (g := g1) (a := a) w.length (w.map trc) (by simp) (fun j hj => by
      rw [List.length_map] at hj
      rw [h1 j hj, List.getD_eq_getElem?_getD, List.getD_eq_getElem?_getD, List.getElem?_map, List.getElem?_eq_getElem hj]; rfl)
    rw [List.take_of_length_le (by simp)] at this
    exact this
  rw [e]
  have c0 := (c1 0).1
  generalize crun vs (w.map trc) 0 = r at *
  show _ = v
  have hb : (r &&& 1 = 1) ↔ cbit r 0 = true := by
    unfold cbit
    rw [← Int32.toBitVec_inj]
    have e2 : (r &&& 1).toBitVec = r.toBitVec &&& 1#32 := rfl
    have e3 : (1 : Int32).toBitVec = 1#32 := rfl
    rw [e2, e3]
    constructor
    · intro q
      have := congrArg (fun z => z.getLsbD 0) q
      simpa [BitVec.getLsbD_and] using this
    · intro q
      apply BitVec.eq_of_getLsbD_eq
      intro i hi
      rw [BitVec.getLsbD_and]
      by_cases z : i = 0
      · subst z; rw [q]; rfl
      · have : (1#32 : BitVec 32).getLsbD i = false := by simp [z]
        rw [this]; simp
  rcases hv with rfl | rfl
  · rw [if_neg]
    rw [hb, c0]; decide
  · rw [if_pos]
    rw [hb, c0]; decide
