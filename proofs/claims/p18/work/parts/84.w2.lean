/-! what the reference's reader codes is one expression; the clauses of both as lists -/
def pexE (D : Nat) (one : pSt → Bool × pSt) : Prop := ∀ s, ∃ w, (one s).2.2 = s.2 ++ w ∧ ((one s).1 = true → pEx D w)
section W2
variable {f : Nat → Int32} {n : Nat}
theorem ptest_ex (hf : ∀ j, j < n → ∃ k, k < 128 ∧ f j = nI k) : pexE 1 (ptest f n) := by
  intro s
  unfold ptest
  split
  · exact ⟨[], by simp, fun q => absurd q Bool.false_ne_true⟩
  · rename_i h1
    split
    · exact ⟨[], by simp, fun q => absurd q Bool.false_ne_true⟩
    · rename_i h2
      split
      · exact ⟨[], by simp, fun q => absurd q Bool.false_ne_true⟩
      · refine ⟨_, rfl, fun _ => pEx.test _ 1 ?_ (Nat.le_refl 1)⟩
        obtain ⟨l, l1, l2⟩ := plet_ok h1
        obtain ⟨g, g1, g2⟩ := plet_ok h2
        obtain ⟨v, v1, v2⟩ := pnum99 hf (s.1 + 2)
        have l3 : l < 6 := Nat.lt_of_lt_of_le l1 (by decide +kernel)
        have g3 : g < 3 := Nat.lt_of_lt_of_le g1 (by decide +kernel)
        refine ⟨l, g, v, l3, g3, v1, ?_⟩
        rw [l2, g2, v2, show (300 : Int32) = nI 300 from rfl, show (100 : Int32) = nI 100 from rfl, show (3 : Int32) = nI 3 from rfl, pk_mul, pk_mul, nI_add, nI_add, nI_add]
theorem ploop_ex {one : pSt → Bool × pSt} {c x : Int32} {D E : Nat} (hx : x = 1 ∨ x = 2) (hD : D + 1 ≤ E) (h : pexE D one) : ∀ (m : Nat) (s : pSt), ∃ w, (ploop f n one c x m s).2.2 = s.2 ++ w ∧ ((ploop f n one c x m s).1 = true → ∀ u, pEx E u → pEx E (u ++ w)) := by
  intro m
  induction m with
  | zero => intro s; exact ⟨[], by simp [ploop], fun _ u hu => by simpa using hu⟩
  | succ m ih =>
    intro s
    rw [ploop]
    split
    · obtain ⟨w1, a1, a2⟩ := h (s.1 + 1, s.2)
      split
      · rename_i q
        obtain ⟨w2, b1, b2⟩ := ih ((one (s.1 + 1, s.2)).2.1, (one (s.1 + 1, s.2)).2.2 ++ [x])
        refine ⟨w1 ++ ([x] ++ w2), ?_, fun z u hu => ?_⟩
        · rw [b1]; simp only [a1, List.append_assoc]
        · have := b2 z (u ++ w1 ++ [x]) (pEx.two u w1 x E D hu (a2 q) hx hD)
          simpa only [List.append_assoc] using this
      · rename_i q
        exact ⟨w1, a1, fun z => absurd z q⟩
    · exact ⟨[], by simp, fun _ u hu => by simpa using hu⟩
theorem psq_ex {one : pSt → Bool × pSt} {c x : Int32} {D E : Nat} (hx : x = 1 ∨ x = 2) (hD : D + 1 ≤ E) (h : pexE D one) : pexE E (psq f n one c x) := by
  intro s
  unfold psq
  obtain ⟨w1, a1, a2⟩ := h s
  split
  · rename_i q
    obtain ⟨w2, b1, b2⟩ := ploop_ex (f := f) (n := n) (c := c) hx hD h 101 (one s).2
    exact ⟨w1 ++ w2, by rw [b1, a1, List.append_assoc], fun z => b2 z w1 ((a2 q).mono (by omega))⟩
  · rename_i q
    exact ⟨w1, a1, fun z => absurd z q⟩
theorem pE_ex {one : pSt → Bool × pSt} {D : Nat} (h : pexE D one) : pexE (D + 2) (pE f n one) := psq_ex (D := D + 1) (Or.inr rfl) (by omega) (psq_ex (D := D) (Or.inl rfl) (by omega) h)
theorem pF_ex (hf : ∀ j, j < n → ∃ k, k < 128 ∧ f j = nI k) : ∀ k, pexE (1 + 2 * k) (pF f n k) := by
  intro k
  induction k with
  | zero => exact ptest_ex hf
  | succ k ih =>
    intro s
    rw [pF]
    split
    · obtain ⟨w1, a1, a2⟩ := ih (s.1 + 1, s.2)
      split
      · rename_i q
        exact ⟨w1 ++ [0], by simp only [a1, List.append_assoc], fun _ => pEx.no w1 _ ((a2 q).mono (by omega))⟩
      · rename_i q
        exact ⟨w1, a1, fun z => absurd z q⟩
    · split
      · obtain ⟨w1, a1, a2⟩ := pE_ex (f := f) (n := n) ih (s.1 + 1, s.2)
        split
        · rename_i q
          exact ⟨w1, by rw [pis_codes]; exact a1, fun _ => (a2 q).mono (by omega)⟩
        · rename_i q
          exact ⟨w1, a1, fun z => absurd z q⟩
      · obtain ⟨w1, a1, a2⟩ := ptest_ex hf s
        exact ⟨w1, a1, fun q => (a2 q).mono (by omega)⟩
end W2
/-- where the last of the clauses ends -/
def xEnd (L : List (Int32 × Nat)) : Nat := (L.getLast?.map (fun p => p.2)).getD 0
/-- the first m clauses of the h-th island in the reference's tables, and the class's list of them; codes P begin at cz -/
def xCs (B : qI) (cz h : Nat) (P : List Int32) : Nat → List (Int32 × Nat) → Int32 → Prop
  | 0, L, z => L = [] ∧ z = 0
  | m + 1, L, z =>
    (B 125 (10 * h + m) = 2 ∧ B 126 (10 * h + m) = z ∧ ∃ z0, xCs B cz h P m L z0) ∨
    ((B 125 (10 * h + m) = 0 ∨ B 125 (10 * h + m) = 1) ∧ ∃ (L0 : List (Int32 × Nat)) (u w y : List Int32), P = u ++ (w ++ y) ∧ pEx 31 w ∧ u.length = xEnd L0 ∧ B 127 (10 * h + m) = nI (cz + u.length) ∧ B 128 (10 * h + m) = nI w.length ∧ L = L0 ++ [((if B 125 (10 * h + m) = 0 then B 126 (10 * h + m) else -(B 126 (10 * h + m))), u.length + w.length)] ∧ xCs B cz h P m L0 z)
theorem xCs.more {B B2 : qI} {cz h : Nat} {P : List Int32} (Q : List Int32) : ∀ (m : Nat) (L : List (Int32 × Nat)) (z : Int32), (∀ a j, 125 ≤ a → a ≤ 128 → j < 10 * h + m → 10 * h ≤ j → B2 a j = B a j) → xCs B cz h P m L z → xCs B2 cz h (P ++ Q) m L z := by
  intro m
  induction m with
  | zero => intro L z _ hx; exact hx
  | succ m ih =>
    intro L z hB hx
    have ih' := fun L z => ih L z (fun a j a1 a2 a3 a4 => hB a j a1 a2 (by omega) a4)
    rcases hx with ⟨x1, x2, z0, x3⟩ | ⟨x1, L0, u, w, y, x2, x3, x4, x5, x6, x7, x8⟩
    · exact Or.inl ⟨by rw [hB 125 _ (by omega) (by omega) (by omega) (by omega)]; exact x1, by rw [hB 126 _ (by omega) (by omega) (by omega) (by omega)]; exact x2, z0, ih' L z0 x3⟩
    · refine Or.inr ⟨by rw [hB 125 _ (by omega) (by omega) (by omega) (by omega)]; exact x1, L0, u, w, y ++ Q, by rw [x2]; simp only [List.append_assoc], x3, x4, by rw [hB 127 _ (by omega) (by omega) (by omega) (by omega)]; exact x5, by rw [hB 128 _ (by omega) (by omega) (by omega) (by omega)]; exact x6, ?_, ih' L0 z x8⟩
      rw [hB 125 _ (by omega) (by omega) (by omega) (by omega), hB 126 _ (by omega) (by omega) (by omega) (by omega)]; exact x7
theorem xEnd_app {L : List (Int32 × Nat)} {p : Int32 × Nat} : xEnd (L ++ [p]) = p.2 := by
  unfold xEnd
  rw [List.getLast?_append]
  rfl
section W2b
variable {f : Nat → Int32} {n : Nat}
/-- a clause that is read: what both keep of it -/
theorem clause_lst (hf : ∀ j, j < n → ∃ k, k < 128 ∧ f j = nI k) (hn : n ≤ 100) {B : qI} {cz h m a : Nat} {P : List Int32} {L : List (Int32 × Nat)} {z : Int32} (hP : P.length ≤ a) (ha : a ≤ n) (hm : L.length ≤ m) (hm9 : m ≤ 9) (hx : xCs B cz h P m L z) (he : xEnd L = P.length) (hok : (pcl f n B cz (10 * h + m) (a, P)).1 = true) : ∃ (C : List Int32) (L2 : List (Int32 × Nat)) (z2 : Int32), (pcl f n B cz (10 * h + m) (a, P)).2.1.2 = C ∧ (rclause f n ((a, false, P.map trc), L, z)).2 = (L2, z2) ∧ xCs (pcl f n B cz (10 * h + m) (a, P)).2.2 cz h C (m + 1) L2 z2 ∧ xEnd L2 = C.length ∧ L2.length ≤ m + 1 := by
  have hE := either_sim hn (rst_one (f := f) (n := n) 4) (one_sim hf hn 4) (go_F 4)
  have hX := pE_ex (f := f) (n := n) (pF_ex hf 4)
  have main : ∀ (i : Nat) (w : Int32), (∀ c ∈ qByt.getD i [], c ≠ -1) → w = 0 ∨ w = 1 → pw f n a = w → pwi f a = i → ∃ (C : List Int32) (L2 : List (Int32 × Nat)), (pcl f n B cz (10 * h + m) (a, P)).2.1.2 = C ∧ (rendc (if w = 0 then (rnum f n (rtake f n (qByt.getD i []) (a, false, P.map trc))).1 else -(rnum f n (rtake f n (qByt.getD i []) (a, false, P.map trc))).1) (reither f n (rone f n 4) (rtake f n (qByt.getD 4 []) (rnum f n (rtake f n (qByt.getD i []) (a, false, P.map trc))).2)).2.2.length L) = L2 ∧ xCs (pcl f n B cz (10 * h + m) (a, P)).2.2 cz h C (m + 1) L2 z ∧ xEnd L2 = C.length ∧ L2.length ≤ m + 1 := by
    intro i w hi hw01 hw hpi
    obtain ⟨t1, t2, t3, t4⟩ := take_sim (f := f) (n := n) (qByt.getD i []) a (P.map trc) P hi
    have len := pall_len (f := f) (n := n) (qByt.getD i []) (a, P)
    have le := pall_le (f := f) (n := n) (qByt.getD i []) (a, P) ha
    have hw1 : ¬ w = -1 := by rcases hw01 with rfl | rfl <;> decide
    have hw2 : w < 2 := by rcases hw01 with rfl | rfl <;> decide
    unfold pcl at hok ⊢
    rw [hw, if_neg hw1, hpi] at hok ⊢
    generalize hp : pall f n (qByt.getD i []) (a, P) = p at *
    obtain ⟨ok, b, Q⟩ := p
    simp only at t1 t3 t4 len le hok ⊢
    generalize ht : rtake f n (qByt.getD i []) (a, false, P.map trc) = t at *
    obtain ⟨tb, tf, tC⟩ := t
    simp only at t1 t2 t3 t4
    subst t1; subst t2
    by_cases c : ok = true
    · have hQ : Q = P := len.1
      subst hQ
      rw [if_pos c] at hok ⊢
      rw [t3 c, rnum_k]
      have nle := pnumL_le (f := f) (n := n) 2 0 0 tb le
      have ng := pnumL_good (f := f) (n := n) 2 0 0 tb
      by_cases c2 : (pnumL f n 2 0 0 tb).2.1 = 0
      · rw [if_pos c2] at hok; exact absurd hok Bool.false_ne_true
      · rw [if_neg c2] at hok ⊢
        rw [if_neg c2]
        unfold ptl at hok ⊢
        rw [if_pos hw2] at hok ⊢
        rw [qB4]
        unfold pis at hok ⊢
        simp only at hok ⊢
        rw [take1 (by decide)]
        by_cases c3 : (pnumL f n 2 0 0 tb).2.2 < n ∧ f (pnumL f n 2 0 0 tb).2.2 = 32
        · rw [if_pos c3]
          simp only [if_pos c3, if_true] at hok ⊢
          have hr := hE ((pnumL f n 2 0 0 tb).2.2 + 1) Q (by simp only at len; omega) (by omega)
          obtain ⟨ww, e1, e2⟩ := hX ((pnumL f n 2 0 0 tb).2.2 + 1, Q)
          by_cases c4 : (pE f n (pF f n 4) ((pnumL f n 2 0 0 tb).2.2 + 1, Q)).1 = true
          · simp only [if_pos c4] at hok ⊢
            have es := hr.ok c4
            simp only at e1
            rw [es, e1]
            have hlen : L.length < 10 := by omega
            refine ⟨Q ++ ww, _, rfl, rfl, ?_, ?_, ?_⟩
            · unfold rendc
              rw [if_pos hlen]
              refine Or.inr ⟨?_, L, Q, ww, [], by simp, (e2 c4).mono (by omega), he.symm, ?_, ?_, ?_, ?_⟩
              · have : qup (pB1 B cz (10 * h + m) w (pnumL f n 2 0 0 tb).1 ((pnumL f n 2 0 0 tb).2.2, Q)) 128 (10 * h + m) (nI ((Q ++ ww).length - Q.length)) 125 (10 * h + m) = w := by
                  unfold pB1; rw [qup_o (by decide), qup_o (by decide), qup_o (by decide), qup_at]
                rw [this]; exact hw01
              · unfold pB1; rw [qup_o (by decide), qup_at]
              · rw [qup_at, List.length_append, Nat.add_sub_cancel_left]
              · have x5 : qup (pB1 B cz (10 * h + m) w (pnumL f n 2 0 0 tb).1 ((pnumL f n 2 0 0 tb).2.2, Q)) 128 (10 * h + m) (nI ((Q ++ ww).length - Q.length)) 125 (10 * h + m) = w := by
                  unfold pB1; rw [qup_o (by decide), qup_o (by decide), qup_o (by decide), qup_at]
                have x6 : qup (pB1 B cz (10 * h + m) w (pnumL f n 2 0 0 tb).1 ((pnumL f n 2 0 0 tb).2.2, Q)) 128 (10 * h + m) (nI ((Q ++ ww).length - Q.length)) 126 (10 * h + m) = (pnumL f n 2 0 0 tb).1 := by
                  unfold pB1; rw [qup_o (by decide), qup_o (by decide), qup_at]
                rw [x5, x6, List.length_map, List.length_append]
              · refine xCs.more ww m L z (fun a' j a1 a2 a3 a4 => ?_) hx
                unfold pB1
                rw [qup_j (by omega), qup_j (by omega), qup_j (by omega), qup_j (by omega)]
            · unfold rendc
              rw [if_pos hlen, xEnd_app]
              simp only [List.length_map]
            · unfold rendc
              rw [if_pos hlen, List.length_append]
              show _ + 1 ≤ _; omega
          · simp only [if_neg c4] at hok; exact absurd hok Bool.false_ne_true
        · simp only [if_neg c3] at hok
          rw [if_neg Bool.false_ne_true] at hok
          exact absurd hok Bool.false_ne_true
    · rw [if_neg c] at hok; exact absurd hok Bool.false_ne_true
  unfold rclause
  dsimp only
  by_cases c1 : a < n ∧ f a = 97
  · have w1 : rword f n (a, false, P.map trc) = qByt.getD 1 [] := by unfold rword; rw [rnx_k, if_pos c1.1, if_pos c1.2]
    have x0 : rnx f n (a, false, P.map trc) = 97 := by rw [rnx_k, if_pos c1.1]; exact c1.2
    rw [if_pos (Or.inl x0), w1, if_pos x0]
    obtain ⟨C, L2, g1, g2, g3, g4, g5⟩ := main 1 0 qBw.1 (Or.inl rfl) (by unfold pw; rw [if_pos c1.1, if_pos c1.2]) (by unfold pwi; rw [if_pos c1.2])
    rw [if_pos rfl] at g2
    exact ⟨C, L2, z, g1, by rw [← g2], g3, g4, g5⟩
  · by_cases c2 : a < n ∧ f a = 99
    · have n97 : ¬ f a = 97 := fun q => c1 ⟨c2.1, q⟩
      have w1 : rword f n (a, false, P.map trc) = qByt.getD 2 [] := by unfold rword; rw [rnx_k, if_pos c2.1, if_neg n97, if_pos c2.2]
      have x0 : rnx f n (a, false, P.map trc) = 99 := by rw [rnx_k, if_pos c2.1]; exact c2.2
      rw [if_pos (Or.inr x0), w1, if_neg (by rw [x0]; decide)]
      obtain ⟨C, L2, g1, g2, g3, g4, g5⟩ := main 2 1 qBw.2.1 (Or.inr rfl) (by unfold pw; rw [if_pos c2.1, if_neg n97, if_pos c2.2]) (by unfold pwi; rw [if_neg n97, if_pos c2.2])
      rw [if_neg (by decide)] at g2
      exact ⟨C, L2, z, g1, by rw [← g2], g3, g4, g5⟩
    · have e : ∀ x : Int32, x ≠ -1 → (a < n → f a ≠ x) → ¬ rnx f n (a, false, P.map trc) = x := fun x hx hfx q => by
        rw [rnx_k] at q
        by_cases h : a < n
        · rw [if_pos h] at q; exact hfx h q
        · rw [if_neg h] at q; exact hx q.symm
      have n97 := e 97 (by decide) (fun h q => c1 ⟨h, q⟩)
      have n99 := e 99 (by decide) (fun h q => c2 ⟨h, q⟩)
      have w1 : rword f n (a, false, P.map trc) = qByt.getD 3 [] := by unfold rword; rw [if_neg n97, if_neg n99]
      rw [if_neg (fun q => q.elim n97 n99), w1]
      dsimp only
      by_cases c0 : a < n ∧ f a = 108
      · obtain ⟨t1, t2, t3, t4⟩ := take_sim (f := f) (n := n) (qByt.getD 3 []) a (P.map trc) P qBw.2.2
        have len := pall_len (f := f) (n := n) (qByt.getD 3 []) (a, P)
        have hw : pw f n a = 2 := by
          unfold pw
          rw [if_pos c0.1, c0.2, if_neg (by decide), if_neg (by decide), if_pos rfl]
        have hpi : pwi f a = 3 := by
          unfold pwi
          rw [c0.2, if_neg (by decide), if_neg (by decide)]
        unfold pcl at hok ⊢
        rw [hw, if_neg (by decide), hpi] at hok ⊢
        generalize hp : pall f n (qByt.getD 3 []) (a, P) = p at *
        obtain ⟨ok, b, Q⟩ := p
        simp only at t1 t3 t4 len hok ⊢
        generalize ht : rtake f n (qByt.getD 3 []) (a, false, P.map trc) = t at *
        obtain ⟨tb, tf, tC⟩ := t
        simp only at t1 t2 t3 t4
        subst t1; subst t2
        by_cases c : ok = true
        · have hQ : Q = P := len.1
          subst hQ
          rw [if_pos c] at hok ⊢
          rw [t3 c, rnum_k]
          by_cases c2' : (pnumL f n 2 0 0 tb).2.1 = 0
          · rw [if_pos c2'] at hok; exact absurd hok Bool.false_ne_true
          · rw [if_neg c2'] at hok ⊢
            rw [if_neg c2']
            unfold ptl
            rw [if_neg (by decide)]
            dsimp only
            refine ⟨Q, L, (pnumL f n 2 0 0 tb).1, rfl, rfl, Or.inl ⟨?_, ?_, z, ?_⟩, he, by omega⟩
            · unfold pB1; rw [qup_o (by decide), qup_o (by decide), qup_o (by decide), qup_at]
            · unfold pB1; rw [qup_o (by decide), qup_o (by decide), qup_at]
            · have := xCs.more (B := B) (B2 := qup (pB1 B cz (10 * h + m) 2 (pnumL f n 2 0 0 tb).1 ((pnumL f n 2 0 0 tb).2.2, Q)) 128 (10 * h + m) 0) [] m L z (fun a' j a1 a2 a3 a4 => by
                unfold pB1
                rw [qup_j (by omega), qup_j (by omega), qup_j (by omega), qup_j (by omega)]) hx
              rw [List.append_nil] at this
              exact this
        · rw [if_neg c] at hok; exact absurd hok Bool.false_ne_true
      · have hw : pw f n a = -1 := by
          unfold pw
          by_cases h : a < n
          · rw [if_pos h, if_neg (fun q => c1 ⟨h, q⟩), if_neg (fun q => c2 ⟨h, q⟩), if_neg (fun q => c0 ⟨h, q⟩)]
          · rw [if_neg h]
        unfold pcl at hok
        rw [hw, if_pos rfl] at hok
        exact absurd hok Bool.false_ne_true
/-- a text that is read: what both keep of it -/
theorem read_lst (hf : ∀ j, j < n → ∃ k, k < 128 ∧ f j = nI k) (hn : n ≤ 100) {h cz : Nat} : ∀ (k m : Nat) (B : qI) (a : Nat) (P : List Int32) (L : List (Int32 × Nat)) (z : Int32), P.length ≤ a → a ≤ n → m + k ≤ 9 → L.length ≤ m → xCs B cz h P m L z → xEnd L = P.length → (pisl f n h cz (k + 1) m B (a, P)).1 = true → ∃ (C : List Int32) (L2 : List (Int32 × Nat)) (z2 : Int32), (pisl f n h cz (k + 1) m B (a, P)).2.2.1.2 = C ∧ (rreadN f n k (rclause f n ((a, false, P.map trc), L, z))).1.2.2 = C.map trc ∧ (rreadN f n k (rclause f n ((a, false, P.map trc), L, z))).2 = (L2, z2) ∧ xCs (pisl f n h cz (k + 1) m B (a, P)).2.2.2 cz h C (pisl f n h cz (k + 1) m B (a, P)).2.1 L2 z2 ∧ L2.length ≤ (pisl f n h cz (k + 1) m B (a, P)).2.1 ∧ (pisl f n h cz (k + 1) m B (a, P)).2.1 ≤ 10 := by
  intro k
  induction k with
  | zero =>
    intro m B a P L z hP ha hmk hL hx he hok
    have hc := clause_sim hf hn (B := B) (cz := cz) (cc := 10 * h + m) (l := L) (z := z) hP ha
    have hl := clause_lst hf hn (B := B) (cz := cz) (h := h) (m := m) hP ha hL (by omega) hx he
    rw [rreadN]
    rw [pisl] at hok ⊢
    generalize pcl f n B cz (10 * h + m) (a, P) = r at *
    obtain ⟨ok, ⟨b, Q⟩, B2⟩ := r
    simp only at hc hl hok ⊢
    by_cases c : ok = true
    · have e := hc.ok c
      obtain ⟨C, L2, z2, rfl, g2, g3, g4, g5⟩ := hl c
      simp only at e
      rw [if_pos c] at hok ⊢
      by_cases c2 : b = n
      · rw [if_pos c2] at hok ⊢
        exact ⟨_, L2, z2, rfl, by rw [e], g2, g3, g5, by simp only; omega⟩
      · rw [if_neg c2, if_pos trivial] at hok
        exact absurd hok Bool.false_ne_true
    · rw [if_neg c] at hok; exact absurd hok Bool.false_ne_true
  | succ k ih =>
    intro m B a P L z hP ha hmk hL hx he hok
    have hc := clause_sim hf hn (B := B) (cz := cz) (cc := 10 * h + m) (l := L) (z := z) hP ha
    have gd := pcl_good (f := f) (n := n) (B := B) (cz := cz) (c := 10 * h + m) (s := (a, P))
    have hl := clause_lst hf hn (B := B) (cz := cz) (h := h) (m := m) hP ha hL (by omega) hx he
    rw [rreadN]
    rw [pisl] at hok ⊢
    unfold pgd at gd
    generalize pcl f n B cz (10 * h + m) (a, P) = r at *
    generalize rclause f n ((a, false, P.map trc), L, z) = R at *
    obtain ⟨ok, ⟨b, Q⟩, B2⟩ := r
    obtain ⟨R1, R2⟩ := R
    simp only at hc gd hl hok ⊢
    by_cases c : ok = true
    · have e := hc.ok c
      obtain ⟨C, L2, z2, rfl, g2, g3, g4, g5⟩ := hl c
      simp only at e g2
      subst e
      subst g2
      rw [if_pos c] at hok ⊢
      by_cases c2 : b = n
      · rw [if_pos c2] at hok ⊢
        rw [rnx_k, if_neg (show ¬ (if b < n then f b else -1) = 59 from fun q => by rw [if_neg (by omega)] at q; exact absurd q (by decide))]
        exact ⟨_, L2, z2, rfl, rfl, rfl, g3, g5, by simp only; omega⟩
      · rw [if_neg c2, if_neg (Nat.succ_ne_zero k)] at hok ⊢
        unfold pis at hok ⊢
        by_cases c3 : b < n ∧ f b = 59
        · rw [rnx_k, if_pos (show (if b < n then f b else -1) = 59 by rw [if_pos c3.1]; exact c3.2)]
          simp only [if_pos c3, if_true] at hok ⊢
          exact ih (m + 1) B2 (b + 1) Q L2 z2 (by omega) (by omega) (by omega) g5 g3 g4 hok
        · simp only [if_neg c3] at hok
          rw [if_neg Bool.false_ne_true] at hok
          exact absurd hok Bool.false_ne_true
    · rw [if_neg c] at hok; exact absurd hok Bool.false_ne_true
end W2b
