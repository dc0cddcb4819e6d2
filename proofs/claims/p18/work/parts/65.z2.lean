/-! THE TEXT: what is joined, clauses, the whole -/
section Z2
variable {f : Nat → Int32} {n : Nat}
/-- the reference's way on from within a group of &: to its end, and through the groups that | joins -/
def xK (f : Nat → Int32) (n : Nat) (op : pSt → Bool × pSt) (j : Bool) (M M' : Nat) (s : pSt) : Bool × pSt :=
  if (ploop f n op 38 1 M s).1 = true then ploop f n (psq f n op 38 1) 124 2 M' ((ploop f n op 38 1 M s).2.1, if j = true then (ploop f n op 38 1 M s).2.2 ++ [2] else (ploop f n op 38 1 M s).2.2) else ploop f n op 38 1 M s
theorem ploop_st {op : pSt → Bool × pSt} {c x : Int32} {s : pSt} (h : ¬ (s.1 < n ∧ f s.1 = c)) : ∀ m, ploop f n op c x m s = (true, s) := by
  intro m
  cases m with
  | zero => rfl
  | succ m => rw [ploop, if_neg h]
theorem loop_sim {one : qSt → qSt} {op : pSt → Bool × pSt} (hn : n ≤ 100) (hs : xSim f n one op) (hg : xGo n op) : ∀ (m a : Nat) (P : List Int32) (M M' : Nat) (j : Bool), n - a < m → n - a < M → n - a < M' → P.length ≤ a → a ≤ n → (j = true → P.length + 1 ≤ a) → xRel (xK f n op j M M' (a, P)) (if (rloop f n one m j (a, false, P.map trc)).1 = true then rput (-3) (rloop f n one m j (a, false, P.map trc)).2 else (rloop f n one m j (a, false, P.map trc)).2) := by
  intro m
  induction m with
  | zero => intro a P M M' j h1; omega
  | succ m ih =>
    intro a P M M' j h1 h2 h3 hP ha hj
    obtain ⟨M, rfl⟩ : ∃ k, M = k + 1 := ⟨M - 1, by omega⟩
    obtain ⟨M', rfl⟩ : ∃ k, M' = k + 1 := ⟨M' - 1, by omega⟩
    rw [rloop, rnx_k]
    by_cases c1 : a < n ∧ f a = 38
    · rw [if_pos (show (if a < n then f a else -1) = 38 by rw [if_pos c1.1]; exact c1.2)]
      have hr := hs (a + 1) P (by omega) (by omega)
      have gd := hg.1 (a + 1, P)
      have bd := hg.2.2 (a + 1) P (by omega)
      have pg := hg.2.1 (a + 1) P
      have er : radv (a, false, P.map trc) = (a + 1, false, P.map trc) := rfl
      rw [er]
      unfold xK
      rw [ploop, if_pos c1]
      unfold pgd at gd
      simp only at gd bd pg
      generalize op (a + 1, P) = o at *
      obtain ⟨ok, b, Q⟩ := o
      simp only at gd bd pg hr ⊢
      by_cases c2 : ok = true
      · subst c2
        have e1 := hr.ok rfl
        simp only at e1
        have pb := pg rfl
        rw [e1, put_k (by omega) (show trc 1 = -2 by decide), if_pos rfl]
        have := ih b (Q ++ [1]) M (M' + 1) j (by omega) (by omega) (by omega) (by rw [List.length_append]; show _ + 1 ≤ _; omega) (by omega) (fun hh => by have := hj hh; rw [List.length_append]; show _ + 1 + 1 ≤ _; omega)
        unfold xK at this
        exact this
      · rw [if_neg c2]
        simp only [if_neg c2]
        have hb := hr.2.2 c2
        have fin := rst_fin (f := f) (n := n) (one := one) (m := m) (j := j) (s := rput (-2) (one (a + 1, false, P.map trc))) hb
        exact xRel.bad c2 (fin.1.trans hr.1) fin.2
    · rw [if_neg (show ¬ (if a < n then f a else -1) = 38 from fun q => by
        by_cases w : a < n
        · rw [if_pos w] at q; exact c1 ⟨w, q⟩
        · rw [if_neg w] at q; exact absurd q (by decide))]
      unfold xK
      rw [ploop_st (s := (a, P)) c1]
      simp only [if_true]
      by_cases c2 : a < n ∧ f a = 124
      · rw [if_pos (show (if a < n then f a else -1) = 124 by rw [if_pos c2.1]; exact c2.2)]
        have gen : ∀ (P' : List Int32), (if j = true then P ++ [2] else P) = P' → (if j = true then rput (-3) (radv (a, false, P.map trc)) else radv (a, false, P.map trc)) = (a + 1, false, P'.map trc) ∧ P'.length ≤ a := by
          intro P' e
          have er : radv (a, false, P.map trc) = (a + 1, false, P.map trc) := rfl
          by_cases w : j = true
          · have := hj w
            rw [if_pos w] at e ⊢
            subst e
            rw [er, put_k (by omega) (show trc 2 = -3 by decide), List.length_append]
            exact ⟨rfl, by show _ + 1 ≤ _; omega⟩
          · rw [if_neg w] at e ⊢
            subst e
            exact ⟨er, hP⟩
        obtain ⟨g1, g2⟩ := gen _ rfl
        generalize (if j = true then P ++ [2] else P) = P' at *
        rw [g1]
        rw [ploop, if_pos c2]
        have hr := hs (a + 1) P' (by omega) (by omega)
        have gd := hg.1 (a + 1, P')
        have bd := hg.2.2 (a + 1) P' (by omega)
        have pg := hg.2.1 (a + 1) P'
        unfold pgd at gd
        unfold psq
        simp only at gd bd pg ⊢
        generalize op (a + 1, P') = o at *
        obtain ⟨ok, b, Q⟩ := o
        simp only at gd bd pg hr ⊢
        by_cases c3 : ok = true
        · subst c3
          have e1 := hr.ok rfl
          simp only at e1
          have pb := pg rfl
          rw [e1]
          have := ih b Q 101 M' true (by omega) (by omega) (by omega) (by omega) (by omega) (fun _ => by omega)
          unfold xK psq at this
          simp only [if_true] at this ⊢
          exact this
        · simp only [if_neg c3]
          have hb := hr.2.2 c3
          have fin := rst_fin (f := f) (n := n) (one := one) (m := m) (j := true) (s := one (a + 1, false, P'.map trc)) hb
          exact xRel.bad c3 (fin.1.trans hr.1) fin.2
      · rw [if_neg (show ¬ (if a < n then f a else -1) = 124 from fun q => by
          by_cases w : a < n
          · rw [if_pos w] at q; exact c2 ⟨w, q⟩
          · rw [if_neg w] at q; exact absurd q (by decide))]
        rw [ploop_st (s := (a, if j = true then P ++ [2] else P)) c2]
        simp only
        by_cases w : j = true
        · have := hj w
          rw [if_pos w, if_pos w, put_k (by omega) (show trc 2 = -3 by decide)]
          exact ⟨rfl, fun _ => ⟨rfl, rfl⟩, fun h => absurd rfl h⟩
        · rw [if_neg w, if_neg w]
          exact ⟨rfl, fun _ => ⟨rfl, rfl⟩, fun h => absurd rfl h⟩
theorem either_sim {one : qSt → qSt} {op : pSt → Bool × pSt} (hn : n ≤ 100) (h1 : rst one) (hs : xSim f n one op) (hg : xGo n op) : xSim f n (reither f n one) (pE f n op) := by
  intro a P hP ha
  have hr := hs a P hP ha
  have gd := hg.1 (a, P)
  have bd := hg.2.2 a P ha
  have pg := hg.2.1 a P
  unfold pgd at gd
  have eK : pE f n op (a, P) = if (op (a, P)).1 = true then xK f n op false 101 101 (op (a, P)).2 else op (a, P) := by
    unfold pE psq xK
    by_cases c : (op (a, P)).1 = true
    · rw [if_pos c, if_pos c]
      by_cases c2 : (ploop f n op 38 1 101 (op (a, P)).2).1 = true
      · rw [if_pos c2, if_pos c2]; rfl
      · rw [if_neg c2, if_neg c2]
    · rw [if_neg c, if_neg c, if_neg c]
  rw [eK]
  unfold reither
  simp only at gd bd pg
  generalize op (a, P) = o at *
  obtain ⟨ok, b, Q⟩ := o
  simp only at gd bd pg hr ⊢
  by_cases c : ok = true
  · subst c
    have e1 := hr.ok rfl
    simp only at e1
    have pb := pg rfl
    rw [e1, if_pos rfl]
    exact loop_sim hn hs hg 100 b Q 101 101 false (by omega) (by omega) (by omega) (by omega) (by omega) (fun h => absurd h Bool.false_ne_true)
  · rw [if_neg c]
    have hb := hr.2.2 c
    have fin := rst_fin (f := f) (n := n) (one := one) (m := 100) (j := false) (s := one (a, false, P.map trc)) hb
    exact xRel.bad c (fin.1.trans hr.1) fin.2
theorem qB5 : qByt.getD 5 [] = [41] := rfl
theorem qB4 : qByt.getD 4 [] = [32] := rfl
theorem take1 {c : Int32} {a : Nat} {C : List Int32} (hc : c ≠ -1) : rtake f n [c] (a, false, C) = if a < n ∧ f a = c then (a + 1, false, C) else rbad (a, false, C) := by
  rw [rtake, if_neg (fun q => absurd q Bool.false_ne_true), rnx_k]
  by_cases h : a < n
  · rw [if_pos h]
    by_cases h2 : f a = c
    · rw [if_pos h2.symm, if_pos ⟨h, h2⟩]; rfl
    · rw [if_neg (fun q => h2 q.symm), if_neg (fun q => h2 q.2)]
  · rw [if_neg h, if_neg hc, if_neg (fun q => h q.1)]
theorem one_sim (hf : ∀ j, j < n → ∃ k, k < 128 ∧ f j = nI k) (hn : n ≤ 100) : ∀ k, xSim f n (rone f n k) (pF f n k) := by
  intro k
  induction k with
  | zero => exact test_sim hf hn
  | succ k ih =>
    have hE := either_sim hn (rst_one (f := f) (n := n) k) ih (go_F k)
    intro a P hP ha
    rw [rone, rnx_k, pF]
    by_cases c1 : a < n ∧ f a = 33
    · rw [if_pos (show (if a < n then f a else -1) = 33 by rw [if_pos c1.1]; exact c1.2), if_pos c1]
      have hr := ih (a + 1) P (by omega) (by omega)
      have gd := (go_F (f := f) (n := n) k).1 (a + 1, P)
      have bd := (go_F (f := f) (n := n) k).2.2 (a + 1) P (by omega)
      unfold pgd at gd
      have er : radv (a, false, P.map trc) = (a + 1, false, P.map trc) := rfl
      rw [er]
      simp only at gd bd ⊢
      generalize pF f n k (a + 1, P) = o at *
      obtain ⟨ok, b, Q⟩ := o
      simp only at gd bd hr ⊢
      by_cases c : ok = true
      · subst c
        have e1 := hr.ok rfl
        simp only at e1
        rw [e1, put_k (by omega) (show trc 0 = -1 by decide), if_pos rfl]
        exact ⟨rfl, fun _ => ⟨rfl, rfl⟩, fun h => absurd rfl h⟩
      · rw [if_neg c]
        exact xRel.bad c hr.1 (hr.2.2 c)
    · rw [if_neg (show ¬ (if a < n then f a else -1) = 33 from fun q => by
        by_cases w : a < n
        · rw [if_pos w] at q; exact c1 ⟨w, q⟩
        · rw [if_neg w] at q; exact absurd q (by decide)), if_neg c1]
      by_cases c2 : a < n ∧ f a = 40
      · rw [if_pos (show (if a < n then f a else -1) = 40 by rw [if_pos c2.1]; exact c2.2), if_pos c2]
        have hr := hE (a + 1) P (by omega) (by omega)
        have er : radv (a, false, P.map trc) = (a + 1, false, P.map trc) := rfl
        rw [er, qB5]
        simp only
        generalize pE f n (pF f n k) (a + 1, P) = o at *
        obtain ⟨ok, b, Q⟩ := o
        simp only at hr ⊢
        by_cases c : ok = true
        · subst c
          have e1 := hr.ok rfl
          simp only at e1
          rw [e1, take1 (by decide), if_pos rfl]
          unfold pis
          by_cases c3 : b < n ∧ f b = 41
          · rw [if_pos c3, if_pos c3]
            exact ⟨rfl, fun _ => ⟨rfl, rfl⟩, fun h => absurd rfl h⟩
          · rw [if_neg c3, if_neg c3]
            exact ⟨rfl, fun h => absurd h Bool.false_ne_true, fun _ => rfl⟩
        · rw [if_neg c]
          have hb := hr.2.2 c
          have tk := rst_take (f := f) (n := n) [41] _ hb
          exact xRel.bad c (tk.1.trans hr.1) tk.2
      · rw [if_neg (show ¬ (if a < n then f a else -1) = 40 from fun q => by
          by_cases w : a < n
          · rw [if_pos w] at q; exact c2 ⟨w, q⟩
          · rw [if_neg w] at q; exact absurd q (by decide)), if_neg c2]
        exact test_sim hf hn a P hP ha
theorem pall_le : ∀ (l : List Int32) (s : pSt), s.1 ≤ n → (pall f n l s).2.1 ≤ n := by
  intro l
  induction l with
  | nil => intro s h; exact h
  | cons c l ih =>
    intro s h
    rw [pall]
    split
    · rename_i c1; exact ih _ (by simp only; omega)
    · exact h
theorem qBw : (∀ c ∈ qByt.getD 1 [], c ≠ -1) ∧ (∀ c ∈ qByt.getD 2 [], c ≠ -1) ∧ ∀ c ∈ qByt.getD 3 [], c ≠ -1 := by decide
theorem rnum_st {s : qSt} (h : s.2.1 = true) : (rnum f n s).2.1 = s.1 ∧ (rnum f n s).2.2.1 = true := by rw [rnum_f h]; exact ⟨rfl, rfl⟩
theorem clause_sim (hf : ∀ j, j < n → ∃ k, k < 128 ∧ f j = nI k) (hn : n ≤ 100) {B : qI} {cz cc a : Nat} {P : List Int32} {l : List (Int32 × Nat)} {z : Int32} (hP : P.length ≤ a) (ha : a ≤ n) : xRel ((pcl f n B cz cc (a, P)).1, (pcl f n B cz cc (a, P)).2.1) (rclause f n ((a, false, P.map trc), l, z)).1 := by
  have hE := either_sim hn (rst_one (f := f) (n := n) 4) (one_sim hf hn 4) (go_F 4)
  have bad1 : ∀ s : qSt, s.2.1 = true → (reither f n (rone f n 4) (rtake f n (qByt.getD 4 []) (rnum f n s).2)).1 = s.1 ∧ (reither f n (rone f n 4) (rtake f n (qByt.getD 4 []) (rnum f n s).2)).2.1 = true := fun s hs => by
    obtain ⟨h1, h2⟩ := rnum_st (f := f) (n := n) hs
    obtain ⟨h3, h4⟩ := rst_take (f := f) (n := n) (qByt.getD 4 []) _ h2
    obtain ⟨h5, h6⟩ := rst_either (f := f) (n := n) (rst_one (f := f) (n := n) 4) _ h4
    exact ⟨h5.trans (h3.trans h1), h6⟩
  have bad2 : ∀ s : qSt, s.2.1 = true → (reither f n (rone f n 4) (rtake f n (qByt.getD 4 []) s)).1 = s.1 ∧ (reither f n (rone f n 4) (rtake f n (qByt.getD 4 []) s)).2.1 = true := fun s h2 => by
    obtain ⟨h3, h4⟩ := rst_take (f := f) (n := n) (qByt.getD 4 []) _ h2
    obtain ⟨h5, h6⟩ := rst_either (f := f) (n := n) (rst_one (f := f) (n := n) 4) _ h4
    exact ⟨h5.trans h3, h6⟩
  -- a clause of what aches or soothes
  have main : ∀ (i : Nat) (w : Int32), (∀ c ∈ qByt.getD i [], c ≠ -1) → w < 2 → pw f n a = w → ¬ w = -1 → pwi f a = i → xRel ((pcl f n B cz cc (a, P)).1, (pcl f n B cz cc (a, P)).2.1) (reither f n (rone f n 4) (rtake f n (qByt.getD 4 []) (rnum f n (rtake f n (qByt.getD i []) (a, false, P.map trc))).2)) := by
    intro i w hi w2 hw hw1 hpi
    obtain ⟨t1, t2, t3, t4⟩ := take_sim (f := f) (n := n) (qByt.getD i []) a (P.map trc) P hi
    have len := pall_len (f := f) (n := n) (qByt.getD i []) (a, P)
    have le : (pall f n (qByt.getD i []) (a, P)).1 = true → (pall f n (qByt.getD i []) (a, P)).2.1 ≤ n := fun _ => pall_le _ _ ha
    unfold pcl
    rw [hw, if_neg hw1, hpi]
    generalize hp : pall f n (qByt.getD i []) (a, P) = p at *
    obtain ⟨ok, b, Q⟩ := p
    simp only at t1 t3 t4 len le ⊢
    generalize ht : rtake f n (qByt.getD i []) (a, false, P.map trc) = t at *
    obtain ⟨tb, tf, tC⟩ := t
    simp only at t1 t2 t3 t4
    subst t1; subst t2
    by_cases c : ok = true
    · have hQ : Q = P := len.1
      subst hQ
      rw [t3 c, if_pos c]
      rw [rnum_k]
      have nle := pnumL_le (f := f) (n := n) 2 0 0 tb (le c)
      have ng := pnumL_good (f := f) (n := n) 2 0 0 tb
      by_cases c2 : (pnumL f n 2 0 0 tb).2.1 = 0
      · rw [if_pos c2, if_pos c2]
        obtain ⟨h1, h2⟩ := bad2 (rbad ((pnumL f n 2 0 0 tb).2.2, false, Q.map trc)) rfl
        exact xRel.bad Bool.false_ne_true h1 h2
      · rw [if_neg c2, if_neg c2]
        unfold ptl
        rw [if_pos w2, qB4]
        simp only
        rw [take1 (by decide)]
        unfold pis
        simp only
        by_cases c3 : (pnumL f n 2 0 0 tb).2.2 < n ∧ f (pnumL f n 2 0 0 tb).2.2 = 32
        · rw [if_pos c3]
          simp only [if_pos c3, if_true]
          have hr := hE ((pnumL f n 2 0 0 tb).2.2 + 1) Q (by simp only at len; omega) (by omega)
          by_cases c4 : (pE f n (pF f n 4) ((pnumL f n 2 0 0 tb).2.2 + 1, Q)).1 = true
          · simp only [if_pos c4]
            rw [show (true, (pE f n (pF f n 4) ((pnumL f n 2 0 0 tb).2.2 + 1, Q)).2) = pE f n (pF f n 4) ((pnumL f n 2 0 0 tb).2.2 + 1, Q) from Prod.ext c4.symm rfl]
            exact hr
          · simp only [if_neg c4]
            exact xRel.bad Bool.false_ne_true hr.1 (hr.2.2 c4)
        · rw [if_neg c3]
          simp only [if_neg c3]
          rw [if_neg Bool.false_ne_true]
          obtain ⟨h1, h2⟩ := rst_either (f := f) (n := n) (rst_one (f := f) (n := n) 4) (rbad ((pnumL f n 2 0 0 tb).2.2, false, Q.map trc)) rfl
          exact xRel.bad Bool.false_ne_true h1 h2
    · rw [if_neg c]
      obtain ⟨h1, h2⟩ := bad1 (tb, tf, P.map trc) (t4 c)
      exact xRel.bad Bool.false_ne_true h1 h2
  -- days that are lost, or no clause
  have other : ∀ (hh : ¬ (a < n ∧ (f a = 97 ∨ f a = 99))), xRel ((pcl f n B cz cc (a, P)).1, (pcl f n B cz cc (a, P)).2.1) (rnum f n (rtake f n (qByt.getD 3 []) (a, false, P.map trc))).2 := by
    intro hh
    obtain ⟨t1, t2, t3, t4⟩ := take_sim (f := f) (n := n) (qByt.getD 3 []) a (P.map trc) P qBw.2.2
    have len := pall_len (f := f) (n := n) (qByt.getD 3 []) (a, P)
    by_cases c0 : a < n ∧ f a = 108
    · have hw : pw f n a = 2 := by
        unfold pw
        rw [if_pos c0.1, c0.2, if_neg (by decide), if_neg (by decide), if_pos rfl]
      have hpi : pwi f a = 3 := by
        unfold pwi
        rw [c0.2, if_neg (by decide), if_neg (by decide)]
      unfold pcl
      rw [hw, if_neg (by decide), hpi]
      generalize hp : pall f n (qByt.getD 3 []) (a, P) = p at *
      obtain ⟨ok, b, Q⟩ := p
      simp only at t1 t3 t4 len ⊢
      generalize ht : rtake f n (qByt.getD 3 []) (a, false, P.map trc) = t at *
      obtain ⟨tb, tf, tC⟩ := t
      simp only at t1 t2 t3 t4
      subst t1; subst t2
      by_cases c : ok = true
      · have hQ : Q = P := len.1
        subst hQ
        rw [t3 c, if_pos c, rnum_k]
        by_cases c2 : (pnumL f n 2 0 0 tb).2.1 = 0
        · rw [if_pos c2, if_pos c2]
          exact xRel.bad Bool.false_ne_true rfl rfl
        · rw [if_neg c2, if_neg c2]
          unfold ptl
          rw [if_neg (by decide)]
          exact ⟨rfl, fun _ => ⟨rfl, rfl⟩, fun h => absurd rfl h⟩
      · rw [if_neg c]
        obtain ⟨h1, h2⟩ := rnum_st (f := f) (n := n) (s := (tb, tf, P.map trc)) (t4 c)
        exact xRel.bad Bool.false_ne_true h1 h2
    · have hw : pw f n a = -1 := by
        unfold pw
        by_cases h : a < n
        · rw [if_pos h, if_neg (fun q => hh ⟨h, Or.inl q⟩), if_neg (fun q => hh ⟨h, Or.inr q⟩), if_neg (fun q => c0 ⟨h, q⟩)]
        · rw [if_neg h]
      unfold pcl
      rw [hw, if_pos rfl]
      have e3 : qByt.getD 3 [] = 108 :: [111, 115, 116, 32] := rfl
      have et : rtake f n (qByt.getD 3 []) (a, false, P.map trc) = rbad (a, false, P.map trc) := by
        rw [e3, rtake, if_neg (fun q => absurd q Bool.false_ne_true), rnx_k, if_neg]
        intro q
        by_cases h : a < n
        · rw [if_pos h] at q; exact c0 ⟨h, q.symm⟩
        · rw [if_neg h] at q; exact absurd q (by decide)
      rw [et]
      obtain ⟨h1, h2⟩ := rnum_st (f := f) (n := n) (s := rbad (a, false, P.map trc)) rfl
      exact xRel.bad Bool.false_ne_true h1 h2
  unfold rclause
  dsimp only
  by_cases c1 : a < n ∧ f a = 97
  · have w1 : rword f n (a, false, P.map trc) = qByt.getD 1 [] := by unfold rword; rw [rnx_k, if_pos c1.1, if_pos c1.2]
    have x1 : rnx f n (a, false, P.map trc) = 97 ∨ rnx f n (a, false, P.map trc) = 99 := Or.inl (by rw [rnx_k, if_pos c1.1]; exact c1.2)
    rw [if_pos x1, w1]
    dsimp only
    exact main 1 0 qBw.1 (by decide) (by unfold pw; rw [if_pos c1.1, if_pos c1.2]) (by decide) (by unfold pwi; rw [if_pos c1.2])
  · by_cases c2 : a < n ∧ f a = 99
    · have n97 : ¬ f a = 97 := fun q => c1 ⟨c2.1, q⟩
      have w1 : rword f n (a, false, P.map trc) = qByt.getD 2 [] := by unfold rword; rw [rnx_k, if_pos c2.1, if_neg n97, if_pos c2.2]
      have x1 : rnx f n (a, false, P.map trc) = 97 ∨ rnx f n (a, false, P.map trc) = 99 := Or.inr (by rw [rnx_k, if_pos c2.1]; exact c2.2)
      rw [if_pos x1, w1]
      dsimp only
      exact main 2 1 qBw.2.1 (by decide) (by unfold pw; rw [if_pos c2.1, if_neg n97, if_pos c2.2]) (by decide) (by unfold pwi; rw [if_neg n97, if_pos c2.2])
    · have hh : ¬ (a < n ∧ (f a = 97 ∨ f a = 99)) := fun q => q.2.elim (fun w => c1 ⟨q.1, w⟩) (fun w => c2 ⟨q.1, w⟩)
      have e : ∀ x : Int32, x ≠ -1 → (a < n → f a ≠ x) → ¬ rnx f n (a, false, P.map trc) = x := fun x hx hfx q => by
        rw [rnx_k] at q
        by_cases h : a < n
        · rw [if_pos h] at q; exact hfx h q
        · rw [if_neg h] at q; exact hx q.symm
      have n97 := e 97 (by decide) (fun h q => c1 ⟨h, q⟩)
      have n99 := e 99 (by decide) (fun h q => c2 ⟨h, q⟩)
      have w1 : rword f n (a, false, P.map trc) = qByt.getD 3 [] := by unfold rword; rw [if_neg n97, if_neg n99]
      rw [if_neg (fun q => q.elim n97 n99), w1]
      dsimp only
      exact other hh
/-- the whole text -/
theorem read_sim (hf : ∀ j, j < n → ∃ k, k < 128 ∧ f j = nI k) (hn : n ≤ 100) {h cz : Nat} : ∀ (k m : Nat) (B : qI) (a : Nat) (P : List Int32) (l : List (Int32 × Nat)) (z : Int32), P.length ≤ a → a ≤ n → (rreadN f n k (rclause f n ((a, false, P.map trc), l, z))).1.1 = (pisl f n h cz (k + 1) m B (a, P)).2.2.1.1 ∧ ((pisl f n h cz (k + 1) m B (a, P)).1 = true ↔ (rreadN f n k (rclause f n ((a, false, P.map trc), l, z))).1.2.1 = false ∧ (rreadN f n k (rclause f n ((a, false, P.map trc), l, z))).1.1 = n) := by
  intro k
  induction k with
  | zero =>
    intro m B a P l z hP ha
    have hc := clause_sim hf hn (B := B) (cz := cz) (cc := 10 * h + m) (l := l) (z := z) hP ha
    rw [rreadN, pisl]
    generalize pcl f n B cz (10 * h + m) (a, P) = r at *
    obtain ⟨ok, ⟨b, Q⟩, B2⟩ := r
    simp only at hc ⊢
    by_cases c : ok = true
    · have e := hc.ok c
      simp only at e
      rw [if_pos c, e]
      by_cases c2 : b = n
      · rw [if_pos c2]; exact ⟨rfl, fun _ => ⟨rfl, c2⟩, fun _ => rfl⟩
      · rw [if_neg c2, if_pos trivial]
        exact ⟨rfl, fun q => absurd q Bool.false_ne_true, fun q => absurd q.2 c2⟩
    · rw [if_neg c]
      refine ⟨hc.1, fun q => absurd q Bool.false_ne_true, fun q => ?_⟩
      rw [hc.2.2 c] at q
      exact absurd q.1 (by decide)
  | succ k ih =>
    intro m B a P l z hP ha
    have hc := clause_sim hf hn (B := B) (cz := cz) (cc := 10 * h + m) (l := l) (z := z) hP ha
    have gd := pcl_good (f := f) (n := n) (B := B) (cz := cz) (c := 10 * h + m) (s := (a, P))
    rw [rreadN, pisl]
    unfold pgd at gd
    generalize pcl f n B cz (10 * h + m) (a, P) = r at *
    generalize rclause f n ((a, false, P.map trc), l, z) = R at *
    obtain ⟨ok, ⟨b, Q⟩, B2⟩ := r
    obtain ⟨R1, R2, R3⟩ := R
    simp only at hc gd ⊢
    by_cases c : ok = true
    · have e := hc.ok c
      simp only at e
      subst e
      rw [if_pos c, rnx_k]
      by_cases c2 : b = n
      · rw [if_pos c2, if_neg (show ¬ (if b < n then f b else -1) = 59 from fun q => by rw [if_neg (by omega)] at q; exact absurd q (by decide))]
        exact ⟨rfl, fun _ => ⟨rfl, c2⟩, fun _ => rfl⟩
      · rw [if_neg c2, if_neg (Nat.succ_ne_zero k)]
        unfold pis
        by_cases c3 : b < n ∧ f b = 59
        · rw [if_pos (show (if b < n then f b else -1) = 59 by rw [if_pos c3.1]; exact c3.2)]
          simp only [if_pos c3, if_true]
          exact ih (m + 1) B2 (b + 1) Q R2 R3 (by omega) (by omega)
        · rw [if_neg (show ¬ (if b < n then f b else -1) = 59 from fun q => by
            by_cases w : b < n
            · rw [if_pos w] at q; exact c3 ⟨w, q⟩
            · rw [if_neg w] at q; exact absurd q (by decide))]
          simp only [if_neg c3]
          rw [if_neg Bool.false_ne_true]
          exact ⟨rfl, fun q => absurd q Bool.false_ne_true, fun q => absurd q.2 c2⟩
    · have hb := hc.2.2 c
      rw [if_neg c, rnx_f hb, if_neg (by decide)]
      refine ⟨hc.1, fun q => absurd q Bool.false_ne_true, fun q => ?_⟩
      rw [hb] at q
      exact absurd q.1 (by decide)
theorem x_parse (hf : ∀ j, j < n → ∃ k, k < 128 ∧ f j = nI k) (hn : n ≤ 100) {h cz : Nat} {B : qI} : (rread f n).1.1 = (pisl f n h cz 10 0 B (0, [])).2.2.1.1 ∧ ((pisl f n h cz 10 0 B (0, [])).1 = true ↔ ¬ rok (rread f n) n = 0) := by
  obtain ⟨h1, h2⟩ := read_sim hf hn (h := h) (cz := cz) 9 0 B 0 [] [] 0 (Nat.le_refl _) (Nat.zero_le _)
  refine ⟨h1, h2.trans ?_⟩
  have e : rread f n = rreadN f n 9 (rclause f n ((0, false, List.map trc []), [], 0)) := rfl
  unfold rok
  rw [e]
  constructor
  · intro q; rw [if_pos q]; decide
  · intro q
    by_cases w : (rreadN f n 9 (rclause f n ((0, false, List.map trc []), [], 0))).1.2.1 = false ∧ (rreadN f n 9 (rclause f n ((0, false, List.map trc []), [], 0))).1.1 = n
    · exact w
    · rw [if_neg w] at q; exact absurd rfl q
end Z2
