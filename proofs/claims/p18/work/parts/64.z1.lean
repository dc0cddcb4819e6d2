/-! THE TEXT: the class's reader and the reference's tell the same -/
def trc (x : Int32) : Int32 := if x = 0 then -1 else if x = 1 then -2 else if x = 2 then -3 else x - 3
def xRel (r : Bool × pSt) (s : qSt) : Prop := s.1 = r.2.1 ∧ (r.1 = true → s.2.1 = false ∧ s.2.2 = r.2.2.map trc) ∧ (¬ r.1 = true → s.2.1 = true)
def rst (op : qSt → qSt) : Prop := ∀ s, s.2.1 = true → (op s).1 = s.1 ∧ (op s).2.1 = true
theorem xRel.ok {r : Bool × pSt} {s : qSt} (h : xRel r s) (hr : r.1 = true) : s = (r.2.1, false, r.2.2.map trc) := Prod.ext h.1 (Prod.ext (h.2.1 hr).1 (h.2.1 hr).2)
theorem xRel.bad {r : Bool × pSt} {s : qSt} (h1 : ¬ r.1 = true) (h2 : s.1 = r.2.1) (h3 : s.2.1 = true) : xRel r s := ⟨h2, fun h => absurd h h1, fun _ => h3⟩
section Z1
variable {f : Nat → Int32} {n : Nat}
theorem rnx_f {s : qSt} (h : s.2.1 = true) : rnx f n s = -1 := by
  unfold rnx
  rw [if_neg]
  intro q
  rw [h] at q
  exact absurd q.1 (by decide)
theorem rnx_k {a : Nat} {C : List Int32} : rnx f n (a, false, C) = if a < n then f a else -1 := by
  unfold rnx
  by_cases h : a < n
  · rw [if_pos ⟨rfl, h⟩, if_pos h]
  · rw [if_neg (fun q => h q.2), if_neg h]
theorem rst_take (l : List Int32) : rst (rtake f n l) := fun s h => by
  cases l with
  | nil => exact ⟨rfl, h⟩
  | cons c l => rw [rtake, if_pos h]; exact ⟨rfl, h⟩
theorem roneOf_f : ∀ (l : List Int32) (k : Nat) (s : qSt), (∀ c ∈ l, c ≠ -1) → s.2.1 = true → roneOf f n l k s = (0, rbad s) := by
  intro l
  induction l with
  | nil => intro k s _ _; rfl
  | cons c l ih =>
    intro k s hl h
    rw [roneOf, rnx_f h, if_neg (hl c (List.mem_cons_self))]
    exact ih (k + 1) s (fun c hc => hl c (List.mem_cons_of_mem _ hc)) h
theorem rnum_f {s : qSt} (h : s.2.1 = true) : rnum f n s = (0, rbad s) := by
  have e : rnumL f n 2 0 0 s = (0, 0, s) := by rw [rnumL, rnx_f h, if_neg (by decide)]
  unfold rnum
  rw [e, if_pos rfl]
theorem qB0 : ∀ c ∈ qByt.getD 0 [], c ≠ -1 := by decide
theorem qB6 : ∀ c ∈ qByt.getD 6 [], c ≠ -1 := by decide
theorem rst_test : rst (rtest f n) := fun s h => by
  unfold rtest
  rw [roneOf_f _ 0 s qB0 h]
  simp only
  rw [roneOf_f _ 0 (rbad s) qB6 rfl]
  simp only
  rw [rnum_f (s := rbad (rbad s)) rfl]
  exact ⟨rfl, rfl⟩
theorem rst_loop {one : qSt → qSt} (m : Nat) (j : Bool) (s : qSt) (h : s.2.1 = true) : rloop f n one m j s = (j, s) := by
  cases m with
  | zero => rfl
  | succ m => rw [rloop, rnx_f h, if_neg (by decide), if_neg (by decide)]
theorem rst_fin {one : qSt → qSt} {m : Nat} {j : Bool} {s : qSt} (h : s.2.1 = true) : (if (rloop f n one m j s).1 = true then rput (-3) (rloop f n one m j s).2 else (rloop f n one m j s).2).1 = s.1 ∧ (if (rloop f n one m j s).1 = true then rput (-3) (rloop f n one m j s).2 else (rloop f n one m j s).2).2.1 = true := by
  rw [rst_loop m j s h]
  simp only
  split
  · exact ⟨rfl, h⟩
  · exact ⟨rfl, h⟩
theorem rst_either {one : qSt → qSt} (h1 : rst one) : rst (reither f n one) := fun s h => by
  obtain ⟨a, b⟩ := h1 s h
  have := rst_fin (f := f) (n := n) (one := one) (m := 100) (j := false) b
  rw [a] at this
  exact this
theorem rst_one : ∀ k, rst (rone f n k) := by
  intro k s h
  cases k with
  | zero => exact rst_test s h
  | succ k => rw [rone, rnx_f h, if_neg (by decide), if_neg (by decide)]; exact rst_test s h
theorem take_sim : ∀ (l : List Int32) (a : Nat) (C : List Int32) (P : List Int32), (∀ c ∈ l, c ≠ -1) → (rtake f n l (a, false, C)).1 = (pall f n l (a, P)).2.1 ∧ (rtake f n l (a, false, C)).2.2 = C ∧ ((pall f n l (a, P)).1 = true → (rtake f n l (a, false, C)).2.1 = false) ∧ (¬ (pall f n l (a, P)).1 = true → (rtake f n l (a, false, C)).2.1 = true) := by
  intro l
  induction l with
  | nil => intro a C P _; exact ⟨rfl, rfl, fun _ => rfl, fun h => absurd rfl h⟩
  | cons c l ih =>
    intro a C P hl
    rw [rtake, if_neg (fun q => absurd q Bool.false_ne_true), rnx_k, pall]
    by_cases h : a < n
    · rw [if_pos h]
      by_cases h2 : f a = c
      · rw [if_pos h2.symm, if_pos ⟨h, h2⟩]
        exact ih (a + 1) C P (fun c hc => hl c (List.mem_cons_of_mem _ hc))
      · rw [if_neg (fun q => h2 q.symm), if_neg (fun q => h2 q.2)]
        exact ⟨rfl, rfl, fun q => absurd q Bool.false_ne_true, fun _ => rfl⟩
    · rw [if_neg h, if_neg (hl c (List.mem_cons_self)), if_neg (fun q => h q.1)]
      exact ⟨rfl, rfl, fun q => absurd q Bool.false_ne_true, fun _ => rfl⟩
theorem oneOf_sim : ∀ (l : List Int32) (k a : Nat) (C : List Int32), (∀ c ∈ l, 0 < c) → k + l.length < 100 → roneOf f n l k (a, false, C) = if (if a < n ∧ 0 < f a then pfd l k (f a) else -1) < 0 then (0, rbad (a, false, C)) else ((if a < n ∧ 0 < f a then pfd l k (f a) else -1), radv (a, false, C)) := by
  intro l
  induction l with
  | nil =>
    intro k a C _ _
    have : (if a < n ∧ 0 < f a then pfd [] k (f a) else (-1 : Int32)) < 0 := by
      split
      · show (-1 : Int32) < 0; decide
      · decide
    rw [if_pos this]; rfl
  | cons c l ih =>
    intro k a C hl hk
    have hc := hl c (List.mem_cons_self)
    rw [List.length_cons] at hk
    have ih' := ih (k + 1) a C (fun c hc => hl c (List.mem_cons_of_mem _ hc)) (by omega)
    rw [roneOf, rnx_k]
    by_cases h : a < n ∧ 0 < f a
    · rw [if_pos h.1]
      simp only [if_pos h] at ih' ⊢
      rw [pfd]
      by_cases h2 : c = f a
      · rw [if_pos h2, if_pos h2, if_neg (nI_pos (by omega) : ¬ nI k < 0)]
      · rw [if_neg h2, if_neg h2]; exact ih'
    · have hne : ¬ c = (if a < n then f a else -1) := by
        intro q
        by_cases h1 : a < n
        · rw [if_pos h1] at q
          exact h ⟨h1, q ▸ hc⟩
        · rw [if_neg h1] at q
          rw [q] at hc
          exact absurd hc (by decide)
      rw [if_neg hne]
      simp only [if_neg h] at ih' ⊢
      exact ih'
theorem num_sim : ∀ (m : Nat) (v : Int32) (k a : Nat) (C : List Int32), rnumL f n m v k (a, false, C) = ((pnumL f n m v k a).1, (pnumL f n m v k a).2.1, ((pnumL f n m v k a).2.2, false, C)) := by
  intro m
  induction m with
  | zero => intro v k a C; rfl
  | succ m ih =>
    intro v k a C
    rw [rnumL, rnx_k, pnumL]
    by_cases h : a < n
    · rw [if_pos h]
      by_cases h2 : 48 ≤ f a ∧ f a ≤ 57
      · rw [if_pos h2, if_pos ⟨h, h2⟩]
        exact ih _ _ _ _
      · rw [if_neg h2, if_neg (fun q => h2 q.2)]
    · rw [if_neg h, if_neg (fun q => absurd q.1 (by decide)), if_neg (fun q => h q.1)]
theorem rnum_k {a : Nat} {C : List Int32} : rnum f n (a, false, C) = if (pnumL f n 2 0 0 a).2.1 = 0 then ((pnumL f n 2 0 0 a).1, rbad ((pnumL f n 2 0 0 a).2.2, false, C)) else ((pnumL f n 2 0 0 a).1, ((pnumL f n 2 0 0 a).2.2, false, C)) := by
  unfold rnum
  rw [num_sim]
theorem nI_subk {a b : Nat} (h : b ≤ a) : nI a - nI b = nI (a - b) := by
  have := nI_add (a - b) b
  rw [show a - b + b = a by omega] at this
  rw [← this]; exact Int32.add_sub_cancel _ _
theorem dig {v d : Nat} (h1 : 48 ≤ d) : 10 * nI v + nI d - 48 = nI (10 * v + d - 48) := by
  have e : 10 * nI v + nI d = nI (10 * v + d) := by
    show Int32.ofNat 10 * Int32.ofNat v + Int32.ofNat d = Int32.ofNat (10 * v + d)
    rw [Int32.ofNat_add, Int32.ofNat_mul]
  rw [e]
  exact nI_subk (b := 48) (by omega)
theorem num_val (hf : ∀ j, j < n → ∃ k, k < 128 ∧ f j = nI k) (a : Nat) : ∃ w, w ≤ 99 ∧ (pnumL f n 2 0 0 a).1 = nI w := by
  have one : ∀ b, b < n ∧ 48 ≤ f b ∧ f b ≤ 57 → ∃ d, 48 ≤ d ∧ d ≤ 57 ∧ f b = nI d := fun b hb => by
    obtain ⟨k, k1, k2⟩ := hf b hb.1
    have h1 := hb.2.1
    have h2 := hb.2.2
    rw [k2] at h1 h2
    exact ⟨k, (nI_leI (a := 48) (by omega) (by omega)).mp h1, (nI_leI (b := 57) (by omega) (by omega)).mp h2, k2⟩
  rw [pnumL]
  by_cases c1 : a < n ∧ 48 ≤ f a ∧ f a ≤ 57
  · rw [if_pos c1]
    obtain ⟨d, d1, d2, d3⟩ := one a c1
    have e1 : 10 * (0 : Int32) + f a - 48 = nI (d - 48) := by
      have := dig (v := 0) d1
      rw [d3]; rw [show 10 * 0 + d - 48 = d - 48 by omega] at this; exact this
    rw [e1, pnumL]
    by_cases c2 : a + 1 < n ∧ 48 ≤ f (a + 1) ∧ f (a + 1) ≤ 57
    · rw [if_pos c2]
      obtain ⟨g, g1, g2, g3⟩ := one (a + 1) c2
      exact ⟨10 * (d - 48) + g - 48, by omega, by rw [pnumL, g3]; exact dig g1⟩
    · rw [if_neg c2]; exact ⟨d - 48, by omega, rfl⟩
  · rw [if_neg c1]; exact ⟨0, by omega, rfl⟩
theorem trc_test {l s w : Nat} (hl : l ≤ 5) (hs : s ≤ 2) (hw : w ≤ 99) : trc (3 + 300 * nI l + 100 * nI s + nI w) = (nI l * 3 + nI s) * 100 + nI w := by
  have e : (3 : Int32) + 300 * nI l + 100 * nI s + nI w = nI (3 + 300 * l + 100 * s + w) := by
    show Int32.ofNat 3 + Int32.ofNat 300 * Int32.ofNat l + Int32.ofNat 100 * Int32.ofNat s + Int32.ofNat w = Int32.ofNat (3 + 300 * l + 100 * s + w)
    rw [Int32.ofNat_add, Int32.ofNat_add, Int32.ofNat_add, Int32.ofNat_mul, Int32.ofNat_mul]
  have e2 : (nI l * 3 + nI s) * 100 + nI w = nI ((l * 3 + s) * 100 + w) := by
    show (Int32.ofNat l * Int32.ofNat 3 + Int32.ofNat s) * Int32.ofNat 100 + Int32.ofNat w = Int32.ofNat ((l * 3 + s) * 100 + w)
    rw [Int32.ofNat_add, Int32.ofNat_mul, Int32.ofNat_add, Int32.ofNat_mul]
  have ne : ∀ b, b < 3 → ¬ nI (3 + 300 * l + 100 * s + w) = nI b := fun b hb q => by
    have := (nI_eq (by omega) (by omega)).mp q
    omega
  unfold trc
  rw [e, e2, if_neg (show ¬ nI (3 + 300 * l + 100 * s + w) = 0 from ne 0 (by omega)), if_neg (show ¬ nI (3 + 300 * l + 100 * s + w) = 1 from ne 1 (by omega)), if_neg (show ¬ nI (3 + 300 * l + 100 * s + w) = 2 from ne 2 (by omega))]
  refine (nI_subk (b := 3) (by omega)).trans ?_
  congr 1
  omega
def xSim (f : Nat → Int32) (n : Nat) (one : qSt → qSt) (op : pSt → Bool × pSt) : Prop := ∀ (a : Nat) (P : List Int32), P.length ≤ a → a ≤ n → xRel (op (a, P)) (one (a, false, P.map trc))
theorem put_k {x y : Int32} {a : Nat} {P : List Int32} (h : P.length < 100) (e : trc y = x) : rput x (a, false, P.map trc) = (a, false, (P ++ [y]).map trc) := by
  unfold rput
  simp only [List.length_map]
  rw [if_pos h, List.map_append, ← e]; rfl
theorem qBp0 : ∀ c ∈ qByt.getD 0 [], 0 < c := by decide
theorem qBp6 : ∀ c ∈ qByt.getD 6 [], 0 < c := by decide
theorem test_sim (hf : ∀ j, j < n → ∃ k, k < 128 ∧ f j = nI k) (hn : n ≤ 100) : xSim f n (rtest f n) (ptest f n) := by
  intro a P hP ha
  have o1 : roneOf f n (qByt.getD 0 []) 0 (a, false, P.map trc) = if plet f n 0 a < 0 then (0, rbad (a, false, P.map trc)) else (plet f n 0 a, radv (a, false, P.map trc)) := oneOf_sim _ 0 a _ qBp0 (by decide)
  unfold ptest rtest
  by_cases h1 : plet f n 0 a < 0
  · rw [if_pos h1] at o1 ⊢
    rw [o1]
    simp only
    rw [roneOf_f _ 0 (rbad _) qB6 rfl]
    simp only
    rw [rnum_f (s := rbad (rbad _)) rfl]
    exact ⟨rfl, fun h => absurd h Bool.false_ne_true, fun _ => rfl⟩
  rw [if_neg h1] at o1 ⊢
  rw [o1]
  simp only
  have o2 : roneOf f n (qByt.getD 6 []) 0 (radv (a, false, P.map trc)) = if plet f n 6 (a + 1) < 0 then (0, rbad (a + 1, false, P.map trc)) else (plet f n 6 (a + 1), radv (a + 1, false, P.map trc)) := oneOf_sim _ 0 (a + 1) _ qBp6 (by decide)
  by_cases h2 : plet f n 6 (a + 1) < 0
  · rw [if_pos h2] at o2 ⊢
    rw [o2]
    simp only
    rw [rnum_f (s := rbad _) rfl]
    exact ⟨rfl, fun h => absurd h Bool.false_ne_true, fun _ => rfl⟩
  rw [if_neg h2] at o2 ⊢
  rw [o2]
  simp only
  have o3 : rnum f n (radv (a + 1, false, P.map trc)) = if (pnumL f n 2 0 0 (a + 2)).2.1 = 0 then ((pnumL f n 2 0 0 (a + 2)).1, rbad ((pnumL f n 2 0 0 (a + 2)).2.2, false, P.map trc)) else ((pnumL f n 2 0 0 (a + 2)).1, ((pnumL f n 2 0 0 (a + 2)).2.2, false, P.map trc)) := rnum_k
  by_cases h3 : (pnumL f n 2 0 0 (a + 2)).2.1 = 0
  · rw [if_pos h3] at o3 ⊢
    rw [o3]
    exact ⟨rfl, fun h => absurd h Bool.false_ne_true, fun _ => rfl⟩
  rw [if_neg h3] at o3 ⊢
  rw [o3]
  simp only
  obtain ⟨l, l1, l2⟩ := plet_ok h1
  obtain ⟨s, s1, s2⟩ := plet_ok h2
  obtain ⟨w, w1, w2⟩ := num_val hf (a + 2)
  have lt := plet_lt (f := f) (n := n) (i := 6) (a := a + 1) (Int32.not_lt.mp h2)
  have ll : (qByt.getD 0 []).length = 6 := by decide
  have l6 : (qByt.getD 6 []).length = 3 := by decide
  rw [l2, s2, w2, put_k (by omega) (trc_test (by omega) (by omega) w1)]
  exact ⟨rfl, fun _ => ⟨rfl, rfl⟩, fun h => absurd rfl h⟩
/-- it goes on, and not beyond the end -/
def xGo (n : Nat) (op : pSt → Bool × pSt) : Prop := pgood op ∧ (∀ a P, (op (a, P)).1 = true → a < (op (a, P)).2.1) ∧ ∀ a P, a ≤ n → (op (a, P)).2.1 ≤ n
theorem pnumL_le : ∀ (m : Nat) (v : Int32) (k a : Nat), a ≤ n → (pnumL f n m v k a).2.2 ≤ n := by
  intro m
  induction m with
  | zero => intro v k a h; exact h
  | succ m ih =>
    intro v k a h
    rw [pnumL]
    split
    · rename_i c; exact ih _ _ _ (by omega)
    · exact h
theorem go_test : xGo n (ptest f n) := by
  refine ⟨ptest_good, fun a P h => ?_, fun a P ha => ?_⟩
  · have g := pnumL_good (f := f) (n := n) 2 0 0 (a + 2)
    unfold ptest at h ⊢
    split at h
    · exact absurd h Bool.false_ne_true
    · rename_i c1
      split at h
      · exact absurd h Bool.false_ne_true
      · rename_i c2
        split at h
        · exact absurd h Bool.false_ne_true
        · rename_i c3
          rw [if_neg c1, if_neg c2, if_neg c3]
          simp only
          omega
  · unfold ptest
    split
    · exact ha
    · rename_i c1
      have l1 := plet_lt (f := f) (n := n) (i := 0) (a := a) (Int32.not_lt.mp c1)
      split
      · simp only; omega
      · rename_i c2
        have l2 := plet_lt (f := f) (n := n) (i := 6) (a := a + 1) (Int32.not_lt.mp c2)
        have := pnumL_le (f := f) (n := n) 2 0 0 (a + 2) (by omega)
        split
        · exact this
        · exact this
theorem go_loop {op : pSt → Bool × pSt} {c x : Int32} (h : xGo n op) : ∀ (m a : Nat) (P : List Int32), a ≤ n → (ploop f n op c x m (a, P)).2.1 ≤ n := by
  intro m
  induction m with
  | zero => intro a P ha; exact ha
  | succ m ih =>
    intro a P ha
    rw [ploop]
    split
    · rename_i c1
      have := h.2.2 (a + 1) P (by simp only at c1; omega)
      split
      · exact ih _ _ this
      · exact this
    · exact ha
theorem go_sq {op : pSt → Bool × pSt} {c x : Int32} (h : xGo n op) : xGo n (psq f n op c x) := by
  refine ⟨psq_good h.1, fun a P hh => ?_, fun a P ha => ?_⟩
  · have g := (ploop_good (f := f) (n := n) (c := c) (x := x) h.1 101 (op (a, P)).2).1
    unfold psq at hh ⊢
    split at hh
    · rename_i c1
      rw [if_pos c1]
      have := h.2.1 a P c1
      omega
    · rename_i c1
      exact absurd hh c1
  · have b := h.2.2 a P ha
    unfold psq
    split
    · exact go_loop h 101 _ _ b
    · exact b
theorem go_E {op : pSt → Bool × pSt} (h : xGo n op) : xGo n (pE f n op) := go_sq (go_sq h)
theorem go_F : ∀ k, xGo n (pF f n k) := by
  intro k
  induction k with
  | zero => exact go_test
  | succ k ih =>
    have hE := go_E (f := f) ih
    refine ⟨pF_good (k + 1), fun a P hh => ?_, fun a P ha => ?_⟩
    · rw [pF] at hh ⊢
      split at hh
      · rename_i c1
        rw [if_pos c1]
        split at hh
        · rename_i c2
          rw [if_pos c2]
          have := ih.2.1 _ _ c2
          simp only at this ⊢; omega
        · rename_i c2; exact absurd hh c2
      · rename_i c1
        rw [if_neg c1]
        split at hh
        · rename_i c2
          rw [if_pos c2]
          split at hh
          · rename_i c3
            rw [if_pos c3]
            have := hE.2.1 _ _ c3
            have g := (pis_good (f := f) (n := n) (s := (pE f n (pF f n k) (a + 1, P)).2) (x := 41)).1
            simp only at this g ⊢; omega
          · rename_i c3; exact absurd hh c3
        · rename_i c2
          rw [if_neg c2]
          exact go_test.2.1 a P hh
    · rw [pF]
      split
      · rename_i c1
        have b := ih.2.2 (a + 1) P (by simp only at c1; omega)
        split
        · exact b
        · exact b
      · split
        · rename_i c1
          have b := hE.2.2 (a + 1) P (by simp only at c1; omega)
          split
          · unfold pis
            split
            · rename_i c3; simp only at c3 ⊢; omega
            · exact b
          · exact b
        · exact go_test.2.2 a P ha
end Z1
