/-! THE TEXT: the class's reader and the reference's tell the same -/
def trc (x : Int32) : Int32 := if x = 0 then -1 else if x = 1 then -2 else if x = 2 then -3 else x - 3
def xRel (r : Bool × pSt) (s : qSt) : Prop := s.1 = r.2.1 ∧ (r.1 = true → s.2.1 = false ∧ s.2.2 = r.2.2.map trc) ∧ (¬ r.1 = true → s.2.1 = true)
def rst (op : qSt → qSt) : Prop := ∀ s, s.2.1 = true → (op s).1 = s.1 ∧ (op s).2.1 = true
theorem xRel.ok {r : Bool × pSt} {s : qSt} (h : xRel r s) (hr : r.1 = true) : s = (r.2.1, false, r.2.2.map trc) := Prod.ext h.1 (Prod.ext (h.2.1 hr).1 (h.2.1 hr).2)
theorem xRel.bad {r : Bool × pSt} {s : qSt} (h1 : ¬ r.1 = true) (h2 : s.1 = r.2.1) (h3 : s.2.1 = true) : xRel r s := ⟨h2, fun h => absurd h h1, fun _ => h3⟩
section Z1
variable {f : Nat → Int32} {n : Nat}
theorem rnx_f {s : qSt} (h : s.2.1 = true) : rnx f n s = -1 := by
  unfold rnx
  rw [if_neg]
  intro q
  rw [h] at q
  exact absurd q.1 (by decide)
theorem rnx_k {a : Nat} {C : List Int32} : rnx f n (a, false, C) = if a < n then f a else -1 := by
  unfold rnx
  by_cases h : a < n
  · rw [if_pos ⟨rfl, h⟩, if_pos h]
  · rw [if_neg (fun q => h q.2), if_neg h]
theorem rst_take (l : List Int32) : rst (rtake f n l) := fun s h => by
  cases l with
  | nil => exact ⟨rfl, h⟩
  | cons c l => rw [rtake, if_pos h]; exact ⟨rfl, h⟩
theorem roneOf_f : ∀ (l : List Int32) (k : Nat) (s : qSt), (∀ c ∈ l, c ≠ -1) → s.2.1 = true → roneOf f n l k s = (0, rbad s) := by
  intro l
  induction l with
  | nil => intro k s _ _; rfl
  | cons c l ih =>
    intro k s hl h
    rw [roneOf, rnx_f h, if_neg (hl c (List.mem_cons_self))]
    exact ih (k + 1) s (fun c hc => hl c (List.mem_cons_of_mem _ hc)) h
theorem rnum_f {s : qSt} (h : s.2.1 = true) : rnum f n s = (0, rbad s) := by
  have e : rnumL f n 2 0 0 s = (0, 0, s) := by rw [rnumL, rnx_f h, if_neg (by decide)]
  unfold rnum
  rw [e, if_pos rfl]
theorem qB0 : ∀ c ∈ qByt.getD 0 [], c ≠ -1 := by decide
theorem qB6 : ∀ c ∈ qByt.getD 6 [], c ≠ -1 := by decide
theorem rst_test : rst (rtest f n) := fun s h => by
  unfold rtest
  rw [roneOf_f _ 0 s qB0 h]
  simp only
  rw [roneOf_f _ 0 (rbad s) qB6 rfl]
  simp only
  rw [rnum_f (s := rbad (rbad s)) rfl]
  exact ⟨rfl, rfl⟩
theorem rst_loop {one : qSt → qSt} (m : Nat) (j : Bool) (s : qSt) (h : s.2.1 = true) : rloop f n one m j s = (j, s) := by
  cases m with
  | zero => rfl
  | succ m => rw [rloop, rnx_f h, if_neg (by decide), if_neg (by decide)]
theorem rst_fin {one : qSt → qSt} {m : Nat} {j : Bool} {s : qSt} (h : s.2.1 = true) : (if (rloop f n one m j s).1 = true then rput (-3) (rloop f n one m j s).2 else (rloop f n one m j s).2).1 = s.1 ∧ (if (rloop f n one m j s).1 = true then rput (-3) (rloop f n one m j s).2 else (rloop f n one m j s).2).2.1 = true := by
  rw [rst_loop m j s h]
  simp only
  split
  · exact ⟨rfl, h⟩
  · exact ⟨rfl, h⟩
theorem rst_either {one : qSt → qSt} (h1 : rst one) : rst (reither f n one) := fun s h => by
  obtain ⟨a, b⟩ := h1 s h
  have := rst_fin (f := f) (n := n) (one := one) (m := 100) (j := false) b
  rw [a] at this
  exact this
theorem rst_one : ∀ k, rst (rone f n k) := by
  intro k s h
  cases k with
  | zero => exact rst_test s h
  | succ k => rw [rone, rnx_f h, if_neg (by decide), if_neg (by decide)]; exact rst_test s h
theorem take_sim : ∀ (l : List Int32) (a : Nat) (C : List Int32) (P : List Int32), (∀ c ∈ l, c ≠ -1) → (rtake f n l (a, false, C)).1 = (pall f n l (a, P)).2.1 ∧ (rtake f n l (a, false, C)).2.2 = C ∧ ((pall f n l (a, P)).1 = true → (rtake f n l (a, false, C)).2.1 = false) ∧ (¬ (pall f n l (a, P)).1 = true → (rtake f n l (a, false, C)).2.1 = true) := by
  intro l
  induction l with
  | nil => intro a C P _; exact ⟨rfl, rfl, fun _ => rfl, fun h => absurd rfl h⟩
  | cons c l ih =>
    intro a C P hl
    rw [rtake, if_neg (fun q => absurd q Bool.false_ne_true), rnx_k, pall]
    by_cases h : a < n
    · rw [if_pos h]
      by_cases h2 : f a = c
      · rw [if_pos h2.symm, if_pos ⟨h, h2⟩]
        exact ih (a + 1) C P (fun c hc => hl c (List.mem_cons_of_mem _ hc))
      · rw [if_neg (fun q => h2 q.symm), if_neg (fun q => h2 q.2)]
        exact ⟨rfl, rfl, fun q => absurd q Bool.false_ne_true, fun _ => rfl⟩
    · rw [if_neg h, if_neg (hl c (List.mem_cons_self)), if_neg (fun q => h q.1)]
      exact ⟨rfl, rfl, fun q => absurd q Bool.false_ne_true, fun _ => rfl⟩
theorem oneOf_sim : ∀ (l : List Int32) (k a : Nat) (C : List Int32), (∀ c ∈ l, 0 < c) → k + l.length < 100 → roneOf f n l k (a, false, C) = if (if a < n ∧ 0 < f a then pfd l k (f a) else -1) < 0 then (0, rbad (a, false, C)) else ((if a < n ∧ 0 < f a then pfd l k (f a) else -1), radv (a, false, C)) := by
  intro l
  induction l with
  | nil =>
    intro k a C _ _
    have : (if a < n ∧ 0 < f a then pfd [] k (f a) else (-1 : Int32)) < 0 := by
      split
      · show (-1 : Int32) < 0; decide
      · decide
    rw [if_pos this]; rfl
  | cons c l ih =>
    intro k a C hl hk
    have hc := hl c (List.mem_cons_self)
    rw [List.length_cons] at hk
    have ih' := ih (k + 1) a C (fun c hc => hl c (List.mem_cons_of_mem _ hc)) (by omega)
    rw [roneOf, rnx_k]
    by_cases h : a < n ∧ 0 < f a
    · rw [if_pos h.1]
      simp only [if_pos h] at ih' ⊢
      rw [pfd]
      by_cases h2 : c = f a
      · rw [if_pos h2, if_pos h2, if_neg (nI_pos (by omega) : ¬ nI k < 0)]
      · rw [if_neg h2, if_neg h2]; exact ih'
    · have hne : ¬ c = (if a < n then f a else -1) := by
        intro q
        by_cases h1 : a < n
        · rw [if_pos h1] at q
          exact h ⟨h1, q ▸ hc⟩
        · rw [if_neg h1] at q
          rw [q] at hc
          exact absurd hc (by decide)
      rw [if_neg hne]
      simp only [if_neg h] at ih' ⊢
      exact ih'
theorem num_sim : ∀ (m : Nat) (v : Int32) (k a : Nat) (C : List Int32), rnumL f n m v k (a, false, C) = ((pnumL f n m v k a).1, (pnumL f n m v k a).2.1, ((pnumL f n m v k a).2.2, false, C)) := by
  intro m
  induction m with
  | zero => intro v k a C; rfl
  | succ m ih =>
    intro v k a C
    rw [rnumL, rnx_k, pnumL]
    by_cases h : a < n
    · rw [if_pos h]
      by_cases h2 : 48 ≤ f a ∧ f a ≤ 57
      · rw [if_pos h2, if_pos ⟨h, h2⟩]
        exact ih _ _ _ _
      · rw [if_neg h2, if_neg (fun q => h2 q.2)]
    · rw [if_neg h, if_neg (fun q => absurd q.1 (by decide)), if_neg (fun q => h q.1)]
theorem rnum_k {a : Nat} {C : List Int32} : rnum f n (a, false, C) = if (pnumL f n 2 0 0 a).2.1 = 0 then ((pnumL f n 2 0 0 a).1, rbad ((pnumL f n 2 0 0 a).2.2, false, C)) else ((pnumL f n 2 0 0 a).1, ((pnumL f n 2 0 0 a).2.2, false, C)) := by
  unfold rnum
  rw [num_sim]
theorem nI_subk {a b : Nat} (h : b ≤ a) : nI a - nI b = nI (a - b) := by
  have := nI_add (a - b) b
  rw [show a - b + b = a by omega] at this
  rw [← this]; exact Int32.add_sub_cancel _ _
theorem dig {v d : Nat} (h1 : 48 ≤ d) : 10 * nI v + nI d - 48 = nI (10 * v + d - 48) := by
  have e : 10 * nI v + nI d = nI (10 * v + d) := by
    show Int32.ofNat 10 * Int32.ofNat v + Int32.ofNat d = Int32.ofNat (10 * v + d)
    rw [Int32.ofNat_add, Int32.ofNat_mul]
  rw [e]
  exact nI_subk (b := 48) (by omega)
theorem num_val (hf : ∀ j, j < n → ∃ k, k < 128 ∧ f j = nI k) (a : Nat) : ∃ w, w ≤ 99 ∧ (pnumL f n 2 0 0 a).1 = nI w := by
  have one : ∀ b, b < n ∧ 48 ≤ f b ∧ f b ≤ 57 → ∃ d, 48 ≤ d ∧ d ≤ 57 ∧ f b = nI d := fun b hb => by
    obtain ⟨k, k1, k2⟩ := hf b hb.1
    have h1 := hb.2.1
    have h2 := hb.2.2
    rw [k2] at h1 h2
    exact ⟨k, (nI_leI (a := 48) (by omega) (by omega)).mp h1, (nI_leI (b := 57) (by omega) (by omega)).mp h2, k2⟩
  rw [pnumL]
  by_cases c1 : a < n ∧ 48 ≤ f a ∧ f a ≤ 57
  · rw [if_pos c1]
    obtain ⟨d, d1, d2, d3⟩ := one a c1
    have e1 : 10 * (0 : Int32) + f a - 48 = nI (d - 48) := by
      have := dig (v := 0) d1
      rw [d3]; rw [show 10 * 0 + d - 48 = d - 48 by omega] at this; exact this
    rw [e1, pnumL]
    by_cases c2 : a + 1 < n ∧ 48 ≤ f (a + 1) ∧ f (a + 1) ≤ 57
    · rw [if_pos c2]
      obtain ⟨g, g1, g2, g3⟩ := one (a + 1) c2
      exact ⟨10 * (d - 48) + g - 48, by omega, by rw [pnumL, g3]; exact dig g1⟩
    · rw [if_neg c2]; exact ⟨d - 48, by omega, rfl⟩
  · rw [if_neg c1]; exact ⟨0, by omega, rfl⟩
theorem trc_test {l s w : Nat} (hl : l ≤ 5) (hs : s ≤ 2) (hw : w ≤ 99) : trc (3 + 300 * nI l + 100 * nI s + nI w) = (nI l * 3 + nI s) * 100 + nI w := by
  have e : (3 : Int32) + 300 * nI l + 100 * nI s + nI w = nI (3 + 300 * l + 100 * s + w) := by
    show Int32.ofNat 3 + Int32.ofNat 300 * Int32.ofNat l + Int32.ofNat 100 * Int32.ofNat s + Int32.ofNat w = Int32.ofNat (3 + 300 * l + 100 * s + w)
    rw [Int32.ofNat_add, Int32.ofNat_add, Int32.ofNat_add, Int32.ofNat_mul, Int32.ofNat_mul]
  have e2 : (nI l * 3 + nI s) * 100 + nI w = nI ((l * 3 + s) * 100 + w) := by
    show (Int32.ofNat l * Int32.ofNat 3 + Int32.ofNat s) * Int32.ofNat 100 + Int32.ofNat w = Int32.ofNat ((l * 3 + s) * 100 + w)
    rw [Int32.ofNat_add, Int32.ofNat_mul, Int32.ofNat_add, Int32.ofNat_mul]
  have ne : ∀ b, b < 3 → ¬ nI (3 + 300 * l + 100 * s + w) = nI b := fun b hb q => by
    have := (nI_eq (by omega) (by omega)).mp q
    omega
  unfold trc
  rw [e, e2, if_neg (show ¬ nI (3 + 300 * l + 100 * s + w) = 0 from ne 0 (by omega)), if_neg (show ¬ nI (3 + 300 * l + 100 * s + w) = 1 from ne 1 (by omega)), if_neg (show ¬ nI (3 + 300 * l + 100 * s + w) = 2 from ne 2 (by omega))]
  refine (nI_subk (b := 3) (by omega)).trans ?_
  congr 1
  omega
def xSim (f : Nat → Int32) (n : Nat) (one : qSt → qSt) (op : pSt → Bool × pSt) : Prop := ∀ (a : Nat) (P : List Int32), P.length ≤ a → a ≤ n → xRel (op (a, P)) (one (a, false, P.map trc))
theorem put_k {x y : Int32} {a : Nat} {P : List Int32} (h : P.length < 100) (e : trc y = x) : rput x (a, false, P.map trc) = (a, false, (P ++ [y]).map trc) := by
  unfold rput
  simp only [List.length_map]
  rw [if_pos h, List.map_append, ← e]; rfl
theorem qBp0 : ∀ c ∈ qByt.getD 0 [], 0 < c := by decide
theorem qBp6 : ∀ c ∈ qByt.getD 6 [], 0 < c := by decide
theorem test_sim (hf : ∀ j, j < n → ∃ k, k < 128 ∧ f j = nI k) (hn : n ≤ 100) : xSim f n (rtest f n) (ptest f n) := by
  intro a P hP ha
  have o1 : roneOf f n (qByt.getD 0 []) 0 (a, false, P.map trc) = if plet f n 0 a < 0 then (0, rbad (a, false, P.map trc)) else (plet f n 0 a, radv (a, false, P.map trc)) := oneOf_sim _ 0 a _ qBp0 (by decide)
  unfold ptest rtest
  by_cases h1 : plet f n 0 a < 0
  · rw [if_pos h1] at o1 ⊢
    rw [o1]
    simp only
    rw [roneOf_f _ 0 (rbad _) qB6 rfl]
    simp only
    rw [rnum_f (s := rbad (rbad _)) rfl]
    exact ⟨rfl, fun h => absurd h Bool.false_ne_true, fun _ => rfl⟩
  rw [if_neg h1] at o1 ⊢
  rw [o1]
  simp only
  have o2 : roneOf f n (qByt.getD 6 []) 0 (radv (a, false, P.map trc)) = if plet f n 6 (a + 1) < 0 then (0, rbad (a + 1, false, P.map trc)) else (plet f n 6 (a + 1), radv (a + 1, false, P.map trc)) := oneOf_sim _ 0 (a + 1) _ qBp6 (by decide)
  by_cases h2 : plet f n 6 (a + 1) < 0
  · rw [if_pos h2] at o2 ⊢
    rw [o2]
    simp only
    rw [rnum_f (s := rbad _) rfl]
    exact ⟨rfl, fun h => absurd h Bool.false_ne_true, fun _ => rfl⟩
  rw [if_neg h2] at o2 ⊢
  rw [o2]
  simp only
  have o3 : rnum f n (radv (a + 1, false, P.map trc)) = if (pnumL f n 2 0 0 (a + 2)).2.1 = 0 then ((pnumL f n 2 0 0 (a + 2)).1, rbad ((pnumL f n 2 0 0 (a + 2)).2.2, false, P.map trc)) else ((pnumL f n 2 0 0 (a + 2)).1, ((pnumL f n 2 0 0 (a + 2)).2.2, false, P.map trc)) := rnum_k
  by_cases h3 : (pnumL f n 2 0 0 (a + 2)).2.1 = 0
  · rw [if_pos h3] at o3 ⊢
    rw [o3]
    exact ⟨rfl, fun h => absurd h Bool.false_ne_true, fun _ => rfl⟩
  rw [if_neg h3] at o3 ⊢
  rw [o3]
  simp only
  obtain ⟨l, l1, l2⟩ := plet_ok h1
  obtain ⟨s, s1, s2⟩ := plet_ok h2
  obtain ⟨w, w1, w2⟩ := num_val hf (a + 2)
  have lt := plet_lt (f := f) (n := n) (i := 6) (a := a + 1) (Int32.not_lt.mp h2)
  have ll : (qByt.getD 0 []).length = 6 := by decide
  have l6 : (qByt.getD 6 []).length = 3 := by decide
  rw [l2, s2, w2, put_k (by omega) (trc_test (by omega) (by omega) w1)]
  exact ⟨rfl, fun _ => ⟨rfl, rfl⟩, fun h => absurd rfl h⟩
/-- it goes on, and not beyond the end -/
def xGo (n : Nat) (op : pSt → Bool × pSt) : Prop := pgood op ∧ (∀ a P, (op (a, P)).1 = true → a < (op (a, P)).2.1) ∧ ∀ a P, a ≤ n → (op (a, P)).2.1 ≤ n
theorem pnumL_le : ∀ (m : Nat) (v : Int32) (k a : Nat), a ≤ n → (pnumL f n m v k a).2.2 ≤ n := by
  intro m
  induction m with
  | zero => intro v k a h; exact h
  | succ m ih =>
    intro v k a h
    rw [pnumL]
    split
    · rename_i c; exact ih _ _ _ (by omega)
    · exact h
theorem go_test : xGo n (ptest f n) := by
  refine ⟨ptest_good, fun a P h => ?_, fun a P ha => ?_⟩
  · have g := pnumL_good (f := f) (n := n) 2 0 0 (a + 2)
    unfold ptest at h ⊢
    split at h
    · exact absurd h Bool.false_ne_true
    · rename_i c1
      split at h
      · exact absurd h Bool.false_ne_true
      · rename_i c2
        split at h
        · exact absurd h Bool.false_ne_true
        · rename_i c3
          rw [if_neg c1, if_neg c2, if_neg c3]
          simp only
          omega
  · unfold ptest
    split
    · exact ha
    · rename_i c1
      have l1 := plet_lt (f := f) (n := n) (i := 0) (a := a) (Int32.not_lt.mp c1)
      split
      · simp only; omega
      · rename_i c2
        have l2 := plet_lt (f := f) (n := n) (i := 6) (a := a + 1) (Int32.not_lt.mp c2)
        have := pnumL_le (f := f) (n := n) 2 0 0 (a + 2) (by omega)
        split
        · exact this
        · exact this
theorem go_loop {op : pSt → Bool × pSt} {c x : Int32} (h : xGo n op) : ∀ (m a : Nat) (P : List Int32), a ≤ n → (ploop f n op c x m (a, P)).2.1 ≤ n := by
  intro m
  induction m with
  | zero => intro a P ha; exact ha
  | succ m ih =>
    intro a P ha
    rw [ploop]
    split
    · rename_i c1
      have := h.2.2 (a + 1) P (by simp only at c1; omega)
      split
      · exact ih _ _ this
      · exact this
    · exact ha
theorem go_sq {op : pSt → Bool × pSt} {c x : Int32} (h : xGo n op) : xGo n (psq f n op c x) := by
  refine ⟨psq_good h.1, fun a P hh => ?_, fun a P ha => ?_⟩
  · have g := (ploop_good (f := f) (n := n) (c := c) (x := x) h.1 101 (op (a, P)).2).1
    unfold psq at hh ⊢
    split at hh
    · rename_i c1
      rw [if_pos c1]
      have := h.2.1 a P c1
      omega
    · rename_i c1
      exact absurd hh c1
  · have b := h.2.2 a P ha
    unfold psq
    split
    · exact go_loop h 101 _ _ b
    · exact b
theorem go_E {op : pSt → Bool × pSt} (h : xGo n op) : xGo n (pE f n op) := go_sq (go_sq h)
theorem go_F : ∀ k, xGo n (pF f n k) := by
  intro k
  induction k with
  | zero => exact go_test
  | succ k ih =>
    have hE := go_E (f := f) ih
    refine ⟨pF_good (k + 1), fun a P hh => ?_, fun a P ha => ?_⟩
    · rw [pF] at hh ⊢
      split at hh
      · rename_i c1
        rw [if_pos c1]
        split at hh
        · rename_i c2
          rw [if_pos c2]
          have := ih.2.1 _ _ c2
          simp only at this ⊢; omega
        · rename_i c2; exact absurd hh c2
      · rename_i c1
        rw [if_neg c1]
        split at hh
        · rename_i c2
          rw [if_pos c2]
          split at hh
          · rename_i c3
            rw [if_pos c3]
            have := hE.2.1 _ _ c3
            have g := (pis_good (f := f) (n := n) (s := (pE f n (pF f n k) (a + 1, P)).2) (x := 41)).1
            simp only at this g ⊢; omega
          · rename_i c3; exact absurd hh c3
        · rename_i c2
          rw [if_neg c2]
          exact go_test.2.1 a P hh
    · rw [pF]
      split
      · rename_i c1
        have b := ih.2.2 (a + 1) P (by simp only at c1; omega)
        split
        · exact b
        · exact b
      · split
        · rename_i c1
          have b := hE.2.2 (a + 1) P (by simp only at c1; omega)
          split
          · unfold pis
            split
            · rename_i c3; simp only at c3 ⊢; omega
            · exact b
          · exact b
        · exact go_test.2.2 a P ha
end Z1
/-! THE TEXT: what is joined, clauses, the whole -/
section Z2
variable {f : Nat → Int32} {n : Nat}
/-- the reference's way on from within a group of &: to its end, and through the groups that | joins -/
def xK (f : Nat → Int32) (n : Nat) (op : pSt → Bool × pSt) (j : Bool) (M M' : Nat) (s : pSt) : Bool × pSt :=
  if (ploop f n op 38 1 M s).1 = true then ploop f n (psq f n op 38 1) 124 2 M' ((ploop f n op 38 1 M s).2.1, if j = true then (ploop f n op 38 1 M s).2.2 ++ [2] else (ploop f n op 38 1 M s).2.2) else ploop f n op 38 1 M s
theorem ploop_st {op : pSt → Bool × pSt} {c x : Int32} {s : pSt} (h : ¬ (s.1 < n ∧ f s.1 = c)) : ∀ m, ploop f n op c x m s = (true, s) := by
  intro m
  cases m with
  | zero => rfl
  | succ m => rw [ploop, if_neg h]
theorem loop_sim {one : qSt → qSt} {op : pSt → Bool × pSt} (hn : n ≤ 100) (hs : xSim f n one op) (hg : xGo n op) : ∀ (m a : Nat) (P : List Int32) (M M' : Nat) (j : Bool), n - a < m → n - a < M → n - a < M' → P.length ≤ a → a ≤ n → (j = true → P.length + 1 ≤ a) → xRel (xK f n op j M M' (a, P)) (if (rloop f n one m j (a, false, P.map trc)).1 = true then rput (-3) (rloop f n one m j (a, false, P.map trc)).2 else (rloop f n one m j (a, false, P.map trc)).2) := by
  intro m
  induction m with
  | zero => intro a P M M' j h1; omega
  | succ m ih =>
    intro a P M M' j h1 h2 h3 hP ha hj
    obtain ⟨M, rfl⟩ : ∃ k, M = k + 1 := ⟨M - 1, by omega⟩
    obtain ⟨M', rfl⟩ : ∃ k, M' = k + 1 := ⟨M' - 1, by omega⟩
    rw [rloop, rnx_k]
    by_cases c1 : a < n ∧ f a = 38
    · rw [if_pos (show (if a < n then f a else -1) = 38 by rw [if_pos c1.1]; exact c1.2)]
      have hr := hs (a + 1) P (by omega) (by omega)
      have gd := hg.1 (a + 1, P)
      have bd := hg.2.2 (a + 1) P (by omega)
      have pg := hg.2.1 (a + 1) P
      have er : radv (a, false, P.map trc) = (a + 1, false, P.map trc) := rfl
      rw [er]
      unfold xK
      rw [ploop, if_pos c1]
      unfold pgd at gd
      simp only at gd bd pg
      generalize op (a + 1, P) = o at *
      obtain ⟨ok, b, Q⟩ := o
      simp only at gd bd pg hr ⊢
      by_cases c2 : ok = true
      · subst c2
        have e1 := hr.ok rfl
        simp only at e1
        have pb := pg rfl
        rw [e1, put_k (by omega) (show trc 1 = -2 by decide), if_pos rfl]
        have := ih b (Q ++ [1]) M (M' + 1) j (by omega) (by omega) (by omega) (by rw [List.length_append]; show _ + 1 ≤ _; omega) (by omega) (fun hh => by have := hj hh; rw [List.length_append]; show _ + 1 + 1 ≤ _; omega)
        unfold xK at this
        exact this
      · rw [if_neg c2]
        simp only [if_neg c2]
        have hb := hr.2.2 c2
        have fin := rst_fin (f := f) (n := n) (one := one) (m := m) (j := j) (s := rput (-2) (one (a + 1, false, P.map trc))) hb
        exact xRel.bad c2 (fin.1.trans hr.1) fin.2
    · rw [if_neg (show ¬ (if a < n then f a else -1) = 38 from fun q => by
        by_cases w : a < n
        · rw [if_pos w] at q; exact c1 ⟨w, q⟩
        · rw [if_neg w] at q; exact absurd q (by decide))]
      unfold xK
      rw [ploop_st (s := (a, P)) c1]
      simp only [if_true]
      by_cases c2 : a < n ∧ f a = 124
      · rw [if_pos (show (if a < n then f a else -1) = 124 by rw [if_pos c2.1]; exact c2.2)]
        have gen : ∀ (P' : List Int32), (if j = true then P ++ [2] else P) = P' → (if j = true then rput (-3) (radv (a, false, P.map trc)) else radv (a, false, P.map trc)) = (a + 1, false, P'.map trc) ∧ P'.length ≤ a := by
          intro P' e
          have er : radv (a, false, P.map trc) = (a + 1, false, P.map trc) := rfl
          by_cases w : j = true
          · have := hj w
            rw [if_pos w] at e ⊢
            subst e
            rw [er, put_k (by omega) (show trc 2 = -3 by decide), List.length_append]
            exact ⟨rfl, by show _ + 1 ≤ _; omega⟩
          · rw [if_neg w] at e ⊢
            subst e
            exact ⟨er, hP⟩
        obtain ⟨g1, g2⟩ := gen _ rfl
        generalize (if j = true then P ++ [2] else P) = P' at *
        rw [g1]
        rw [ploop, if_pos c2]
        have hr := hs (a + 1) P' (by omega) (by omega)
        have gd := hg.1 (a + 1, P')
        have bd := hg.2.2 (a + 1) P' (by omega)
        have pg := hg.2.1 (a + 1) P'
        unfold pgd at gd
        unfold psq
        simp only at gd bd pg ⊢
        generalize op (a + 1, P') = o at *
        obtain ⟨ok, b, Q⟩ := o
        simp only at gd bd pg hr ⊢
        by_cases c3 : ok = true
        · subst c3
          have e1 := hr.ok rfl
          simp only at e1
          have pb := pg rfl
          rw [e1]
          have := ih b Q 101 M' true (by omega) (by omega) (by omega) (by omega) (by omega) (fun _ => by omega)
          unfold xK psq at this
          simp only [if_true] at this ⊢
          exact this
        · simp only [if_neg c3]
          have hb := hr.2.2 c3
          have fin := rst_fin (f := f) (n := n) (one := one) (m := m) (j := true) (s := one (a + 1, false, P'.map trc)) hb
          exact xRel.bad c3 (fin.1.trans hr.1) fin.2
      · rw [if_neg (show ¬ (if a < n then f a else -1) = 124 from fun q => by
          by_cases w : a < n
          · rw [if_pos w] at q; exact c2 ⟨w, q⟩
          · rw [if_neg w] at q; exact absurd q (by decide))]
        rw [ploop_st (s := (a, if j = true then P ++ [2] else P)) c2]
        simp only
        by_cases w : j = true
        · have := hj w
          rw [if_pos w, if_pos w, put_k (by omega) (show trc 2 = -3 by decide)]
          exact ⟨rfl, fun _ => ⟨rfl, rfl⟩, fun h => absurd rfl h⟩
        · rw [if_neg w, if_neg w]
          exact ⟨rfl, fun _ => ⟨rfl, rfl⟩, fun h => absurd rfl h⟩
theorem either_sim {one : qSt → qSt} {op : pSt → Bool × pSt} (hn : n ≤ 100) (h1 : rst one) (hs : xSim f n one op) (hg : xGo n op) : xSim f n (reither f n one) (pE f n op) := by
  intro a P hP ha
  have hr := hs a P hP ha
  have gd := hg.1 (a, P)
  have bd := hg.2.2 a P ha
  have pg := hg.2.1 a P
  unfold pgd at gd
  have eK : pE f n op (a, P) = if (op (a, P)).1 = true then xK f n op false 101 101 (op (a, P)).2 else op (a, P) := by
    unfold pE psq xK
    by_cases c : (op (a, P)).1 = true
    · rw [if_pos c, if_pos c]
      by_cases c2 : (ploop f n op 38 1 101 (op (a, P)).2).1 = true
      · rw [if_pos c2, if_pos c2]; rfl
      · rw [if_neg c2, if_neg c2]
    · rw [if_neg c, if_neg c, if_neg c]
  rw [eK]
  unfold reither
  simp only at gd bd pg
  generalize op (a, P) = o at *
  obtain ⟨ok, b, Q⟩ := o
  simp only at gd bd pg hr ⊢
  by_cases c : ok = true
  · subst c
    have e1 := hr.ok rfl
    simp only at e1
    have pb := pg rfl
    rw [e1, if_pos rfl]
    exact loop_sim hn hs hg 100 b Q 101 101 false (by omega) (by omega) (by omega) (by omega) (by omega) (fun h => absurd h Bool.false_ne_true)
  · rw [if_neg c]
    have hb := hr.2.2 c
    have fin := rst_fin (f := f) (n := n) (one := one) (m := 100) (j := false) (s := one (a, false, P.map trc)) hb
    exact xRel.bad c (fin.1.trans hr.1) fin.2
theorem qB5 : qByt.getD 5 [] = [41] := rfl
theorem qB4 : qByt.getD 4 [] = [32] := rfl
theorem take1 {c : Int32} {a : Nat} {C : List Int32} (hc : c ≠ -1) : rtake f n [c] (a, false, C) = if a < n ∧ f a = c then (a + 1, false, C) else rbad (a, false, C) := by
  rw [rtake, if_neg (fun q => absurd q Bool.false_ne_true), rnx_k]
  by_cases h : a < n
  · rw [if_pos h]
    by_cases h2 : f a = c
    · rw [if_pos h2.symm, if_pos ⟨h, h2⟩]; rfl
    · rw [if_neg (fun q => h2 q.symm), if_neg (fun q => h2 q.2)]
  · rw [if_neg h, if_neg hc, if_neg (fun q => h q.1)]
theorem one_sim (hf : ∀ j, j < n → ∃ k, k < 128 ∧ f j = nI k) (hn : n ≤ 100) : ∀ k, xSim f n (rone f n k) (pF f n k) := by
  intro k
  induction k with
  | zero => exact test_sim hf hn
  | succ k ih =>
    have hE := either_sim hn (rst_one (f := f) (n := n) k) ih (go_F k)
    intro a P hP ha
    rw [rone, rnx_k, pF]
    by_cases c1 : a < n ∧ f a = 33
    · rw [if_pos (show (if a < n then f a else -1) = 33 by rw [if_pos c1.1]; exact c1.2), if_pos c1]
      have hr := ih (a + 1) P (by omega) (by omega)
      have gd := (go_F (f := f) (n := n) k).1 (a + 1, P)
      have bd := (go_F (f := f) (n := n) k).2.2 (a + 1) P (by omega)
      unfold pgd at gd
      have er : radv (a, false, P.map trc) = (a + 1, false, P.map trc) := rfl
      rw [er]
      simp only at gd bd ⊢
      generalize pF f n k (a + 1, P) = o at *
      obtain ⟨ok, b, Q⟩ := o
      simp only at gd bd hr ⊢
      by_cases c : ok = true
      · subst c
        have e1 := hr.ok rfl
        simp only at e1
        rw [e1, put_k (by omega) (show trc 0 = -1 by decide), if_pos rfl]
        exact ⟨rfl, fun _ => ⟨rfl, rfl⟩, fun h => absurd rfl h⟩
      · rw [if_neg c]
        exact xRel.bad c hr.1 (hr.2.2 c)
    · rw [if_neg (show ¬ (if a < n then f a else -1) = 33 from fun q => by
        by_cases w : a < n
        · rw [if_pos w] at q; exact c1 ⟨w, q⟩
        · rw [if_neg w] at q; exact absurd q (by decide)), if_neg c1]
      by_cases c2 : a < n ∧ f a = 40
      · rw [if_pos (show (if a < n then f a else -1) = 40 by rw [if_pos c2.1]; exact c2.2), if_pos c2]
        have hr := hE (a + 1) P (by omega) (by omega)
        have er : radv (a, false, P.map trc) = (a + 1, false, P.map trc) := rfl
        rw [er, qB5]
        simp only
        generalize pE f n (pF f n k) (a + 1, P) = o at *
        obtain ⟨ok, b, Q⟩ := o
        simp only at hr ⊢
        by_cases c : ok = true
        · subst c
          have e1 := hr.ok rfl
          simp only at e1
          rw [e1, take1 (by decide), if_pos rfl]
          unfold pis
          by_cases c3 : b < n ∧ f b = 41
          · rw [if_pos c3, if_pos c3]
            exact ⟨rfl, fun _ => ⟨rfl, rfl⟩, fun h => absurd rfl h⟩
          · rw [if_neg c3, if_neg c3]
            exact ⟨rfl, fun h => absurd h Bool.false_ne_true, fun _ => rfl⟩
        · rw [if_neg c]
          have hb := hr.2.2 c
          have tk := rst_take (f := f) (n := n) [41] _ hb
          exact xRel.bad c (tk.1.trans hr.1) tk.2
      · rw [if_neg (show ¬ (if a < n then f a else -1) = 40 from fun q => by
          by_cases w : a < n
          · rw [if_pos w] at q; exact c2 ⟨w, q⟩
          · rw [if_neg w] at q; exact absurd q (by decide)), if_neg c2]
        exact test_sim hf hn a P hP ha
theorem pall_le : ∀ (l : List Int32) (s : pSt), s.1 ≤ n → (pall f n l s).2.1 ≤ n := by
  intro l
  induction l with
  | nil => intro s h; exact h
  | cons c l ih =>
    intro s h
    rw [pall]
    split
    · rename_i c1; exact ih _ (by simp only; omega)
    · exact h
theorem qBw : (∀ c ∈ qByt.getD 1 [], c ≠ -1) ∧ (∀ c ∈ qByt.getD 2 [], c ≠ -1) ∧ ∀ c ∈ qByt.getD 3 [], c ≠ -1 := by decide
theorem rnum_st {s : qSt} (h : s.2.1 = true) : (rnum f n s).2.1 = s.1 ∧ (rnum f n s).2.2.1 = true := by rw [rnum_f h]; exact ⟨rfl, rfl⟩
theorem clause_sim (hf : ∀ j, j < n → ∃ k, k < 128 ∧ f j = nI k) (hn : n ≤ 100) {B : qI} {cz cc a : Nat} {P : List Int32} {l : List (Int32 × Nat)} {z : Int32} (hP : P.length ≤ a) (ha : a ≤ n) : xRel ((pcl f n B cz cc (a, P)).1, (pcl f n B cz cc (a, P)).2.1) (rclause f n ((a, false, P.map trc), l, z)).1 := by
  have hE := either_sim hn (rst_one (f := f) (n := n) 4) (one_sim hf hn 4) (go_F 4)
  have bad1 : ∀ s : qSt, s.2.1 = true → (reither f n (rone f n 4) (rtake f n (qByt.getD 4 []) (rnum f n s).2)).1 = s.1 ∧ (reither f n (rone f n 4) (rtake f n (qByt.getD 4 []) (rnum f n s).2)).2.1 = true := fun s hs => by
    obtain ⟨h1, h2⟩ := rnum_st (f := f) (n := n) hs
    obtain ⟨h3, h4⟩ := rst_take (f := f) (n := n) (qByt.getD 4 []) _ h2
    obtain ⟨h5, h6⟩ := rst_either (f := f) (n := n) (rst_one (f := f) (n := n) 4) _ h4
    exact ⟨h5.trans (h3.trans h1), h6⟩
  have bad2 : ∀ s : qSt, s.2.1 = true → (reither f n (rone f n 4) (rtake f n (qByt.getD 4 []) s)).1 = s.1 ∧ (reither f n (rone f n 4) (rtake f n (qByt.getD 4 []) s)).2.1 = true := fun s h2 => by
    obtain ⟨h3, h4⟩ := rst_take (f := f) (n := n) (qByt.getD 4 []) _ h2
    obtain ⟨h5, h6⟩ := rst_either (f := f) (n := n) (rst_one (f := f) (n := n) 4) _ h4
    exact ⟨h5.trans h3, h6⟩
  -- a clause of what aches or soothes
  have main : ∀ (i : Nat) (w : Int32), (∀ c ∈ qByt.getD i [], c ≠ -1) → w < 2 → pw f n a = w → ¬ w = -1 → pwi f a = i → xRel ((pcl f n B cz cc (a, P)).1, (pcl f n B cz cc (a, P)).2.1) (reither f n (rone f n 4) (rtake f n (qByt.getD 4 []) (rnum f n (rtake f n (qByt.getD i []) (a, false, P.map trc))).2)) := by
    intro i w hi w2 hw hw1 hpi
    obtain ⟨t1, t2, t3, t4⟩ := take_sim (f := f) (n := n) (qByt.getD i []) a (P.map trc) P hi
    have len := pall_len (f := f) (n := n) (qByt.getD i []) (a, P)
    have le : (pall f n (qByt.getD i []) (a, P)).1 = true → (pall f n (qByt.getD i []) (a, P)).2.1 ≤ n := fun _ => pall_le _ _ ha
    unfold pcl
    rw [hw, if_neg hw1, hpi]
    generalize hp : pall f n (qByt.getD i []) (a, P) = p at *
    obtain ⟨ok, b, Q⟩ := p
    simp only at t1 t3 t4 len le ⊢
    generalize ht : rtake f n (qByt.getD i []) (a, false, P.map trc) = t at *
    obtain ⟨tb, tf, tC⟩ := t
    simp only at t1 t2 t3 t4
    subst t1; subst t2
    by_cases c : ok = true
    · have hQ : Q = P := len.1
      subst hQ
      rw [t3 c, if_pos c]
      rw [rnum_k]
      have nle := pnumL_le (f := f) (n := n) 2 0 0 tb (le c)
      have ng := pnumL_good (f := f) (n := n) 2 0 0 tb
      by_cases c2 : (pnumL f n 2 0 0 tb).2.1 = 0
      · rw [if_pos c2, if_pos c2]
        obtain ⟨h1, h2⟩ := bad2 (rbad ((pnumL f n 2 0 0 tb).2.2, false, Q.map trc)) rfl
        exact xRel.bad Bool.false_ne_true h1 h2
      · rw [if_neg c2, if_neg c2]
        unfold ptl
        rw [if_pos w2, qB4]
        simp only
        rw [take1 (by decide)]
        unfold pis
        simp only
        by_cases c3 : (pnumL f n 2 0 0 tb).2.2 < n ∧ f (pnumL f n 2 0 0 tb).2.2 = 32
        · rw [if_pos c3]
          simp only [if_pos c3, if_true]
          have hr := hE ((pnumL f n 2 0 0 tb).2.2 + 1) Q (by simp only at len; omega) (by omega)
          by_cases c4 : (pE f n (pF f n 4) ((pnumL f n 2 0 0 tb).2.2 + 1, Q)).1 = true
          · simp only [if_pos c4]
            rw [show (true, (pE f n (pF f n 4) ((pnumL f n 2 0 0 tb).2.2 + 1, Q)).2) = pE f n (pF f n 4) ((pnumL f n 2 0 0 tb).2.2 + 1, Q) from Prod.ext c4.symm rfl]
            exact hr
          · simp only [if_neg c4]
            exact xRel.bad Bool.false_ne_true hr.1 (hr.2.2 c4)
        · rw [if_neg c3]
          simp only [if_neg c3]
          rw [if_neg Bool.false_ne_true]
          obtain ⟨h1, h2⟩ := rst_either (f := f) (n := n) (rst_one (f := f) (n := n) 4) (rbad ((pnumL f n 2 0 0 tb).2.2, false, Q.map trc)) rfl
          exact xRel.bad Bool.false_ne_true h1 h2
    · rw [if_neg c]
      obtain ⟨h1, h2⟩ := bad1 (tb, tf, P.map trc) (t4 c)
      exact xRel.bad Bool.false_ne_true h1 h2
  -- days that are lost, or no clause
  have other : ∀ (hh : ¬ (a < n ∧ (f a = 97 ∨ f a = 99))), xRel ((pcl f n B cz cc (a, P)).1, (pcl f n B cz cc (a, P)).2.1) (rnum f n (rtake f n (qByt.getD 3 []) (a, false, P.map trc))).2 := by
    intro hh
    obtain ⟨t1, t2, t3, t4⟩ := take_sim (f := f) (n := n) (qByt.getD 3 []) a (P.map trc) P qBw.2.2
    have len := pall_len (f := f) (n := n) (qByt.getD 3 []) (a, P)
    by_cases c0 : a < n ∧ f a = 108
    · have hw : pw f n a = 2 := by
        unfold pw
        rw [if_pos c0.1, c0.2, if_neg (by decide), if_neg (by decide), if_pos rfl]
      have hpi : pwi f a = 3 := by
        unfold pwi
        rw [c0.2, if_neg (by decide), if_neg (by decide)]
      unfold pcl
      rw [hw, if_neg (by decide), hpi]
      generalize hp : pall f n (qByt.getD 3 []) (a, P) = p at *
      obtain ⟨ok, b, Q⟩ := p
      simp only at t1 t3 t4 len ⊢
      generalize ht : rtake f n (qByt.getD 3 []) (a, false, P.map trc) = t at *
      obtain ⟨tb, tf, tC⟩ := t
      simp only at t1 t2 t3 t4
      subst t1; subst t2
      by_cases c : ok = true
      · have hQ : Q = P := len.1
        subst hQ
        rw [t3 c, if_pos c, rnum_k]
        by_cases c2 : (pnumL f n 2 0 0 tb).2.1 = 0
        · rw [if_pos c2, if_pos c2]
          exact xRel.bad Bool.false_ne_true rfl rfl
        · rw [if_neg c2, if_neg c2]
          unfold ptl
          rw [if_neg (by decide)]
          exact ⟨rfl, fun _ => ⟨rfl, rfl⟩, fun h => absurd rfl h⟩
      · rw [if_neg c]
        obtain ⟨h1, h2⟩ := rnum_st (f := f) (n := n) (s := (tb, tf, P.map trc)) (t4 c)
        exact xRel.bad Bool.false_ne_true h1 h2
    · have hw : pw f n a = -1 := by
        unfold pw
        by_cases h : a < n
        · rw [if_pos h, if_neg (fun q => hh ⟨h, Or.inl q⟩), if_neg (fun q => hh ⟨h, Or.inr q⟩), if_neg (fun q => c0 ⟨h, q⟩)]
        · rw [if_neg h]
      unfold pcl
      rw [hw, if_pos rfl]
      have e3 : qByt.getD 3 [] = 108 :: [111, 115, 116, 32] := rfl
      have et : rtake f n (qByt.getD 3 []) (a, false, P.map trc) = rbad (a, false, P.map trc) := by
        rw [e3, rtake, if_neg (fun q => absurd q Bool.false_ne_true), rnx_k, if_neg]
        intro q
        by_cases h : a < n
        · rw [if_pos h] at q; exact c0 ⟨h, q.symm⟩
        · rw [if_neg h] at q; exact absurd q (by decide)
      rw [et]
      obtain ⟨h1, h2⟩ := rnum_st (f := f) (n := n) (s := rbad (a, false, P.map trc)) rfl
      exact xRel.bad Bool.false_ne_true h1 h2
  unfold rclause
  dsimp only
  by_cases c1 : a < n ∧ f a = 97
  · have w1 : rword f n (a, false, P.map trc) = qByt.getD 1 [] := by unfold rword; rw [rnx_k, if_pos c1.1, if_pos c1.2]
    have x1 : rnx f n (a, false, P.map trc) = 97 ∨ rnx f n (a, false, P.map trc) = 99 := Or.inl (by rw [rnx_k, if_pos c1.1]; exact c1.2)
    rw [if_pos x1, w1]
    dsimp only
    exact main 1 0 qBw.1 (by decide) (by unfold pw; rw [if_pos c1.1, if_pos c1.2]) (by decide) (by unfold pwi; rw [if_pos c1.2])
  · by_cases c2 : a < n ∧ f a = 99
    · have n97 : ¬ f a = 97 := fun q => c1 ⟨c2.1, q⟩
      have w1 : rword f n (a, false, P.map trc) = qByt.getD 2 [] := by unfold rword; rw [rnx_k, if_pos c2.1, if_neg n97, if_pos c2.2]
      have x1 : rnx f n (a, false, P.map trc) = 97 ∨ rnx f n (a, false, P.map trc) = 99 := Or.inr (by rw [rnx_k, if_pos c2.1]; exact c2.2)
      rw [if_pos x1, w1]
      dsimp only
      exact main 2 1 qBw.2.1 (by decide) (by unfold pw; rw [if_pos c2.1, if_neg n97, if_pos c2.2]) (by decide) (by unfold pwi; rw [if_neg n97, if_pos c2.2])
    · have hh : ¬ (a < n ∧ (f a = 97 ∨ f a = 99)) := fun q => q.2.elim (fun w => c1 ⟨q.1, w⟩) (fun w => c2 ⟨q.1, w⟩)
      have e : ∀ x : Int32, x ≠ -1 → (a < n → f a ≠ x) → ¬ rnx f n (a, false, P.map trc) = x := fun x hx hfx q => by
        rw [rnx_k] at q
        by_cases h : a < n
        · rw [if_pos h] at q; exact hfx h q
        · rw [if_neg h] at q; exact hx q.symm
      have n97 := e 97 (by decide) (fun h q => c1 ⟨h, q⟩)
      have n99 := e 99 (by decide) (fun h q => c2 ⟨h, q⟩)
      have w1 : rword f n (a, false, P.map trc) = qByt.getD 3 [] := by unfold rword; rw [if_neg n97, if_neg n99]
      rw [if_neg (fun q => q.elim n97 n99), w1]
      dsimp only
      exact other hh
/-- the whole text -/
theorem read_sim (hf : ∀ j, j < n → ∃ k, k < 128 ∧ f j = nI k) (hn : n ≤ 100) {h cz : Nat} : ∀ (k m : Nat) (B : qI) (a : Nat) (P : List Int32) (l : List (Int32 × Nat)) (z : Int32), P.length ≤ a → a ≤ n → (rreadN f n k (rclause f n ((a, false, P.map trc), l, z))).1.1 = (pisl f n h cz (k + 1) m B (a, P)).2.2.1.1 ∧ ((pisl f n h cz (k + 1) m B (a, P)).1 = true ↔ (rreadN f n k (rclause f n ((a, false, P.map trc), l, z))).1.2.1 = false ∧ (rreadN f n k (rclause f n ((a, false, P.map trc), l, z))).1.1 = n) := by
  intro k
  induction k with
  | zero =>
    intro m B a P l z hP ha
    have hc := clause_sim hf hn (B := B) (cz := cz) (cc := 10 * h + m) (l := l) (z := z) hP ha
    rw [rreadN, pisl]
    generalize pcl f n B cz (10 * h + m) (a, P) = r at *
    obtain ⟨ok, ⟨b, Q⟩, B2⟩ := r
    simp only at hc ⊢
    by_cases c : ok = true
    · have e := hc.ok c
      simp only at e
      rw [if_pos c, e]
      by_cases c2 : b = n
      · rw [if_pos c2]; exact ⟨rfl, fun _ => ⟨rfl, c2⟩, fun _ => rfl⟩
      · rw [if_neg c2, if_pos trivial]
        exact ⟨rfl, fun q => absurd q Bool.false_ne_true, fun q => absurd q.2 c2⟩
    · rw [if_neg c]
      refine ⟨hc.1, fun q => absurd q Bool.false_ne_true, fun q => ?_⟩
      rw [hc.2.2 c] at q
      exact absurd q.1 (by decide)
  | succ k ih =>
    intro m B a P l z hP ha
    have hc := clause_sim hf hn (B := B) (cz := cz) (cc := 10 * h + m) (l := l) (z := z) hP ha
    have gd := pcl_good (f := f) (n := n) (B := B) (cz := cz) (c := 10 * h + m) (s := (a, P))
    rw [rreadN, pisl]
    unfold pgd at gd
    generalize pcl f n B cz (10 * h + m) (a, P) = r at *
    generalize rclause f n ((a, false, P.map trc), l, z) = R at *
    obtain ⟨ok, ⟨b, Q⟩, B2⟩ := r
    obtain ⟨R1, R2, R3⟩ := R
    simp only at hc gd ⊢
    by_cases c : ok = true
    · have e := hc.ok c
      simp only at e
      subst e
      rw [if_pos c, rnx_k]
      by_cases c2 : b = n
      · rw [if_pos c2, if_neg (show ¬ (if b < n then f b else -1) = 59 from fun q => by rw [if_neg (by omega)] at q; exact absurd q (by decide))]
        exact ⟨rfl, fun _ => ⟨rfl, c2⟩, fun _ => rfl⟩
      · rw [if_neg c2, if_neg (Nat.succ_ne_zero k)]
        unfold pis
        by_cases c3 : b < n ∧ f b = 59
        · rw [if_pos (show (if b < n then f b else -1) = 59 by rw [if_pos c3.1]; exact c3.2)]
          simp only [if_pos c3, if_true]
          exact ih (m + 1) B2 (b + 1) Q R2 R3 (by omega) (by omega)
        · rw [if_neg (show ¬ (if b < n then f b else -1) = 59 from fun q => by
            by_cases w : b < n
            · rw [if_pos w] at q; exact c3 ⟨w, q⟩
            · rw [if_neg w] at q; exact absurd q (by decide))]
          simp only [if_neg c3]
          rw [if_neg Bool.false_ne_true]
          exact ⟨rfl, fun q => absurd q Bool.false_ne_true, fun q => absurd q.2 c2⟩
    · have hb := hc.2.2 c
      rw [if_neg c, rnx_f hb, if_neg (by decide)]
      refine ⟨hc.1, fun q => absurd q Bool.false_ne_true, fun q => ?_⟩
      rw [hb] at q
      exact absurd q.1 (by decide)
theorem x_parse (hf : ∀ j, j < n → ∃ k, k < 128 ∧ f j = nI k) (hn : n ≤ 100) {h cz : Nat} {B : qI} : (rread f n).1.1 = (pisl f n h cz 10 0 B (0, [])).2.2.1.1 ∧ ((pisl f n h cz 10 0 B (0, [])).1 = true ↔ ¬ rok (rread f n) n = 0) := by
  obtain ⟨h1, h2⟩ := read_sim hf hn (h := h) (cz := cz) 9 0 B 0 [] [] 0 (Nat.le_refl _) (Nat.zero_le _)
  refine ⟨h1, h2.trans ?_⟩
  have e : rread f n = rreadN f n 9 (rclause f n ((0, false, List.map trc []), [], 0)) := rfl
  unfold rok
  rw [e]
  constructor
  · intro q; rw [if_pos q]; decide
  · intro q
    by_cases w : (rreadN f n 9 (rclause f n ((0, false, List.map trc []), [], 0))).1.2.1 = false ∧ (rreadN f n 9 (rclause f n ((0, false, List.map trc []), [], 0))).1.1 = n
    · exact w
    · rw [if_neg w] at q; exact absurd rfl q
end Z2
