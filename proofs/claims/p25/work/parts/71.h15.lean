/-! the reference's invariant -/
def rSnap (f : Nat → Int32) (n : Nat) : Prop :=
  (∀ p, p < 6 → ∃ k, k < 7 ∧ f p = nI k) ∧ (∃ c, c ≤ 6 ∧ f 117 = nI c ∧ ∃ l, l ≤ 6 ∧ f 118 = nI l ∧ (∀ i, i < l → ∃ p, p < c ∧ f (36 + i) = nI p) ∧ ∀ i j, i < j → j < l → f (36 + i) ≠ f (36 + j)) ∧ (∀ k, k < 6 → ∃ p, p < 6 ∧ f (36 + k) = nI p) ∧ (∃ d, d ≤ 9999 ∧ f 119 = nI d) ∧ (∃ z, z ≤ 5 ∧ f 120 = nI z) ∧ (∃ z, z ≤ 10 ∧ f 121 = nI z) ∧ (∃ z, z ≤ 8 ∧ f 122 = nI z) ∧ (f 123 = -1 ∨ ∃ h, h < n ∧ f 123 = nI h) ∧ (∀ i, i < 5 → ∃ t, t ≤ 20 ∧ f (76 + i) = nI t) ∧ (∀ i, i < 10 → ∃ p, p < 6 ∧ f (91 + i) = nI p) ∧ ∀ i, i < 8 → ∃ p, p < 6 ∧ f (101 + i) = nI p
theorem rSnap.cg {f g : Nat → Int32} {n : Nat} (h : rSnap f n) (e : ∀ j, j < 124 → g j = f j) : rSnap g n := by
  obtain ⟨h1, ⟨c, c6, hc, l, l6, hl, ha, hb⟩, h3, h4, h5, h6, h7, h8, h9, h10, h11⟩ := h
  refine ⟨fun p hp => by rw [e p (by omega)]; exact h1 p hp, ⟨c, c6, by rw [e _ (by decide)]; exact hc, l, l6, by rw [e _ (by decide)]; exact hl, fun i hi => by rw [e _ (by omega)]; exact ha i hi, fun i j hij hj => by rw [e _ (by omega), e _ (by omega)]; exact hb i j hij hj⟩, fun k hk => by rw [e _ (by omega)]; exact h3 k hk, by rw [e _ (by decide)]; exact h4, by rw [e _ (by decide)]; exact h5, by rw [e _ (by decide)]; exact h6, by rw [e _ (by decide)]; exact h7, by rw [e _ (by decide)]; exact h8, fun i hi => by rw [e _ (by omega)]; exact h9 i hi, fun i hi => by rw [e _ (by omega)]; exact h10 i hi, fun i hi => by rw [e _ (by omega)]; exact h11 i hi⟩
theorem rSnap.mono {f : Nat → Int32} {n m : Nat} (h : rSnap f n) (hnm : n ≤ m) : rSnap f m := by
  obtain ⟨h1, h2, h3, h4, h5, h6, h7, h8, h9, h10, h11⟩ := h
  refine ⟨h1, h2, h3, h4, h5, h6, h7, ?_, h9, h10, h11⟩
  rcases h8 with q | ⟨k, k1, k2⟩
  · exact Or.inl q
  · exact Or.inr ⟨k, by omega, k2⟩
/-- what the reference's cells hold -/
def rDat (I : qI) : Prop := ∃ n, mIs I n ∧ rSnap (kp I) n ∧ (I 114 39 = 0 ∨ (I 114 39 = 1 ∧ rSnap (I 139) n)) ∧ (∃ z, z ≤ 100 ∧ I 114 11 = nI z ∧ ∀ j, j < z → ∃ k, k < 128 ∧ I 123 j = nI k) ∧ (∃ op, I 114 16 = nI op) ∧ (∃ t, t < 2 ^ 30 ∧ I 114 37 = nI t) ∧ ∀ t, t < 6 → ∃ z, z ≤ 60 ∧ I 146 t = nI z
theorem mIs.cg {I K : qI} {n : Nat} (h : mIs I n) (e17 : K 114 17 = I 114 17) (e25 : K 114 25 = I 114 25) (hK : ∀ a, 124 ≤ a → a ≤ 129 → K a = I a) : mIs K n := by
  obtain ⟨h1, h2, cz, h3, h4, h5⟩ := h
  refine ⟨h1, e17.trans h2, cz, h3, e25.trans h4, fun h hh => ?_⟩
  obtain ⟨k, k1, k2, k3⟩ := h5 h hh
  refine ⟨k, k1, by rw [hK 124 (by omega) (by omega)]; exact k2, fun i hi => ?_⟩
  unfold mClOK
  rw [hK 125 (by omega) (by omega), hK 127 (by omega) (by omega), hK 128 (by omega) (by omega), hK 129 (by omega) (by omega)]
  exact k3 i hi
theorem kpa_in : ∀ j, j < 124 → 114 ≤ (kpa j).1 ∧ (kpa j).1 ≤ 147 := by decide +kernel
/-- the object's calls leave it -/
theorem rDat.far {I I' : qI} {J J' : qJ} (h : rDat I) (hf : cFar I I' J J') : rDat I' := by
  have e : ∀ a, 114 ≤ a → a ≤ 147 → I' a = I a := fun a h1 h2 => (hf a h1 h2).1
  obtain ⟨n, h1, h2, h3, h4, h5, h6, h7⟩ := h
  refine ⟨n, h1.cg (by rw [e 114 (by omega) (by omega)]) (by rw [e 114 (by omega) (by omega)]) (fun a a1 a2 => e a (by omega) (by omega)), h2.cg (fun j hj => ?_), ?_, ?_, ?_, ?_, ?_⟩
  · obtain ⟨q1, q2⟩ := kpa_in j hj
    unfold kp
    rw [e _ q1 q2]
  · rw [e 114 (by omega) (by omega), e 139 (by omega) (by omega)]; exact h3
  · rw [e 114 (by omega) (by omega), e 123 (by omega) (by omega)]; exact h4
  · rw [e 114 (by omega) (by omega)]; exact h5
  · rw [e 114 (by omega) (by omega)]; exact h6
  · rw [e 146 (by omega) (by omega)]; exact h7
/-- what asks leave -/
theorem rDat.same {I I' : qI} (h : rDat I) (hs : mSame I I') : rDat I' := by
  obtain ⟨s1, s2, s3⟩ := hs
  have nk : ∀ a, (a = 123 ∨ (124 ≤ a ∧ a ≤ 129) ∨ a = 139 ∨ a = 146) → I' a = I a := fun a ha => s2 a (by unfold kpc; omega) (by omega)
  have f : ∀ j, j ≠ 0 → j ≠ 8 → j ≠ 10 → j ≠ 18 → j ≠ 27 → j ≠ 31 → j ≠ 34 → j ≠ 43 → j ≠ 48 → I' 114 j = I 114 j := s3
  obtain ⟨n, h1, h2, h3, h4, h5, h6, h7⟩ := h
  refine ⟨n, h1.cg (f 17 (by decide) (by decide) (by decide) (by decide) (by decide) (by decide) (by decide) (by decide) (by decide)) (f 25 (by decide) (by decide) (by decide) (by decide) (by decide) (by decide) (by decide) (by decide) (by decide)) (fun a a1 a2 => nk a (by omega)), h2.cg s1, ?_, ?_, ?_, ?_, ?_⟩
  · rw [f 39 (by decide) (by decide) (by decide) (by decide) (by decide) (by decide) (by decide) (by decide) (by decide), nk 139 (by omega)]; exact h3
  · rw [f 11 (by decide) (by decide) (by decide) (by decide) (by decide) (by decide) (by decide) (by decide) (by decide), nk 123 (by omega)]; exact h4
  · rw [f 16 (by decide) (by decide) (by decide) (by decide) (by decide) (by decide) (by decide) (by decide) (by decide)]; exact h5
  · rw [f 37 (by decide) (by decide) (by decide) (by decide) (by decide) (by decide) (by decide) (by decide) (by decide)]; exact h6
  · rw [nk 146 (by omega)]; exact h7
/-- what a day asks -/
theorem rDat.day {I : qI} (h : rDat I) : mDay I 9999 := by
  obtain ⟨n, h1, ⟨k1, ⟨c, c6, hc, l, l6, hl, -⟩, k3, ⟨d, d9, hd⟩, -, -, -, k8, -⟩, -⟩ := h
  exact ⟨⟨n, h1, k8⟩, ⟨c, c6, hc⟩, ⟨l, l6, hl⟩, fun k hk => by
    obtain ⟨p, p6, hp⟩ := k3 k hk
    refine ⟨p, p6, ?_⟩
    rw [← hp]
    have : ∀ k, k < 6 → kpa (36 + k) = (122, k) := by decide +kernel
    unfold kp
    rw [this k hk], d, d9, hd⟩
/-- the reference's calls leave the object -/
theorem cINV.rf {S : qSh} {I I' : qI} {J J' : qJ} {w0 w1 w2 bl : Nat} (h : cINV S I J w0 w1 w2 bl) (hf : ∀ a, (a < 114 ∨ 147 < a) → I' a = I a ∧ J' a = J a) : cINV S I' J' w0 w1 w2 bl := by
  obtain ⟨hO, hZ, hN, hi, hd⟩ := h
  have hi0 := hi
  obtain ⟨e0, e1, e2, eb, s0, s2, s3⟩ := hi
  refine ⟨hO, hZ.fr (fun a ha => hf a (by omega)), hN, hi0, hd.fr (fun a ha => (hf a ?_).1) e0 e2⟩
  unfold qW1 at e0 e2
  unfold cR at ha
  omega
