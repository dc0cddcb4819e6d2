/-! naming what the machine holds -/
section QSY
variable {E : qE} {y : MethodName} {cc : ByteArray} {ret : Option FieldType} {d mc ms cells slots pc : Nat} {Q : qPost} {L : List (Option Value)} {st : List Value} {S : qSh} {I : qI} {J : qJ}
theorem r_nmI (k : ∀ I2, I2 = I → qW E y cc ret d mc ms Q cells slots pc L st S I2 J) : qW E y cc ret d mc ms Q cells slots pc L st S I J := k I rfl
theorem r_nmJ (k : ∀ J2, J2 = J → qW E y cc ret d mc ms Q cells slots pc L st S I J2) : qW E y cc ret d mc ms Q cells slots pc L st S I J := k J rfl
theorem r_top {x v : Int32} (h : x = v) (k : qW E y cc ret d mc ms Q cells slots pc L (.int v :: st) S I J) : qW E y cc ret d mc ms Q cells slots pc L (.int x :: st) S I J := h ▸ k
theorem r_topJ {x v : Int64} (h : x = v) (k : qW E y cc ret d mc ms Q cells slots pc L (.long v :: st) S I J) : qW E y cc ret d mc ms Q cells slots pc L (.long x :: st) S I J := h ▸ k
theorem r_dup2 {v w : Value} (hd : decode cc pc = .ok (.dup2, 1)) (hv : v.category = 1) (hw : w.category = 1) (k : qW E y cc ret d mc ms Q cells slots (pc + 1) L (v :: w :: v :: w :: st) S I J) : qW E y cc ret d mc ms Q cells slots pc L (v :: w :: st) S I J := fun p l e s m args below meth c H locs ls C K P V hL => lv_dup2_11 C.1 C.2.1 hd hv hw (k p l e s m args below meth c H locs ls C K P V hL)
end QSY
/-- one writing less: a memory that stays below a bound -/
theorem qsetR_same {S : qSh} {o j : Nat} {x : Option Nat} (h : qR S o j = x) : qsetR S o j x = S := by
  have e : qup (qR S) o j x = qR S := by
    funext a b
    by_cases q : a = o ∧ b = j
    · obtain ⟨rfl, rfl⟩ := q; rw [qup_at, h]
    · exact qup_ne q
  show (qN S, qK S, qL S, qup (qR S) o j x) = S
  rw [e]; rfl
/-! the reference: its cells -/
def mdT : List (Nat × Nat × Nat × Nat) := [(1, 115, 11, 6), (2, 116, 11, 6), (3, 117, 11, 6), (4, 118, 11, 6), (5, 119, 11, 6), (6, 120, 11, 6), (7, 121, 11, 24), (9, 122, 11, 6), (12, 123, 11, 100), (19, 124, 11, 6), (20, 125, 11, 61), (21, 126, 11, 61), (22, 127, 11, 61), (23, 128, 11, 61), (24, 129, 11, 800), (26, 130, 13, 110), (28, 131, 11, 5), (29, 132, 11, 5), (30, 133, 11, 5), (32, 134, 11, 10), (33, 135, 11, 10), (35, 136, 11, 8), (36, 137, 11, 8), (38, 138, 11, 20), (40, 139, 11, 125), (41, 140, 11, 125), (42, 141, 11, 36), (44, 142, 11, 6), (45, 143, 11, 6), (46, 144, 11, 6), (53, 145, 11, 6), (54, 146, 11, 6), (55, 147, 12, 360)]
def isMd (S : qSh) : Prop := qT S 114 9 ∧ ∀ t ∈ mdT, qR S 114 t.1 = some t.2.1 ∧ qAr S t.2.1 t.2.2.1 t.2.2.2
theorem isMd.r {S : qSh} (h : isMd S) {j a k n : Nat} (i : Nat) (e : mdT[i]? = some (j, a, k, n)) : qR S 114 j = some a := (h.2 _ (List.mem_of_getElem? e)).1
theorem isMd.a {S : qSh} (h : isMd S) {j a k n : Nat} (i : Nat) (e : mdT[i]? = some (j, a, k, n)) : qAr S a k n := (h.2 _ (List.mem_of_getElem? e)).2
theorem qMet.post {E : qE} {y : MethodName} {cc : ByteArray} {nL : Nat} {ret : Option FieldType} {d mc ms : Nat} {av : List Value} {S : qSh} {I : qI} {J : qJ} {Q Q' : qPost} (h : qMet E y cc nL ret d mc ms av S I J Q) (hQ : ∀ v S' I' J', Q v S' I' J' → Q' v S' I' J') : qMet E y cc nL ret d mc ms av S I J Q' := by
  intro l
  have h0 := h l
  unfold Met at h0 ⊢
  intro p e ha hc hk s m args below hf happ hP hK
  obtain ⟨n, o, h1, h2, h3, ⟨⟨v, S', I', J', e1, e2, e3⟩, hF⟩, hL⟩ := h0 p e ha hc hk s m args below hf happ hP hK
  exact ⟨n, o, h1, h2, h3, ⟨⟨v, S', I', J', e1, hQ _ _ _ _ e2, e3⟩, hF⟩, hL⟩
