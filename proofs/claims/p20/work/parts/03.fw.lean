/-! A small machine over the kit's: the heap as shapes, an int memory and a long memory; addresses are base + id. -/
abbrev qE : Type := Nat × va_G × (Nat → ClassId) × Nat × Nat × (Nat → Nat) × (Nat → Nat) × Nat × Nat × (Nat → Int32)
abbrev qSh : Type := Nat × (Nat → Nat) × (Nat → Nat) × (Nat → Nat → Option Nat)
abbrev qI : Type := Nat → Nat → Int32
abbrev qJ : Type := Nat → Nat → Int64
abbrev qPost : Type := Option Value → qSh → qI → qJ → Prop
def qb (E : qE) : Nat := E.1
def qD (E : qE) : va_G := E.2.1
def qcA (E : qE) : Nat → ClassId := E.2.2.1
def qt0 (E : qE) : Nat := E.2.2.2.1
def qt1 (E : qE) : Nat := E.2.2.2.2.1
def qsK (E : qE) : Nat → Nat := E.2.2.2.2.2.1
def qsV (E : qE) : Nat → Nat := E.2.2.2.2.2.2.1
def qsc (E : qE) : Nat := E.2.2.2.2.2.2.2.1
def qsl (E : qE) : Nat := E.2.2.2.2.2.2.2.2.1
def qsx (E : qE) : Nat → Int32 := E.2.2.2.2.2.2.2.2.2
def qN (S : qSh) : Nat := S.1
def qK (S : qSh) : Nat → Nat := S.2.1
def qL (S : qSh) : Nat → Nat := S.2.2.1
def qR (S : qSh) : Nat → Nat → Option Nat := S.2.2.2
def qup {α : Type} (M : Nat → Nat → α) (a j : Nat) (x : α) : Nat → Nat → α := fun a' j' => if a' = a ∧ j' = j then x else M a' j'
def qsetR (S : qSh) (a j : Nat) (x : Option Nat) : qSh := (qN S, qK S, qL S, qup (qR S) a j x)
def qFK (k j : Nat) : Nat := (qFT.getD k []).getD j 3
def qNF (k : Nat) : Nat := (qFT.getD k []).length
def qref (E : qE) (r : Option Nat) : Value := va_rf (r.map (qb E + ·))
def qfv (E : qE) (S : qSh) (I : qI) (J : qJ) (a k j : Nat) : Value := match qFK k j with
  | 0 => .int (I a j)
  | 1 => .long (J a j)
  | _ => qref E (qR S a j)
def qfs (E : qE) (S : qSh) (I : qI) (J : qJ) (a k : Nat) : List Value := (List.range (qNF k)).map (qfv E S I J a k)
def qcont (E : qE) (S : qSh) (I : qI) (J : qJ) (a k : Nat) : (Nat → Int32) ⊕ (Nat → Int64) ⊕ (Nat → UInt32) ⊕ (Nat → UInt64) ⊕ (Nat → Option Nat) := match k with
  | 12 => .inr (.inl (J a))
  | 14 => .inr (.inr (.inr (.inr (fun j => (qR S a j).map (qb E + ·)))))
  | 15 => .inr (.inr (.inr (.inr (fun j => (qR S a j).map (qb E + ·)))))
  | _ => .inl (I a)
def qcell (E : qE) (S : qSh) (I : qI) (J : qJ) (a : Nat) : va_E := if qK S a < 10 then .inr (qK S a, qfs E S I J a (qK S a)) else .inl (qcA E (qK S a), qL S a, qcont E S I J a (qK S a))
/-- the heap holds what the memory says, and nothing else from the base on -/
def qHP (E : qE) (S : qSh) (I : qI) (J : qJ) (H : Heap) : Prop := H.size = qb E + qN S ∧ ∀ a, a < qN S → va_at (qD E) vwCl (qb E + a, qcell E S I J a) H
def qA (E : qE) : Nat → Prop := fun q => qb E ≤ q
def qty : Nat → FieldType := fun k => match k with
  | 10 => .byte
  | 11 => .int
  | 12 => .long
  | 13 => .boolean
  | 14 => .object "OneMourner$Mourner"
  | _ => .object "OneMourner$Tape"
def qtys (E : qE) : List (ClassId × FieldType) := [(qcA E 10, qty 10), (qcA E 11, qty 11), (qcA E 12, qty 12), (qcA E 13, qty 13), (qcA E 14, qty 14), (qcA E 15, qty 15)]
def qabove : List Int32 := [-1, 0, 0, 0, 1, 2, 3]
def qbodies : List Int32 := [10, 11, 12, 0, 20, 0, 30, 0, 0, 0, 0, 40, 50, 51, 0, 0, 0, 60, 71, 70, 0]
/-- what is older than the base and stays: the tables, the statics, the texts -/
def qKO (E : qE) (s : State) : Prop := va_K (qD E) vwCl (qtys E) s ∧ (∀ q ∈ qNestF, va_Nw (.fieldLinkNest q.1 q.2.1 q.2.2.1 q.2.2.2.1 q.2.2.2.2.1 q.2.2.2.2.2) s) ∧ (∀ q ∈ qNestM, va_Nw (.methodLinkNest q.1 q.2.1 q.2.2.1 q.2.2.2) s) ∧
  (va_Z "OneMourner" "ABOVE" "[I" (.ref (qt0 E)) (qA E) s s.heap ∧ va_T .int (qt0 E) 7 (fun j => .int (qabove.getD j 0)) (qA E) s s.heap) ∧
  (va_Z "OneMourner$Acts" "BODIES" "[I" (.ref (qt1 E)) (qA E) s s.heap ∧ va_T .int (qt1 E) 21 (fun j => .int (qbodies.getD j 0)) (qA E) s s.heap) ∧
  (va_Z "java/lang/String" "COMPACT_STRINGS" "Z" (.int 1) (qA E) s s.heap ∧ va_Zq "jdk/internal/util/Preconditions" "SIOOBE_FORMATTER" "Ljava/util/function/BiFunction;" (qA E) s s.heap) ∧
  (vk_S 7 qLen qByt (qsK E) (qsV E) (qA E) s s.heap ∧ ∀ q ∈ qStr, vk_R q.1 q.2.1 q.2.2.1 (qsK E q.2.2.2) s) ∧ (va_AO "OneMourner$Mourner" s ∧ va_AO "OneMourner$Tape" s) ∧ qb E ≤ s.heap.size ∧ (va_X (qsc E) (qsl E) (qsx E) s s.heap ∧ qsc E < qb E)
theorem qnm {α : Type} {f : Nat → α} {n k : Nat} (h : k < n) : ((List.range n).map f)[k]? = some (f k) := by
  rw [List.getElem?_map, List.getElem?_range h]; rfl
theorem qnset {α : Type} {f g : Nat → α} {n k : Nat} {v : α} (hk : g k = v) (ho : ∀ j, j < n → j ≠ k → g j = f j) : ((List.range n).map f).set k v = (List.range n).map g := by
  apply List.ext_getElem?
  intro i
  by_cases hi : i < n
  · rw [qnm hi]
    by_cases e : i = k
    · subst e
      rw [List.getElem?_set_self (by simpa using hi), hk]
    · rw [List.getElem?_set_ne (Ne.symm e), qnm hi, ho i hi e]
  · rw [List.getElem?_eq_none (by simpa using hi), List.getElem?_eq_none (by simpa using hi)]
theorem qKO.callTo {E : qE} {s U : State} {H : Heap} {locs : List Loc} (K : qKO E s) (hS : va_S (qA E) s.heap H locs) (hU : U.heap = H) (hW : s.WarmedH U.vm) : qKO E U := by
  obtain ⟨k1, k2, k3, ⟨k4, k5⟩, ⟨k6, k7⟩, ⟨k8, k9⟩, ⟨k10, k11⟩, ⟨k12, k14⟩, k13, k15, k16⟩ := K
  subst hU
  have hq : ∀ a : Nat, a < s.heap.size → ¬ qA E a → U.heap[a]? = s.heap[a]? := hS.2.1
  have al := hW.alike
  refine ⟨va_K.moved al k1, fun q h => va_Nw.warmF hW (k2 q h), fun q h => va_Nw.warmM hW (k3 q h), ⟨(k4.moved al).kept hq, (k5.moved al).kept hq⟩, ⟨(k6.moved al).kept hq, (k7.moved al).kept hq⟩, ⟨(k8.moved al).kept hq, (k9.moved al).kept hq⟩, ⟨(k10.moved al).kept hq, fun q h => vk_R.warm hW (k11 q h)⟩, ⟨k12.moved al, k14.moved al⟩, Nat.le_trans k13 hS.1, (k15.moved al).kept (hq _ (Nat.lt_of_lt_of_le k16 k13) (Nat.not_le.mpr k16)), k16⟩
theorem qKO.calling {E : qE} {U : State} {g : JFrame} {mk : MethodId} {a : Array Value} (K : qKO E U) : qKO E (U.calling g mk a) := by
  obtain ⟨k1, k2, k3, ⟨k4, k5⟩, ⟨k6, k7⟩, ⟨k8, k9⟩, ⟨k10, k11⟩, ⟨k12, k14⟩, k13, k15, k16⟩ := K
  have al : U.vm.Alike (U.calling g mk a).vm := Vm.Alike.refl U.vm
  have hq : ∀ q : Nat, q < U.heap.size → ¬ qA E q → (U.calling g mk a).heap[q]? = U.heap[q]? := fun _ _ _ => rfl
  refine ⟨va_K.moved al k1, fun q h => va_Nw.same rfl (rfl : U.vm = (U.calling g mk a).vm) (k2 q h), fun q h => va_Nw.same rfl (rfl : U.vm = (U.calling g mk a).vm) (k3 q h), ⟨(k4.moved al).kept hq, (k5.moved al).kept hq⟩, ⟨(k6.moved al).kept hq, (k7.moved al).kept hq⟩, ⟨(k8.moved al).kept hq, (k9.moved al).kept hq⟩, ⟨(k10.moved al).kept hq, fun q h => vk_R.same (rfl : (U.calling g mk a).vm = U.vm) (k11 q h)⟩, ⟨k12.moved al, k14.moved al⟩, k13, (k15.moved al).kept (hq _ (Nat.lt_of_lt_of_le k16 k13) (Nat.not_le.mpr k16)), k16⟩
/-- what a walk of a method needs of its own: the machine, its code, its words, its class -/
def qCX (p : Program) (s : State) (m : MethodId) (meth : Method) (c : Code) (args : Array Value) (y : MethodName) (cc : ByteArray) (nL : Nat) (ret : Option FieldType) : Prop :=
  p.tables.exec = Jvm.exec ∧ c.code = cc ∧ c.maxLocals = nL ∧ meth.sig.returnType = ret ∧ (∀ w ∈ qBIG, w.before args s = true) ∧ s.vm.findClass y.cls = some m.cls ∧ meth.locks = false ∧ (y.name = "<init>" → meth.name = "<init>")
def qLv (ls : Array Slot) (L : List (Option Value)) : Prop := ls.size = L.length ∧ lv_wf ls ∧ ∀ (i : Nat) (v : Value), L[i]? = some (some v) → ls[i]? = some (.val v)
def qQ (E : qE) (Q : qPost) : Array Value → State → Outcome → State → Prop := fun _ st oc t => (∃ v S I J, oc = .returned v ∧ Q v S I J ∧ qHP E S I J t.heap) ∧ va_F (qA E) st t
def qRm (d mc ms : Nat) : Room := { frames := d, cells := mc, slots := ms, locals := 64 * d }
def qW (E : qE) (y : MethodName) (cc : ByteArray) (ret : Option FieldType) (d mc ms : Nat) (Q : qPost) (cells slots pc : Nat) (L : List (Option Value)) (st : List Value) (S : qSh) (I : qI) (J : qJ) : Prop :=
  ∀ (p : Program) (l : Launch) (e : Env) (s : State) (m : MethodId) (args : Array Value) (below : List Frame) (meth : Method) (c : Code) (H : Heap) (locs : List Loc) (ls : Array Slot),
    qCX p s m meth c args y cc L.length ret → qKO E s → qHP E S I J H → va_S (qA E) s.heap H locs → qLv ls L →
    W p l e (qRm d mc ms) s m args below meth c H locs cells slots (MQ below (qQ E Q) args s mc ms (qA E)) (F0 m pc ls st)
def qPre (E : qE) (av : List Value) (S : qSh) (I : qI) (J : qJ) : Array Value → State → Prop := fun a U => a = av.toArray ∧ qKO E U ∧ qHP E S I J U.heap
def qMet (E : qE) (y : MethodName) (cc : ByteArray) (nL : Nat) (ret : Option FieldType) (d mc ms : Nat) (av : List Value) (S : qSh) (I : qI) (J : qJ) (Q : qPost) : Prop :=
  ∀ l : Launch, Met l y (Cond.code y cc nL ret :: qBIG) (qRm d mc ms) (qPre E av S I J) (qQ E Q) mc ms (qA E)
def qent (vs : List Value) (n : Nat) : List (Option Value) := (vs.flatMap fun v => if v.category = 2 then [some v, none] else [some v]) ++ List.replicate (n - (lg_sl vs).length) none
theorem qent_len (vs : List Value) : (vs.flatMap fun v => if v.category = 2 then [some v, none] else [some v]).length = (lg_sl vs).length := by
  induction vs with
  | nil => rfl
  | cons v t ih =>
    simp only [lg_sl, List.flatMap_cons, List.length_append] at ih ⊢
    rw [ih]
    split <;> rfl
theorem qent_at (vs : List Value) : ∀ (i : Nat) (v : Value), (vs.flatMap fun v => if v.category = 2 then [some v, none] else [some v])[i]? = some (some v) → (lg_sl vs)[i]? = some (.val v) := by
  induction vs with
  | nil => intro i v h; simp at h
  | cons w t ih =>
    intro i v h
    simp only [lg_sl, List.flatMap_cons] at h ih ⊢
    by_cases hc : w.category = 2
    · simp only [hc, if_true] at h ⊢
      match i, h with
      | 0, h => simp at h; simp [h]
      | 1, h => simp at h
      | k + 2, h =>
        simp at h
        simpa using ih k v (by simpa using h)
    · simp only [hc, if_false] at h ⊢
      match i, h with
      | 0, h => simp at h; simp [h]
      | k + 1, h =>
        simp at h
        simpa using ih k v (by simpa using h)
theorem qLv.entry {vs : List Value} {n : Nat} (h : (lg_sl vs).length ≤ n) : qLv ((lg_sl vs ++ List.replicate (n - (lg_sl vs).length) Slot.unset).toArray) (qent vs n) := by
  have h0 := lv_entry vs h
  refine ⟨?_, h0.2.1, fun i v hi => ?_⟩
  · rw [h0.1]; unfold qent; rw [List.length_append, qent_len, List.length_replicate]; omega
  · unfold qent at hi
    by_cases hl : i < (lg_sl vs).length
    · rw [List.getElem?_append_left (by rw [qent_len]; exact hl)] at hi
      have := qent_at vs i v hi
      simp [List.getElem?_append_left hl, this]
    · rw [List.getElem?_append_right (by rw [qent_len]; omega)] at hi
      have := List.getElem?_eq_some_iff.mp hi
      simp at this
theorem qMet.of {E : qE} {y : MethodName} {cc : ByteArray} {nL : Nat} {ret : Option FieldType} {d mc ms : Nat} {av : List Value} {S : qSh} {I : qI} {J : qJ} {Q : qPost} {L : List (Option Value)} (hy : plainName y.cls = true) (hl : (lg_sl av).length ≤ nL) (hL : qent av nL = L) (k : qW E y cc ret d mc ms Q 0 0 0 L [] S I J) : qMet E y cc nL ret d mc ms av S I J Q := by
  intro l
  subst hL
  refine Met.ofW (cc := cc) (maxL := nL) (ret := ret) hy rfl ?_
  intro p e s m args below meth c s₁ B hml hv
  obtain ⟨rfl, hK, hH⟩ := hv
  have hts := atoms_spec (ws := Cond.code y cc nL ret :: qBIG) B.pre
  have hlen : (qent av nL).length = nL := by
    unfold qent; rw [List.length_append, qent_len, List.length_replicate]; omega
  rw [lg_entry_eq]
  refine k p l e s m _ below meth c s.heap [] _ ⟨B.exec, B.bytes, by rw [hlen]; exact hml, B.returns, fun w hw => hts w (List.mem_cons_of_mem _ hw), findClass_of_methodNamed B.named, B.notSynchronized, fun hn9 => (name_of_methodNamed B.named B.method).1.trans hn9⟩ hK hH va_S.rf (qLv.entry hl)

theorem r_iadd {E : qE} {y : MethodName} {cc : ByteArray} {ret : Option FieldType} {d mc ms cells slots pc : Nat} {Q : qPost} {L : List (Option Value)} {st : List Value} {S : qSh} {I : qI} {J : qJ} {a b : Int32} (hd : decode cc pc = .ok (.iadd, 1)) (k : qW E y cc ret d mc ms Q cells slots (pc + 1) L (.int (a + b) :: st) S I J) : qW E y cc ret d mc ms Q cells slots pc L (.int b :: .int a :: st) S I J := fun p l e s m args below meth c H locs ls C K P V hL => lv_iadd C.1 C.2.1 hd (k p l e s m args below meth c H locs ls C K P V hL)
theorem r_isub {E : qE} {y : MethodName} {cc : ByteArray} {ret : Option FieldType} {d mc ms cells slots pc : Nat} {Q : qPost} {L : List (Option Value)} {st : List Value} {S : qSh} {I : qI} {J : qJ} {a b : Int32} (hd : decode cc pc = .ok (.isub, 1)) (k : qW E y cc ret d mc ms Q cells slots (pc + 1) L (.int (a - b) :: st) S I J) : qW E y cc ret d mc ms Q cells slots pc L (.int b :: .int a :: st) S I J := fun p l e s m args below meth c H locs ls C K P V hL => lv_isub C.1 C.2.1 hd (k p l e s m args below meth c H locs ls C K P V hL)
theorem r_imul {E : qE} {y : MethodName} {cc : ByteArray} {ret : Option FieldType} {d mc ms cells slots pc : Nat} {Q : qPost} {L : List (Option Value)} {st : List Value} {S : qSh} {I : qI} {J : qJ} {a b : Int32} (hd : decode cc pc = .ok (.imul, 1)) (k : qW E y cc ret d mc ms Q cells slots (pc + 1) L (.int (a * b) :: st) S I J) : qW E y cc ret d mc ms Q cells slots pc L (.int b :: .int a :: st) S I J := fun p l e s m args below meth c H locs ls C K P V hL => lv_imul C.1 C.2.1 hd (k p l e s m args below meth c H locs ls C K P V hL)
theorem r_iand {E : qE} {y : MethodName} {cc : ByteArray} {ret : Option FieldType} {d mc ms cells slots pc : Nat} {Q : qPost} {L : List (Option Value)} {st : List Value} {S : qSh} {I : qI} {J : qJ} {a b : Int32} (hd : decode cc pc = .ok (.iand, 1)) (k : qW E y cc ret d mc ms Q cells slots (pc + 1) L (.int (a &&& b) :: st) S I J) : qW E y cc ret d mc ms Q cells slots pc L (.int b :: .int a :: st) S I J := fun p l e s m args below meth c H locs ls C K P V hL => lv_iand C.1 C.2.1 hd (k p l e s m args below meth c H locs ls C K P V hL)
theorem r_ior {E : qE} {y : MethodName} {cc : ByteArray} {ret : Option FieldType} {d mc ms cells slots pc : Nat} {Q : qPost} {L : List (Option Value)} {st : List Value} {S : qSh} {I : qI} {J : qJ} {a b : Int32} (hd : decode cc pc = .ok (.ior, 1)) (k : qW E y cc ret d mc ms Q cells slots (pc + 1) L (.int (a ||| b) :: st) S I J) : qW E y cc ret d mc ms Q cells slots pc L (.int b :: .int a :: st) S I J := fun p l e s m args below meth c H locs ls C K P V hL => lv_ior C.1 C.2.1 hd (k p l e s m args below meth c H locs ls C K P V hL)
theorem r_ixor {E : qE} {y : MethodName} {cc : ByteArray} {ret : Option FieldType} {d mc ms cells slots pc : Nat} {Q : qPost} {L : List (Option Value)} {st : List Value} {S : qSh} {I : qI} {J : qJ} {a b : Int32} (hd : decode cc pc = .ok (.ixor, 1)) (k : qW E y cc ret d mc ms Q cells slots (pc + 1) L (.int (a ^^^ b) :: st) S I J) : qW E y cc ret d mc ms Q cells slots pc L (.int b :: .int a :: st) S I J := fun p l e s m args below meth c H locs ls C K P V hL => lv_ixor C.1 C.2.1 hd (k p l e s m args below meth c H locs ls C K P V hL)
theorem r_ishl {E : qE} {y : MethodName} {cc : ByteArray} {ret : Option FieldType} {d mc ms cells slots pc : Nat} {Q : qPost} {L : List (Option Value)} {st : List Value} {S : qSh} {I : qI} {J : qJ} {a b : Int32} (hd : decode cc pc = .ok (.ishl, 1)) (k : qW E y cc ret d mc ms Q cells slots (pc + 1) L (.int (a <<< (b &&& 31)) :: st) S I J) : qW E y cc ret d mc ms Q cells slots pc L (.int b :: .int a :: st) S I J := fun p l e s m args below meth c H locs ls C K P V hL => lv_ishl C.1 C.2.1 hd (k p l e s m args below meth c H locs ls C K P V hL)
theorem r_ishr {E : qE} {y : MethodName} {cc : ByteArray} {ret : Option FieldType} {d mc ms cells slots pc : Nat} {Q : qPost} {L : List (Option Value)} {st : List Value} {S : qSh} {I : qI} {J : qJ} {a b : Int32} (hd : decode cc pc = .ok (.ishr, 1)) (k : qW E y cc ret d mc ms Q cells slots (pc + 1) L (.int (a >>> (b &&& 31)) :: st) S I J) : qW E y cc ret d mc ms Q cells slots pc L (.int b :: .int a :: st) S I J := fun p l e s m args below meth c H locs ls C K P V hL => lv_ishr C.1 C.2.1 hd (k p l e s m args below meth c H locs ls C K P V hL)
theorem r_ineg {E : qE} {y : MethodName} {cc : ByteArray} {ret : Option FieldType} {d mc ms cells slots pc : Nat} {Q : qPost} {L : List (Option Value)} {st : List Value} {S : qSh} {I : qI} {J : qJ} {a : Int32} (hd : decode cc pc = .ok (.ineg, 1)) (k : qW E y cc ret d mc ms Q cells slots (pc + 1) L (.int (-a) :: st) S I J) : qW E y cc ret d mc ms Q cells slots pc L (.int a :: st) S I J := fun p l e s m args below meth c H locs ls C K P V hL => lv_ineg C.1 C.2.1 hd (k p l e s m args below meth c H locs ls C K P V hL)
theorem r_idiv {E : qE} {y : MethodName} {cc : ByteArray} {ret : Option FieldType} {d mc ms cells slots pc : Nat} {Q : qPost} {L : List (Option Value)} {st : List Value} {S : qSh} {I : qI} {J : qJ} {a b : Int32} (hd : decode cc pc = .ok (.idiv, 1)) (hne : ¬ b = 0) (k : qW E y cc ret d mc ms Q cells slots (pc + 1) L (.int (a / b) :: st) S I J) : qW E y cc ret d mc ms Q cells slots pc L (.int b :: .int a :: st) S I J := fun p l e s m args below meth c H locs ls C K P V hL => lv_idiv C.1 C.2.1 hd hne (k p l e s m args below meth c H locs ls C K P V hL)
theorem r_irem {E : qE} {y : MethodName} {cc : ByteArray} {ret : Option FieldType} {d mc ms cells slots pc : Nat} {Q : qPost} {L : List (Option Value)} {st : List Value} {S : qSh} {I : qI} {J : qJ} {a b : Int32} (hd : decode cc pc = .ok (.irem, 1)) (hne : ¬ b = 0) (k : qW E y cc ret d mc ms Q cells slots (pc + 1) L (.int (a - a / b * b) :: st) S I J) : qW E y cc ret d mc ms Q cells slots pc L (.int b :: .int a :: st) S I J := fun p l e s m args below meth c H locs ls C K P V hL => lv_irem C.1 C.2.1 hd hne (k p l e s m args below meth c H locs ls C K P V hL)
theorem r_iushr {E : qE} {y : MethodName} {cc : ByteArray} {ret : Option FieldType} {d mc ms cells slots pc : Nat} {Q : qPost} {L : List (Option Value)} {st : List Value} {S : qSh} {I : qI} {J : qJ} {a b v : Int32} (hd : decode cc pc = .ok (.iushr, 1)) (hv : (a.toUInt32 >>> (b.toUInt32 &&& Int32.toUInt32 31)).toInt32 = v) (k : qW E y cc ret d mc ms Q cells slots (pc + 1) L (.int v :: st) S I J) : qW E y cc ret d mc ms Q cells slots pc L (.int b :: .int a :: st) S I J := fun p l e s m args below meth c H locs ls C K P V hL => lv_iushr C.1 C.2.1 hd hv (k p l e s m args below meth c H locs ls C K P V hL)
theorem r_ladd {E : qE} {y : MethodName} {cc : ByteArray} {ret : Option FieldType} {d mc ms cells slots pc : Nat} {Q : qPost} {L : List (Option Value)} {st : List Value} {S : qSh} {I : qI} {J : qJ} {a b : Int64} (hd : decode cc pc = .ok (.ladd, 1)) (k : qW E y cc ret d mc ms Q cells slots (pc + 1) L (.long (a + b) :: st) S I J) : qW E y cc ret d mc ms Q cells slots pc L (.long b :: .long a :: st) S I J := fun p l e s m args below meth c H locs ls C K P V hL => lv_ladd C.1 C.2.1 hd (k p l e s m args below meth c H locs ls C K P V hL)
theorem r_land {E : qE} {y : MethodName} {cc : ByteArray} {ret : Option FieldType} {d mc ms cells slots pc : Nat} {Q : qPost} {L : List (Option Value)} {st : List Value} {S : qSh} {I : qI} {J : qJ} {a b : Int64} (hd : decode cc pc = .ok (.land, 1)) (k : qW E y cc ret d mc ms Q cells slots (pc + 1) L (.long (a &&& b) :: st) S I J) : qW E y cc ret d mc ms Q cells slots pc L (.long b :: .long a :: st) S I J := fun p l e s m args below meth c H locs ls C K P V hL => lv_land C.1 C.2.1 hd (k p l e s m args below meth c H locs ls C K P V hL)
theorem r_lor {E : qE} {y : MethodName} {cc : ByteArray} {ret : Option FieldType} {d mc ms cells slots pc : Nat} {Q : qPost} {L : List (Option Value)} {st : List Value} {S : qSh} {I : qI} {J : qJ} {a b : Int64} (hd : decode cc pc = .ok (.lor, 1)) (k : qW E y cc ret d mc ms Q cells slots (pc + 1) L (.long (a ||| b) :: st) S I J) : qW E y cc ret d mc ms Q cells slots pc L (.long b :: .long a :: st) S I J := fun p l e s m args below meth c H locs ls C K P V hL => lv_lor C.1 C.2.1 hd (k p l e s m args below meth c H locs ls C K P V hL)
theorem r_ldiv {E : qE} {y : MethodName} {cc : ByteArray} {ret : Option FieldType} {d mc ms cells slots pc : Nat} {Q : qPost} {L : List (Option Value)} {st : List Value} {S : qSh} {I : qI} {J : qJ} {a b : Int64} (hd : decode cc pc = .ok (.ldiv, 1)) (hne : ¬ b = 0) (k : qW E y cc ret d mc ms Q cells slots (pc + 1) L (.long (a / b) :: st) S I J) : qW E y cc ret d mc ms Q cells slots pc L (.long b :: .long a :: st) S I J := fun p l e s m args below meth c H locs ls C K P V hL => lv_ldiv C.1 C.2.1 hd hne (k p l e s m args below meth c H locs ls C K P V hL)
theorem r_lrem {E : qE} {y : MethodName} {cc : ByteArray} {ret : Option FieldType} {d mc ms cells slots pc : Nat} {Q : qPost} {L : List (Option Value)} {st : List Value} {S : qSh} {I : qI} {J : qJ} {a b : Int64} (hd : decode cc pc = .ok (.lrem, 1)) (hne : ¬ b = 0) (k : qW E y cc ret d mc ms Q cells slots (pc + 1) L (.long (a - a / b * b) :: st) S I J) : qW E y cc ret d mc ms Q cells slots pc L (.long b :: .long a :: st) S I J := fun p l e s m args below meth c H locs ls C K P V hL => lv_lrem C.1 C.2.1 hd hne (k p l e s m args below meth c H locs ls C K P V hL)
theorem r_lcmp {E : qE} {y : MethodName} {cc : ByteArray} {ret : Option FieldType} {d mc ms cells slots pc : Nat} {Q : qPost} {L : List (Option Value)} {st : List Value} {S : qSh} {I : qI} {J : qJ} {a b : Int64} (hd : decode cc pc = .ok (.lcmp, 1)) (k : qW E y cc ret d mc ms Q cells slots (pc + 1) L (.int (lg_cmp a b) :: st) S I J) : qW E y cc ret d mc ms Q cells slots pc L (.long b :: .long a :: st) S I J := fun p l e s m args below meth c H locs ls C K P V hL => W.lcmp C.1 C.2.1 hd (k p l e s m args below meth c H locs ls C K P V hL)
theorem r_lshl {E : qE} {y : MethodName} {cc : ByteArray} {ret : Option FieldType} {d mc ms cells slots pc : Nat} {Q : qPost} {L : List (Option Value)} {st : List Value} {S : qSh} {I : qI} {J : qJ} {a v : Int64} {b : Int32} (hd : decode cc pc = .ok (.lshl, 1)) (hv : a <<< (b.toInt64 &&& 63) = v) (k : qW E y cc ret d mc ms Q cells slots (pc + 1) L (.long v :: st) S I J) : qW E y cc ret d mc ms Q cells slots pc L (.int b :: .long a :: st) S I J := fun p l e s m args below meth c H locs ls C K P V hL => lv_lshl C.1 C.2.1 hd hv (k p l e s m args below meth c H locs ls C K P V hL)
theorem r_i2l {E : qE} {y : MethodName} {cc : ByteArray} {ret : Option FieldType} {d mc ms cells slots pc : Nat} {Q : qPost} {L : List (Option Value)} {st : List Value} {S : qSh} {I : qI} {J : qJ} {x : Int32} (hd : decode cc pc = .ok (.i2l, 1)) (k : qW E y cc ret d mc ms Q cells slots (pc + 1) L (.long (x.toInt64) :: st) S I J) : qW E y cc ret d mc ms Q cells slots pc L (.int x :: st) S I J := fun p l e s m args below meth c H locs ls C K P V hL => lv_i2l C.1 C.2.1 hd rfl (k p l e s m args below meth c H locs ls C K P V hL)
theorem r_l2i {E : qE} {y : MethodName} {cc : ByteArray} {ret : Option FieldType} {d mc ms cells slots pc : Nat} {Q : qPost} {L : List (Option Value)} {st : List Value} {S : qSh} {I : qI} {J : qJ} {x : Int64} (hd : decode cc pc = .ok (.l2i, 1)) (k : qW E y cc ret d mc ms Q cells slots (pc + 1) L (.int (x.toInt32) :: st) S I J) : qW E y cc ret d mc ms Q cells slots pc L (.long x :: st) S I J := fun p l e s m args below meth c H locs ls C K P V hL => lv_l2i C.1 C.2.1 hd rfl (k p l e s m args below meth c H locs ls C K P V hL)
theorem r_i2b {E : qE} {y : MethodName} {cc : ByteArray} {ret : Option FieldType} {d mc ms cells slots pc : Nat} {Q : qPost} {L : List (Option Value)} {st : List Value} {S : qSh} {I : qI} {J : qJ} {x : Int32} (hd : decode cc pc = .ok (.i2b, 1)) (k : qW E y cc ret d mc ms Q cells slots (pc + 1) L (.int (x.toInt8.toInt32) :: st) S I J) : qW E y cc ret d mc ms Q cells slots pc L (.int x :: st) S I J := fun p l e s m args below meth c H locs ls C K P V hL => lv_i2b C.1 C.2.1 hd rfl (k p l e s m args below meth c H locs ls C K P V hL)
theorem r_i2s {E : qE} {y : MethodName} {cc : ByteArray} {ret : Option FieldType} {d mc ms cells slots pc : Nat} {Q : qPost} {L : List (Option Value)} {st : List Value} {S : qSh} {I : qI} {J : qJ} {x : Int32} (hd : decode cc pc = .ok (.i2s, 1)) (k : qW E y cc ret d mc ms Q cells slots (pc + 1) L (.int (x.toInt16.toInt32) :: st) S I J) : qW E y cc ret d mc ms Q cells slots pc L (.int x :: st) S I J := fun p l e s m args below meth c H locs ls C K P V hL => lv_i2s C.1 C.2.1 hd rfl (k p l e s m args below meth c H locs ls C K P V hL)
theorem r_i2c {E : qE} {y : MethodName} {cc : ByteArray} {ret : Option FieldType} {d mc ms cells slots pc : Nat} {Q : qPost} {L : List (Option Value)} {st : List Value} {S : qSh} {I : qI} {J : qJ} {x : Int32} (hd : decode cc pc = .ok (.i2c, 1)) (k : qW E y cc ret d mc ms Q cells slots (pc + 1) L (.int ((x.toUInt32 % 65536).toInt32) :: st) S I J) : qW E y cc ret d mc ms Q cells slots pc L (.int x :: st) S I J := fun p l e s m args below meth c H locs ls C K P V hL => lv_i2c C.1 C.2.1 hd rfl (k p l e s m args below meth c H locs ls C K P V hL)
theorem r_iconst {E : qE} {y : MethodName} {cc : ByteArray} {ret : Option FieldType} {d mc ms cells slots pc : Nat} {Q : qPost} {L : List (Option Value)} {st : List Value} {S : qSh} {I : qI} {J : qJ} {n : Int} {v : Int32} (hd : decode cc pc = .ok (.iconst n, 1)) (hv : Int32.ofInt n = v) (k : qW E y cc ret d mc ms Q cells slots (pc + 1) L (.int v :: st) S I J) : qW E y cc ret d mc ms Q cells slots pc L st S I J := fun p l e s m args below meth c H locs ls C K P V hL => lv_iconst C.1 C.2.1 hd hv (k p l e s m args below meth c H locs ls C K P V hL)
theorem r_lconst {E : qE} {y : MethodName} {cc : ByteArray} {ret : Option FieldType} {d mc ms cells slots pc : Nat} {Q : qPost} {L : List (Option Value)} {st : List Value} {S : qSh} {I : qI} {J : qJ} {n : Fin 2} {v : Int64} (hd : decode cc pc = .ok (.lconst n, 1)) (hv : Int64.ofNat (n : Nat) = v) (k : qW E y cc ret d mc ms Q cells slots (pc + 1) L (.long v :: st) S I J) : qW E y cc ret d mc ms Q cells slots pc L st S I J := fun p l e s m args below meth c H locs ls C K P V hL => lv_lconst C.1 C.2.1 hd hv (k p l e s m args below meth c H locs ls C K P V hL)
theorem r_bipush {E : qE} {y : MethodName} {cc : ByteArray} {ret : Option FieldType} {d mc ms cells slots pc : Nat} {Q : qPost} {L : List (Option Value)} {st : List Value} {S : qSh} {I : qI} {J : qJ} {n : Int} {v : Int32} (hd : decode cc pc = .ok (.bipush n, 2)) (hv : (Int8.ofInt n).toInt32 = v) (k : qW E y cc ret d mc ms Q cells slots (pc + 2) L (.int v :: st) S I J) : qW E y cc ret d mc ms Q cells slots pc L st S I J := fun p l e s m args below meth c H locs ls C K P V hL => lv_bipush C.1 C.2.1 hd hv (k p l e s m args below meth c H locs ls C K P V hL)
theorem r_sipush {E : qE} {y : MethodName} {cc : ByteArray} {ret : Option FieldType} {d mc ms cells slots pc : Nat} {Q : qPost} {L : List (Option Value)} {st : List Value} {S : qSh} {I : qI} {J : qJ} {n : Int} {v : Int32} (hd : decode cc pc = .ok (.sipush n, 3)) (hv : (Int16.ofInt n).toInt32 = v) (k : qW E y cc ret d mc ms Q cells slots (pc + 3) L (.int v :: st) S I J) : qW E y cc ret d mc ms Q cells slots pc L st S I J := fun p l e s m args below meth c H locs ls C K P V hL => lv_sipush C.1 C.2.1 hd hv (k p l e s m args below meth c H locs ls C K P V hL)
theorem r_pop {E : qE} {y : MethodName} {cc : ByteArray} {ret : Option FieldType} {d mc ms cells slots pc : Nat} {Q : qPost} {L : List (Option Value)} {st : List Value} {S : qSh} {I : qI} {J : qJ} {v : Value} (hd : decode cc pc = .ok (.pop, 1)) (hv : v.category = 1) (k : qW E y cc ret d mc ms Q cells slots (pc + 1) L st S I J) : qW E y cc ret d mc ms Q cells slots pc L (v :: st) S I J := fun p l e s m args below meth c H locs ls C K P V hL => lv_pop C.1 C.2.1 hd hv (k p l e s m args below meth c H locs ls C K P V hL)
theorem r_dup {E : qE} {y : MethodName} {cc : ByteArray} {ret : Option FieldType} {d mc ms cells slots pc : Nat} {Q : qPost} {L : List (Option Value)} {st : List Value} {S : qSh} {I : qI} {J : qJ} {v : Value} (hd : decode cc pc = .ok (.dup, 1)) (hv : v.category = 1) (k : qW E y cc ret d mc ms Q cells slots (pc + 1) L (v :: v :: st) S I J) : qW E y cc ret d mc ms Q cells slots pc L (v :: st) S I J := fun p l e s m args below meth c H locs ls C K P V hL => lv_dup C.1 C.2.1 hd hv (k p l e s m args below meth c H locs ls C K P V hL)
theorem r_dup_x1 {E : qE} {y : MethodName} {cc : ByteArray} {ret : Option FieldType} {d mc ms cells slots pc : Nat} {Q : qPost} {L : List (Option Value)} {st : List Value} {S : qSh} {I : qI} {J : qJ} {v w : Value} (hd : decode cc pc = .ok (.dup_x1, 1)) (hv : v.category = 1) (hw : w.category = 1) (k : qW E y cc ret d mc ms Q cells slots (pc + 1) L (v :: w :: v :: st) S I J) : qW E y cc ret d mc ms Q cells slots pc L (v :: w :: st) S I J := fun p l e s m args below meth c H locs ls C K P V hL => lv_dup_x1 C.1 C.2.1 hd hv hw (k p l e s m args below meth c H locs ls C K P V hL)
theorem r_goto {E : qE} {y : MethodName} {cc : ByteArray} {ret : Option FieldType} {d mc ms cells slots pc : Nat} {Q : qPost} {L : List (Option Value)} {st : List Value} {S : qSh} {I : qI} {J : qJ} {off : Int} {tgt : Nat} (hd : decode cc pc = .ok (.goto off, 3)) (ht : (pc : Int) + off = (tgt : Int)) (k : qW E y cc ret d mc ms Q cells slots tgt L st S I J) : qW E y cc ret d mc ms Q cells slots pc L st S I J := fun p l e s m args below meth c H locs ls C K P V hL => lv_goto C.1 C.2.1 hd ht (k p l e s m args below meth c H locs ls C K P V hL)
theorem r_icmp_eq {E : qE} {y : MethodName} {cc : ByteArray} {ret : Option FieldType} {d mc ms cells slots pc : Nat} {Q : qPost} {L : List (Option Value)} {st : List Value} {S : qSh} {I : qI} {J : qJ} {x z : Int32} {off : Int} {tgt : Nat} (hd : decode cc pc = .ok (.if_icmp .eq off, 3)) (ht : (pc : Int) + off = (tgt : Int)) (kt : x = z → qW E y cc ret d mc ms Q cells slots tgt L st S I J) (kf : ¬ x = z → qW E y cc ret d mc ms Q cells slots (pc + 3) L st S I J) : qW E y cc ret d mc ms Q cells slots pc L (.int z :: .int x :: st) S I J := fun p l e s m args below meth c H locs ls C K P V hL => lv_icmp_eq C.1 C.2.1 hd ht (fun h => kt h p l e s m args below meth c H locs ls C K P V hL) (fun h => kf h p l e s m args below meth c H locs ls C K P V hL)
theorem r_if_eq {E : qE} {y : MethodName} {cc : ByteArray} {ret : Option FieldType} {d mc ms cells slots pc : Nat} {Q : qPost} {L : List (Option Value)} {st : List Value} {S : qSh} {I : qI} {J : qJ} {x : Int32} {off : Int} {tgt : Nat} (hd : decode cc pc = .ok (.ifCond .eq off, 3)) (ht : (pc : Int) + off = (tgt : Int)) (kt : x = 0 → qW E y cc ret d mc ms Q cells slots tgt L st S I J) (kf : ¬ x = 0 → qW E y cc ret d mc ms Q cells slots (pc + 3) L st S I J) : qW E y cc ret d mc ms Q cells slots pc L (.int x :: st) S I J := fun p l e s m args below meth c H locs ls C K P V hL => lv_if_eq C.1 C.2.1 hd ht (fun h => kt h p l e s m args below meth c H locs ls C K P V hL) (fun h => kf h p l e s m args below meth c H locs ls C K P V hL)
theorem r_icmp_ne {E : qE} {y : MethodName} {cc : ByteArray} {ret : Option FieldType} {d mc ms cells slots pc : Nat} {Q : qPost} {L : List (Option Value)} {st : List Value} {S : qSh} {I : qI} {J : qJ} {x z : Int32} {off : Int} {tgt : Nat} (hd : decode cc pc = .ok (.if_icmp .ne off, 3)) (ht : (pc : Int) + off = (tgt : Int)) (kt : ¬ x = z → qW E y cc ret d mc ms Q cells slots tgt L st S I J) (kf : x = z → qW E y cc ret d mc ms Q cells slots (pc + 3) L st S I J) : qW E y cc ret d mc ms Q cells slots pc L (.int z :: .int x :: st) S I J := fun p l e s m args below meth c H locs ls C K P V hL => lv_icmp_ne C.1 C.2.1 hd ht (fun h => kt h p l e s m args below meth c H locs ls C K P V hL) (fun h => kf h p l e s m args below meth c H locs ls C K P V hL)
theorem r_if_ne {E : qE} {y : MethodName} {cc : ByteArray} {ret : Option FieldType} {d mc ms cells slots pc : Nat} {Q : qPost} {L : List (Option Value)} {st : List Value} {S : qSh} {I : qI} {J : qJ} {x : Int32} {off : Int} {tgt : Nat} (hd : decode cc pc = .ok (.ifCond .ne off, 3)) (ht : (pc : Int) + off = (tgt : Int)) (kt : ¬ x = 0 → qW E y cc ret d mc ms Q cells slots tgt L st S I J) (kf : x = 0 → qW E y cc ret d mc ms Q cells slots (pc + 3) L st S I J) : qW E y cc ret d mc ms Q cells slots pc L (.int x :: st) S I J := fun p l e s m args below meth c H locs ls C K P V hL => lv_if_ne C.1 C.2.1 hd ht (fun h => kt h p l e s m args below meth c H locs ls C K P V hL) (fun h => kf h p l e s m args below meth c H locs ls C K P V hL)
theorem r_icmp_lt {E : qE} {y : MethodName} {cc : ByteArray} {ret : Option FieldType} {d mc ms cells slots pc : Nat} {Q : qPost} {L : List (Option Value)} {st : List Value} {S : qSh} {I : qI} {J : qJ} {x z : Int32} {off : Int} {tgt : Nat} (hd : decode cc pc = .ok (.if_icmp .lt off, 3)) (ht : (pc : Int) + off = (tgt : Int)) (kt : x < z → qW E y cc ret d mc ms Q cells slots tgt L st S I J) (kf : ¬ x < z → qW E y cc ret d mc ms Q cells slots (pc + 3) L st S I J) : qW E y cc ret d mc ms Q cells slots pc L (.int z :: .int x :: st) S I J := fun p l e s m args below meth c H locs ls C K P V hL => lv_icmp_lt C.1 C.2.1 hd ht (fun h => kt h p l e s m args below meth c H locs ls C K P V hL) (fun h => kf h p l e s m args below meth c H locs ls C K P V hL)
theorem r_if_lt {E : qE} {y : MethodName} {cc : ByteArray} {ret : Option FieldType} {d mc ms cells slots pc : Nat} {Q : qPost} {L : List (Option Value)} {st : List Value} {S : qSh} {I : qI} {J : qJ} {x : Int32} {off : Int} {tgt : Nat} (hd : decode cc pc = .ok (.ifCond .lt off, 3)) (ht : (pc : Int) + off = (tgt : Int)) (kt : x < 0 → qW E y cc ret d mc ms Q cells slots tgt L st S I J) (kf : ¬ x < 0 → qW E y cc ret d mc ms Q cells slots (pc + 3) L st S I J) : qW E y cc ret d mc ms Q cells slots pc L (.int x :: st) S I J := fun p l e s m args below meth c H locs ls C K P V hL => lv_if_lt C.1 C.2.1 hd ht (fun h => kt h p l e s m args below meth c H locs ls C K P V hL) (fun h => kf h p l e s m args below meth c H locs ls C K P V hL)
theorem r_icmp_ge {E : qE} {y : MethodName} {cc : ByteArray} {ret : Option FieldType} {d mc ms cells slots pc : Nat} {Q : qPost} {L : List (Option Value)} {st : List Value} {S : qSh} {I : qI} {J : qJ} {x z : Int32} {off : Int} {tgt : Nat} (hd : decode cc pc = .ok (.if_icmp .ge off, 3)) (ht : (pc : Int) + off = (tgt : Int)) (kt : z ≤ x → qW E y cc ret d mc ms Q cells slots tgt L st S I J) (kf : ¬ z ≤ x → qW E y cc ret d mc ms Q cells slots (pc + 3) L st S I J) : qW E y cc ret d mc ms Q cells slots pc L (.int z :: .int x :: st) S I J := fun p l e s m args below meth c H locs ls C K P V hL => lv_icmp_ge C.1 C.2.1 hd ht (fun h => kt h p l e s m args below meth c H locs ls C K P V hL) (fun h => kf h p l e s m args below meth c H locs ls C K P V hL)
theorem r_if_ge {E : qE} {y : MethodName} {cc : ByteArray} {ret : Option FieldType} {d mc ms cells slots pc : Nat} {Q : qPost} {L : List (Option Value)} {st : List Value} {S : qSh} {I : qI} {J : qJ} {x : Int32} {off : Int} {tgt : Nat} (hd : decode cc pc = .ok (.ifCond .ge off, 3)) (ht : (pc : Int) + off = (tgt : Int)) (kt : 0 ≤ x → qW E y cc ret d mc ms Q cells slots tgt L st S I J) (kf : ¬ 0 ≤ x → qW E y cc ret d mc ms Q cells slots (pc + 3) L st S I J) : qW E y cc ret d mc ms Q cells slots pc L (.int x :: st) S I J := fun p l e s m args below meth c H locs ls C K P V hL => lv_if_ge C.1 C.2.1 hd ht (fun h => kt h p l e s m args below meth c H locs ls C K P V hL) (fun h => kf h p l e s m args below meth c H locs ls C K P V hL)
theorem r_icmp_gt {E : qE} {y : MethodName} {cc : ByteArray} {ret : Option FieldType} {d mc ms cells slots pc : Nat} {Q : qPost} {L : List (Option Value)} {st : List Value} {S : qSh} {I : qI} {J : qJ} {x z : Int32} {off : Int} {tgt : Nat} (hd : decode cc pc = .ok (.if_icmp .gt off, 3)) (ht : (pc : Int) + off = (tgt : Int)) (kt : z < x → qW E y cc ret d mc ms Q cells slots tgt L st S I J) (kf : ¬ z < x → qW E y cc ret d mc ms Q cells slots (pc + 3) L st S I J) : qW E y cc ret d mc ms Q cells slots pc L (.int z :: .int x :: st) S I J := fun p l e s m args below meth c H locs ls C K P V hL => lv_icmp_gt C.1 C.2.1 hd ht (fun h => kt h p l e s m args below meth c H locs ls C K P V hL) (fun h => kf h p l e s m args below meth c H locs ls C K P V hL)
theorem r_if_gt {E : qE} {y : MethodName} {cc : ByteArray} {ret : Option FieldType} {d mc ms cells slots pc : Nat} {Q : qPost} {L : List (Option Value)} {st : List Value} {S : qSh} {I : qI} {J : qJ} {x : Int32} {off : Int} {tgt : Nat} (hd : decode cc pc = .ok (.ifCond .gt off, 3)) (ht : (pc : Int) + off = (tgt : Int)) (kt : 0 < x → qW E y cc ret d mc ms Q cells slots tgt L st S I J) (kf : ¬ 0 < x → qW E y cc ret d mc ms Q cells slots (pc + 3) L st S I J) : qW E y cc ret d mc ms Q cells slots pc L (.int x :: st) S I J := fun p l e s m args below meth c H locs ls C K P V hL => lv_if_gt C.1 C.2.1 hd ht (fun h => kt h p l e s m args below meth c H locs ls C K P V hL) (fun h => kf h p l e s m args below meth c H locs ls C K P V hL)
theorem r_icmp_le {E : qE} {y : MethodName} {cc : ByteArray} {ret : Option FieldType} {d mc ms cells slots pc : Nat} {Q : qPost} {L : List (Option Value)} {st : List Value} {S : qSh} {I : qI} {J : qJ} {x z : Int32} {off : Int} {tgt : Nat} (hd : decode cc pc = .ok (.if_icmp .le off, 3)) (ht : (pc : Int) + off = (tgt : Int)) (kt : x ≤ z → qW E y cc ret d mc ms Q cells slots tgt L st S I J) (kf : ¬ x ≤ z → qW E y cc ret d mc ms Q cells slots (pc + 3) L st S I J) : qW E y cc ret d mc ms Q cells slots pc L (.int z :: .int x :: st) S I J := fun p l e s m args below meth c H locs ls C K P V hL => lv_icmp_le C.1 C.2.1 hd ht (fun h => kt h p l e s m args below meth c H locs ls C K P V hL) (fun h => kf h p l e s m args below meth c H locs ls C K P V hL)
theorem r_if_le {E : qE} {y : MethodName} {cc : ByteArray} {ret : Option FieldType} {d mc ms cells slots pc : Nat} {Q : qPost} {L : List (Option Value)} {st : List Value} {S : qSh} {I : qI} {J : qJ} {x : Int32} {off : Int} {tgt : Nat} (hd : decode cc pc = .ok (.ifCond .le off, 3)) (ht : (pc : Int) + off = (tgt : Int)) (kt : x ≤ 0 → qW E y cc ret d mc ms Q cells slots tgt L st S I J) (kf : ¬ x ≤ 0 → qW E y cc ret d mc ms Q cells slots (pc + 3) L st S I J) : qW E y cc ret d mc ms Q cells slots pc L (.int x :: st) S I J := fun p l e s m args below meth c H locs ls C K P V hL => lv_if_le C.1 C.2.1 hd ht (fun h => kt h p l e s m args below meth c H locs ls C K P V hL) (fun h => kf h p l e s m args below meth c H locs ls C K P V hL)
theorem r_tableIn {E : qE} {y : MethodName} {cc : ByteArray} {ret : Option FieldType} {d mc ms cells slots pc : Nat} {Q : qPost} {L : List (Option Value)} {st : List Value} {S : qSh} {I : qI} {J : qJ} {dflt lo hi : Int} {offs : Array Int} {len : Nat} {x : Int32} {off : Int} {tgt : Nat} (hd : decode cc pc = .ok (.tableswitch dflt lo hi offs, len)) (h1 : ¬ x.toInt < lo) (h2 : ¬ hi < x.toInt) (ho : offs[(x.toInt - lo).toNat]? = some off) (ht : (pc : Int) + off = (tgt : Int)) (k : qW E y cc ret d mc ms Q cells slots tgt L st S I J) : qW E y cc ret d mc ms Q cells slots pc L (.int x :: st) S I J := fun p l e s m args below meth c H locs ls C K P V hL => lv_tableIn C.1 C.2.1 hd h1 h2 ho ht (k p l e s m args below meth c H locs ls C K P V hL)
theorem r_tableOut {E : qE} {y : MethodName} {cc : ByteArray} {ret : Option FieldType} {d mc ms cells slots pc : Nat} {Q : qPost} {L : List (Option Value)} {st : List Value} {S : qSh} {I : qI} {J : qJ} {dflt lo hi : Int} {offs : Array Int} {len : Nat} {x : Int32} {tgt : Nat} (hd : decode cc pc = .ok (.tableswitch dflt lo hi offs, len)) (h : x.toInt < lo ∨ hi < x.toInt) (ht : (pc : Int) + dflt = (tgt : Int)) (k : qW E y cc ret d mc ms Q cells slots tgt L st S I J) : qW E y cc ret d mc ms Q cells slots pc L (.int x :: st) S I J := fun p l e s m args below meth c H locs ls C K P V hL => lv_tableOut C.1 C.2.1 hd h ht (k p l e s m args below meth c H locs ls C K P V hL)
theorem r_lookup {E : qE} {y : MethodName} {cc : ByteArray} {ret : Option FieldType} {d mc ms cells slots pc : Nat} {Q : qPost} {L : List (Option Value)} {st : List Value} {S : qSh} {I : qI} {J : qJ} {dflt : Int} {ps : Array (Int × Int)} {len : Nat} {x : Int32} {off : Int} {tgt : Nat} (hd : decode cc pc = .ok (.lookupswitch dflt ps, len)) (hp : (ps.toList.zip (ps.toList.drop 1)).all (fun (a, next) => a.1 < next.1) = true) (ho : Op.lookupswitch.offset ps.toList dflt x.toInt = off) (ht : (pc : Int) + off = (tgt : Int)) (k : qW E y cc ret d mc ms Q cells slots tgt L st S I J) : qW E y cc ret d mc ms Q cells slots pc L (.int x :: st) S I J := fun p l e s m args below meth c H locs ls C K P V hL => lv_lookup C.1 C.2.1 hd hp ho ht (k p l e s m args below meth c H locs ls C K P V hL)
theorem r_ldc {E : qE} {y : MethodName} {cc : ByteArray} {ret : Option FieldType} {d mc ms cells slots pc : Nat} {Q : qPost} {L : List (Option Value)} {st : List Value} {S : qSh} {I : qI} {J : qJ} {index : Nat} {v : Int32} (hw : Cond.constant y.cls index v ∈ qBIG) (hd : decode cc pc = .ok (.ldc index, 2)) (k : qW E y cc ret d mc ms Q cells slots (pc + 2) L (.int v :: st) S I J) : qW E y cc ret d mc ms Q cells slots pc L st S I J := fun p l e s m args below meth c H locs ls C K P V hL => lv_ldc C.1 C.2.1 C.2.2.2.2.2.1 (C.2.2.2.2.1 _ hw) hd (k p l e s m args below meth c H locs ls C K P V hL)
theorem r_ldc2 {E : qE} {y : MethodName} {cc : ByteArray} {ret : Option FieldType} {d mc ms cells slots pc : Nat} {Q : qPost} {L : List (Option Value)} {st : List Value} {S : qSh} {I : qI} {J : qJ} {index : Nat} {v : Int64} (hw : Cond.constantLong y.cls index v ∈ qBIG) (hd : decode cc pc = .ok (.ldc2_w index, 3)) (k : qW E y cc ret d mc ms Q cells slots (pc + 3) L (.long v :: st) S I J) : qW E y cc ret d mc ms Q cells slots pc L st S I J := fun p l e s m args below meth c H locs ls C K P V hL => lv_ldc2 C.1 C.2.1 C.2.2.2.2.2.1 (C.2.2.2.2.1 _ hw) hd (k p l e s m args below meth c H locs ls C K P V hL)
theorem r_ldcS {E : qE} {y : MethodName} {cc : ByteArray} {ret : Option FieldType} {d mc ms cells slots pc : Nat} {Q : qPost} {L : List (Option Value)} {st : List Value} {S : qSh} {I : qI} {J : qJ} {index i : Nat} {tx : String} (hw : (y.cls, index, tx, i) ∈ qStr) (hd : decode cc pc = .ok (.ldc index, 2)) (k : qW E y cc ret d mc ms Q cells slots (pc + 2) L (.ref (qsK E i) :: st) S I J) : qW E y cc ret d mc ms Q cells slots pc L st S I J := fun p l e s m args below meth c H locs ls C K P V hL => va_ldcS C.1 C.2.1 C.2.2.2.2.2.1 (K.2.2.2.2.2.2.1.2 _ hw) hd (k p l e s m args below meth c H locs ls C K P V hL)
theorem r_iloadG_n {E : qE} {y : MethodName} {cc : ByteArray} {ret : Option FieldType} {d mc ms cells slots pc : Nat} {Q : qPost} {L : List (Option Value)} {st : List Value} {S : qSh} {I : qI} {J : qJ} {kk : Fin 4} {x : Int32} (hd : decode cc pc = .ok (.iload_n kk, 1)) (hl : L[(kk : Nat)]? = some (some (.int x))) (k : qW E y cc ret d mc ms Q cells slots (pc + 1) L (.int x :: st) S I J) : qW E y cc ret d mc ms Q cells slots pc L st S I J := fun p l e s m args below meth c H locs ls C K P V hL => lv_iload_n C.1 C.2.1 hd rfl (hL.2.2 _ _ hl) (k p l e s m args below meth c H locs ls C K P V hL)
theorem r_iloadG {E : qE} {y : MethodName} {cc : ByteArray} {ret : Option FieldType} {d mc ms cells slots pc : Nat} {Q : qPost} {L : List (Option Value)} {st : List Value} {S : qSh} {I : qI} {J : qJ} {i : Nat} {x : Int32} (hd : decode cc pc = .ok (.iload i, 2)) (hl : L[i]? = some (some (.int x))) (k : qW E y cc ret d mc ms Q cells slots (pc + 2) L (.int x :: st) S I J) : qW E y cc ret d mc ms Q cells slots pc L st S I J := fun p l e s m args below meth c H locs ls C K P V hL => lv_iload C.1 C.2.1 hd (hL.2.2 _ _ hl) (k p l e s m args below meth c H locs ls C K P V hL)
theorem r_lloadG_n {E : qE} {y : MethodName} {cc : ByteArray} {ret : Option FieldType} {d mc ms cells slots pc : Nat} {Q : qPost} {L : List (Option Value)} {st : List Value} {S : qSh} {I : qI} {J : qJ} {kk : Fin 4} {x : Int64} (hd : decode cc pc = .ok (.lload_n kk, 1)) (hl : L[(kk : Nat)]? = some (some (.long x))) (k : qW E y cc ret d mc ms Q cells slots (pc + 1) L (.long x :: st) S I J) : qW E y cc ret d mc ms Q cells slots pc L st S I J := fun p l e s m args below meth c H locs ls C K P V hL => lv_lload_n C.1 C.2.1 hd rfl (hL.2.2 _ _ hl) (k p l e s m args below meth c H locs ls C K P V hL)
theorem r_lloadG {E : qE} {y : MethodName} {cc : ByteArray} {ret : Option FieldType} {d mc ms cells slots pc : Nat} {Q : qPost} {L : List (Option Value)} {st : List Value} {S : qSh} {I : qI} {J : qJ} {i : Nat} {x : Int64} (hd : decode cc pc = .ok (.lload i, 2)) (hl : L[i]? = some (some (.long x))) (k : qW E y cc ret d mc ms Q cells slots (pc + 2) L (.long x :: st) S I J) : qW E y cc ret d mc ms Q cells slots pc L st S I J := fun p l e s m args below meth c H locs ls C K P V hL => lv_lload C.1 C.2.1 hd (hL.2.2 _ _ hl) (k p l e s m args below meth c H locs ls C K P V hL)
theorem r_aloadG_n {E : qE} {y : MethodName} {cc : ByteArray} {ret : Option FieldType} {d mc ms cells slots pc : Nat} {Q : qPost} {L : List (Option Value)} {st : List Value} {S : qSh} {I : qI} {J : qJ} {kk : Fin 4} {x : Nat} (hd : decode cc pc = .ok (.aload_n kk, 1)) (hl : L[(kk : Nat)]? = some (some (.ref x))) (k : qW E y cc ret d mc ms Q cells slots (pc + 1) L (.ref x :: st) S I J) : qW E y cc ret d mc ms Q cells slots pc L st S I J := fun p l e s m args below meth c H locs ls C K P V hL => lv_aload_n C.1 C.2.1 hd rfl (hL.2.2 _ _ hl) (k p l e s m args below meth c H locs ls C K P V hL)
theorem r_aloadG {E : qE} {y : MethodName} {cc : ByteArray} {ret : Option FieldType} {d mc ms cells slots pc : Nat} {Q : qPost} {L : List (Option Value)} {st : List Value} {S : qSh} {I : qI} {J : qJ} {i : Nat} {x : Nat} (hd : decode cc pc = .ok (.aload i, 2)) (hl : L[i]? = some (some (.ref x))) (k : qW E y cc ret d mc ms Q cells slots (pc + 2) L (.ref x :: st) S I J) : qW E y cc ret d mc ms Q cells slots pc L st S I J := fun p l e s m args below meth c H locs ls C K P V hL => lv_aload C.1 C.2.1 hd (hL.2.2 _ _ hl) (k p l e s m args below meth c H locs ls C K P V hL)

/-! locals -/
def qls (L : List (Option Value)) : List (Nat × Value) := (List.range L.length).filterMap fun i => match L[i]? with
  | some (some v) => some (i, v)
  | _ => none
theorem qls_mem {L : List (Option Value)} {i : Nat} {v : Value} : (i, v) ∈ qls L ↔ L[i]? = some (some v) := by
  unfold qls
  rw [List.mem_filterMap]
  constructor
  · rintro ⟨j, -, hj⟩
    split at hj
    · rename_i w hw
      cases hj
      exact hw
    · cases hj
  · intro h
    have hi : i < L.length := (List.getElem?_eq_some_iff.mp h).1
    exact ⟨i, List.mem_range.mpr hi, by rw [h]⟩
theorem qLv.has {ls : Array Slot} {L : List (Option Value)} (h : qLv ls L) : lv_has ls L.length (qls L) := ⟨h.1, h.2.1, fun q hq => h.2.2 q.1 q.2 (qls_mem.mp hq)⟩
def qn2 : Option Value → Bool
  | some v => v.category != 2
  | none => true
/-- the place ahead doesn't hold a long -/
def qpr (L : List (Option Value)) (i : Nat) : Bool := match i with
  | 0 => true
  | j + 1 => qn2 (L.getD j none)
theorem qLv.sto1 {ls' : Array Slot} {L : List (Option Value)} {i : Nat} {v : Value} {lv' : List (Nat × Value)} (hp : qpr L i = true) (e : (i, v) :: (qls L).filter (fun q => !(q.1 == i) && !(q.1 + 1 == i && q.2.category == 2)) = lv') (h' : lv_has ls' L.length lv') : qLv ls' (L.set i (some v)) := by
  subst e
  refine ⟨by rw [h'.1, List.length_set], h'.2.1, fun j w hj => ?_⟩
  by_cases hji : j = i
  · subst hji
    have hlt : j < L.length := by
      have := (List.getElem?_eq_some_iff.mp hj).1
      rwa [List.length_set] at this
    rw [List.getElem?_set_self hlt] at hj
    cases hj
    exact h'.2.2 (j, v) List.mem_cons_self
  · rw [List.getElem?_set_ne (Ne.symm hji)] at hj
    refine h'.2.2 (j, w) (List.mem_cons_of_mem _ (List.mem_filter.mpr ⟨qls_mem.mpr hj, ?_⟩))
    simp only [Bool.and_eq_true, Bool.not_eq_true', beq_eq_false_iff_ne, ne_eq, Bool.and_eq_false_imp, beq_iff_eq]
    refine ⟨hji, fun hs => ?_⟩
    subst hs
    have hp2 : qn2 (L.getD j none) = true := hp
    rw [List.getD_eq_getElem?_getD, hj] at hp2
    simpa [qn2] using hp2
theorem qLv.sto2 {ls' : Array Slot} {L : List (Option Value)} {i : Nat} {v : Value} {lv' : List (Nat × Value)} (hp : qpr L i = true) (e : (i, v) :: (qls L).filter (fun q => !(q.1 == i) && (!(q.1 == i + 1) && !(q.1 + 1 == i && q.2.category == 2))) = lv') (h' : lv_has ls' L.length lv') : qLv ls' ((L.set i (some v)).set (i + 1) none) := by
  subst e
  refine ⟨by rw [h'.1, List.length_set, List.length_set], h'.2.1, fun j w hj => ?_⟩
  by_cases hj1 : j = i + 1
  · subst hj1
    have hlt : i + 1 < (L.set i (some v)).length := by
      have := (List.getElem?_eq_some_iff.mp hj).1
      rwa [List.length_set] at this
    rw [List.getElem?_set_self hlt] at hj
    cases hj
  · rw [List.getElem?_set_ne (Ne.symm hj1)] at hj
    by_cases hji : j = i
    · subst hji
      have hlt : j < L.length := by
        have := (List.getElem?_eq_some_iff.mp hj).1
        rwa [List.length_set] at this
      rw [List.getElem?_set_self hlt] at hj
      cases hj
      exact h'.2.2 (j, v) List.mem_cons_self
    · rw [List.getElem?_set_ne (Ne.symm hji)] at hj
      refine h'.2.2 (j, w) (List.mem_cons_of_mem _ (List.mem_filter.mpr ⟨qls_mem.mpr hj, ?_⟩))
      simp only [Bool.and_eq_true, Bool.not_eq_true', beq_eq_false_iff_ne, ne_eq, Bool.and_eq_false_imp, beq_iff_eq]
      refine ⟨hji, hj1, fun hs => ?_⟩
      subst hs
      have hp2 : qn2 (L.getD j none) = true := hp
      rw [List.getD_eq_getElem?_getD, hj] at hp2
      simpa [qn2] using hp2
section QST
variable {E : qE} {y : MethodName} {cc : ByteArray} {ret : Option FieldType} {d mc ms cells slots pc : Nat} {Q : qPost} {L : List (Option Value)} {st : List Value} {S : qSh} {I : qI} {J : qJ}
theorem r_istoreG_n {kk : Fin 4} {i : Nat} {x : Int32} {L' : List (Option Value)} (hd : decode cc pc = .ok (.istore_n kk, 1)) (hi : (kk : Nat) = i) (hn : i < L.length) (hp : qpr L i = true) (hL' : L.set i (some (.int x)) = L') (k : qW E y cc ret d mc ms Q cells slots (pc + 1) L' st S I J) : qW E y cc ret d mc ms Q cells slots pc L (.int x :: st) S I J := by
  intro p l e s m args below meth c H locs ls C K P V hL
  subst hL'
  refine lv_istore_n C.1 C.2.1 hd hi hL.has hn rfl (fun ls' h' => ?_)
  exact k p l e s m args below meth c H locs ls' (by rw [List.length_set]; exact C) K P V (qLv.sto1 hp rfl h')
theorem r_istoreG {i : Nat} {x : Int32} {L' : List (Option Value)} (hd : decode cc pc = .ok (.istore i, 2)) (hn : i < L.length) (hp : qpr L i = true) (hL' : L.set i (some (.int x)) = L') (k : qW E y cc ret d mc ms Q cells slots (pc + 2) L' st S I J) : qW E y cc ret d mc ms Q cells slots pc L (.int x :: st) S I J := by
  intro p l e s m args below meth c H locs ls C K P V hL
  subst hL'
  refine lv_istore C.1 C.2.1 hd hL.has hn rfl (fun ls' h' => ?_)
  exact k p l e s m args below meth c H locs ls' (by rw [List.length_set]; exact C) K P V (qLv.sto1 hp rfl h')
theorem r_astoreG_n {kk : Fin 4} {i : Nat} {x : Nat} {L' : List (Option Value)} (hd : decode cc pc = .ok (.astore_n kk, 1)) (hi : (kk : Nat) = i) (hn : i < L.length) (hp : qpr L i = true) (hL' : L.set i (some (.ref x)) = L') (k : qW E y cc ret d mc ms Q cells slots (pc + 1) L' st S I J) : qW E y cc ret d mc ms Q cells slots pc L (.ref x :: st) S I J := by
  intro p l e s m args below meth c H locs ls C K P V hL
  subst hL'
  refine lv_astore_n C.1 C.2.1 hd hi hL.has hn rfl (fun ls' h' => ?_)
  exact k p l e s m args below meth c H locs ls' (by rw [List.length_set]; exact C) K P V (qLv.sto1 hp rfl h')
theorem r_astoreG {i : Nat} {x : Nat} {L' : List (Option Value)} (hd : decode cc pc = .ok (.astore i, 2)) (hn : i < L.length) (hp : qpr L i = true) (hL' : L.set i (some (.ref x)) = L') (k : qW E y cc ret d mc ms Q cells slots (pc + 2) L' st S I J) : qW E y cc ret d mc ms Q cells slots pc L (.ref x :: st) S I J := by
  intro p l e s m args below meth c H locs ls C K P V hL
  subst hL'
  refine lv_astore C.1 C.2.1 hd hL.has hn rfl (fun ls' h' => ?_)
  exact k p l e s m args below meth c H locs ls' (by rw [List.length_set]; exact C) K P V (qLv.sto1 hp rfl h')
theorem r_lstoreG_n {kk : Fin 4} {i : Nat} {x : Int64} {L' : List (Option Value)} (hd : decode cc pc = .ok (.lstore_n kk, 1)) (hi : (kk : Nat) = i) (hn : i + 1 < L.length) (hp : qpr L i = true) (hL' : (L.set i (some (.long x))).set (i + 1) none = L') (k : qW E y cc ret d mc ms Q cells slots (pc + 1) L' st S I J) : qW E y cc ret d mc ms Q cells slots pc L (.long x :: st) S I J := by
  intro p l e s m args below meth c H locs ls C K P V hL
  subst hL'
  refine lv_lstore_n C.1 C.2.1 hd hi hL.has hn rfl (fun ls' h' => ?_)
  exact k p l e s m args below meth c H locs ls' (by rw [List.length_set, List.length_set]; exact C) K P V (qLv.sto2 hp rfl h')
theorem r_lstoreG {i : Nat} {x : Int64} {L' : List (Option Value)} (hd : decode cc pc = .ok (.lstore i, 2)) (hn : i + 1 < L.length) (hp : qpr L i = true) (hL' : (L.set i (some (.long x))).set (i + 1) none = L') (k : qW E y cc ret d mc ms Q cells slots (pc + 2) L' st S I J) : qW E y cc ret d mc ms Q cells slots pc L (.long x :: st) S I J := by
  intro p l e s m args below meth c H locs ls C K P V hL
  subst hL'
  refine lv_lstore C.1 C.2.1 hd hL.has hn rfl (fun ls' h' => ?_)
  exact k p l e s m args below meth c H locs ls' (by rw [List.length_set, List.length_set]; exact C) K P V (qLv.sto2 hp rfl h')
theorem qls_at {L : List (Option Value)} {i : Nat} {v : Value} (h : L[i]? = some (some v)) : ∃ k : Nat, (qls L)[k]? = some (i, v) := List.getElem?_of_mem (qls_mem.mpr h)
theorem r_iincG {i : Nat} {n : Int} {w x v : Int32} {L' : List (Option Value)} (hd : decode cc pc = .ok (.iinc i n, 3)) (hw : Int32.ofInt n = w) (hv : x + w = v) (hl : L[i]? = some (some (.int x))) (hp : qpr L i = true) (hL' : L.set i (some (.int v)) = L') (k : qW E y cc ret d mc ms Q cells slots (pc + 3) L' st S I J) : qW E y cc ret d mc ms Q cells slots pc L st S I J := by
  intro p l e s m args below meth c H locs ls C K P V hL
  subst hL'; subst hw
  obtain ⟨k0, hk0⟩ := qls_at hl
  refine lv_iinc (k := k0) C.1 C.2.1 hd hL.has hk0 hv (List.getElem?_eq_some_iff.mp hl).1 rfl (fun ls' h' => ?_)
  exact k p l e s m args below meth c H locs ls' (by rw [List.length_set]; exact C) K P V (qLv.sto1 hp rfl h')
/-- fewer known locals -/
theorem qW.sub {L0 : List (Option Value)} (hlen : L0.length = L.length) (h : ∀ (i : Nat) (v : Value), L0[i]? = some (some v) → L[i]? = some (some v)) (k : qW E y cc ret d mc ms Q cells slots pc L0 st S I J) : qW E y cc ret d mc ms Q cells slots pc L st S I J := by
  intro p l e s m args below meth c H locs ls C K P V hL
  exact k p l e s m args below meth c H locs ls (by rw [hlen]; exact C) K P V ⟨by rw [hlen]; exact hL.1, hL.2.1, fun i v hi => hL.2.2 i v (h i v hi)⟩
/-! ends -/
theorem r_iret {v : Int32} (hd : decode cc pc = .ok (.ireturn, 1)) (hret : ret = some .int) (h1 : cells ≤ mc) (h2 : slots ≤ ms) (k : Q (some (.int v)) S I J) : qW E y cc ret d mc ms Q cells slots pc L [.int v] S I J := by
  intro p l e s m args below meth c H locs ls C K P V hL
  refine W.widen h1 h2 ?_
  exact W.iret C.1 C.2.1 (by rw [C.2.2.2.1, hret]) (fun t ht hW => ⟨⟨_, S, I, J, rfl, k, by rw [ht]; exact P⟩, V.F ht⟩) V.2.2 hd C.2.2.2.2.2.2.1
theorem r_zret {v : Int32} (hd : decode cc pc = .ok (.ireturn, 1)) (hret : ret = some .boolean) (hv : narrow .boolean (.int v) = .int v) (h1 : cells ≤ mc) (h2 : slots ≤ ms) (k : Q (some (.int v)) S I J) : qW E y cc ret d mc ms Q cells slots pc L [.int v] S I J := by
  intro p l e s m args below meth c H locs ls C K P V hL
  refine W.widen h1 h2 ?_
  exact W.zret C.1 C.2.1 (by rw [C.2.2.2.1, hret]) hv (fun t ht hW => ⟨⟨_, S, I, J, rfl, k, by rw [ht]; exact P⟩, V.F ht⟩) V.2.2 hd C.2.2.2.2.2.2.1
theorem r_nret {v : Int32} {ty : FieldType} (hd : decode cc pc = .ok (.ireturn, 1)) (hret : ret = some ty) (hv : narrow ty (.int v) = .int v) (h1 : cells ≤ mc) (h2 : slots ≤ ms) (k : Q (some (.int v)) S I J) : qW E y cc ret d mc ms Q cells slots pc L [.int v] S I J := by
  intro p l e s m args below meth c H locs ls C K P V hL
  refine W.widen h1 h2 ?_
  exact W.zret C.1 C.2.1 (by rw [C.2.2.2.1, hret]) hv (fun t ht hW => ⟨⟨_, S, I, J, rfl, k, by rw [ht]; exact P⟩, V.F ht⟩) V.2.2 hd C.2.2.2.2.2.2.1
theorem r_lret {v : Int64} (hd : decode cc pc = .ok (.lreturn, 1)) (hret : ret = some .long) (h1 : cells ≤ mc) (h2 : slots ≤ ms) (k : Q (some (.long v)) S I J) : qW E y cc ret d mc ms Q cells slots pc L [.long v] S I J := by
  intro p l e s m args below meth c H locs ls C K P V hL
  refine W.widen h1 h2 ?_
  exact W.lret C.1 C.2.1 (by rw [C.2.2.2.1, hret]) (fun t ht hW => ⟨⟨_, S, I, J, rfl, k, by rw [ht]; exact P⟩, V.F ht⟩) V.2.2 hd C.2.2.2.2.2.2.1
theorem r_vret (hd : decode cc pc = .ok (.return_, 1)) (hret : ret = none) (h1 : cells ≤ mc) (h2 : slots ≤ ms) (k : Q none S I J) : qW E y cc ret d mc ms Q cells slots pc L [] S I J := by
  intro p l e s m args below meth c H locs ls C K P V hL
  refine W.widen h1 h2 ?_
  exact W.vret C.1 C.2.1 (by rw [C.2.2.2.1, hret]) (fun t ht hW => ⟨⟨_, S, I, J, rfl, k, by rw [ht]; exact P⟩, V.F ht⟩) V.2.2 hd C.2.2.2.2.2.2.1
/-! cells -/
def qT (S : qSh) (o k : Nat) : Prop := o < qN S ∧ qK S o = k
def qAr (S : qSh) (o k n : Nat) : Prop := o < qN S ∧ qK S o = k ∧ qL S o = n
theorem va_P.one {D : va_G} {cl : List vw_C} {q : Nat × va_E} {H : Heap} (h : va_at D cl q H) : va_P D cl [q] H := by
  intro k q' hk
  cases k with
  | zero => cases hk; exact h
  | succ k => simp at hk
theorem qHP.obj {H : Heap} {o k : Nat} (P : qHP E S I J H) (hT : qT S o k) (hk : k < 10) : va_P (qD E) vwCl [(qb E + o, .inr (k, qfs E S I J o k))] H := by
  have h := P.2 o hT.1
  unfold qcell at h
  rw [hT.2, if_pos hk] at h
  exact va_P.one h
theorem qHP.arr {H : Heap} {o k n : Nat} (P : qHP E S I J H) (hT : qAr S o k n) (hk : 10 ≤ k) : va_P (qD E) vwCl [(qb E + o, .inl (qcA E k, n, qcont E S I J o k))] H := by
  have h := P.2 o hT.1
  unfold qcell at h
  rw [hT.2.1, if_neg (by omega), hT.2.2] at h
  exact va_P.one h
theorem qfs_at {o k j : Nat} (hj : j < qNF k) : (qfs E S I J o k)[j]? = some (qfv E S I J o k j) := qnm hj
theorem qHP.setCell {H H' : Heap} {S' : qSh} {I' : qI} {J' : qJ} {o : Nat} (P : qHP E S I J H) (hN : qN S' = qN S) (ho : ∀ a, a < qN S → a ≠ o → qcell E S' I' J' a = qcell E S I J a) (hat : va_at (qD E) vwCl (qb E + o, qcell E S' I' J' o) H') (hz : H'.size = H.size) (oq : ∀ q : Nat, q ≠ qb E + o → H'[q]? = H[q]?) : qHP E S' I' J' H' := by
  refine ⟨by rw [hz, hN]; exact P.1, fun a ha => ?_⟩
  rw [hN] at ha
  by_cases e : a = o
  · subst e; exact hat
  · rw [ho a ha e]
    exact (P.2 a ha).kept (oq _ (by show qb E + a ≠ _; omega))
theorem qVput {H H' : Heap} {s : State} {locs : List Loc} {o k : Nat} (V : va_S (qA E) s.heap H locs) (hz : H'.size = H.size) (oq : ∀ q : Nat, q ≠ qb E + o → H'[q]? = H[q]?) : va_S (qA E) s.heap H' (locs ++ [⟨qb E + o, k⟩]) := V.put hz oq (show qb E ≤ qb E + o from Nat.le_add_right _ _)
end QST
section QMEM
variable {E : qE} {y : MethodName} {cc : ByteArray} {ret : Option FieldType} {d mc ms cells slots pc : Nat} {Q : qPost} {L : List (Option Value)} {st : List Value} {S : qSh} {I : qI} {J : qJ}
theorem r_get {o k jf idx N : Nat} {C : String} {T : u_T} (hc : vwCl[k]? = some (C, T, N)) (hk10 : k < 10) (hin : ∀ w ∈ u_ws C T N, w ∈ qBIG) (hj : jf < N) (hN : N = qNF k) (hw : Cond.fieldLink y.cls idx (T jf).1 (T jf).2.1 (T jf).2.2.1 ∈ qBIG) (hd : decode cc pc = .ok (.getfield idx, 3)) (hT : qT S o k) (kk : qW E y cc ret d mc ms Q cells slots (pc + 3) L (qfv E S I J o k jf :: st) S I J) : qW E y cc ret d mc ms Q cells slots pc L (.ref (qb E + o) :: st) S I J := by
  intro p l e s m args below meth c H locs ls C0 K P V hL
  have hP := P.obj hT hk10
  exact va_get (Ts := qBIG) (ci := k) C0.1 C0.2.1 C0.2.2.2.2.1 hin C0.2.2.2.2.2.1 K.1 hP 0 rfl hc jf hj (C0.2.2.2.2.1 _ hw) (fun _ h9 => h9) (qfs_at (by omega)) hd (kk p l e s m args below meth c H locs ls C0 K P V hL)
theorem r_getN {o k jf idx N : Nat} {C host : String} {T : u_T} (hc : vwCl[k]? = some (C, T, N)) (hk10 : k < 10) (hin : ∀ w ∈ u_ws C T N, w ∈ qBIG) (hj : jf < N) (hN : N = qNF k) (hw : (y.cls, idx, (T jf).1, (T jf).2.1, (T jf).2.2.1, host) ∈ qNestF) (hd : decode cc pc = .ok (.getfield idx, 3)) (hT : qT S o k) (kk : qW E y cc ret d mc ms Q cells slots (pc + 3) L (qfv E S I J o k jf :: st) S I J) : qW E y cc ret d mc ms Q cells slots pc L (.ref (qb E + o) :: st) S I J := by
  intro p l e s m args below meth c H locs ls C0 K P V hL
  have hP := P.obj hT hk10
  exact va_getN (Ts := qBIG) (ci := k) C0.1 C0.2.1 C0.2.2.2.2.1 hin C0.2.2.2.2.2.1 K.1 hP 0 rfl hc jf hj (va_Nw.use rfl (K.2.1 _ hw)) (fun _ h9 => h9) (qfs_at (by omega)) hd (kk p l e s m args below meth c H locs ls C0 K P V hL)
/-- the cell behind a putfield -/
theorem qput_at {H' : Heap} {S' : qSh} {I' : qI} {J' : qJ} {o k jf N : Nat} {C : String} {T : u_T} {v : Value} {s : State} {cell : Cell} (hc : vwCl[k]? = some (C, T, N)) (hk10 : k < 10) (hN : N = qNF k) (hj : jf < N) (hap : ∀ x y, x < N → y < N → x ≠ y → ((qD E).2 k) x ≠ ((qD E).2 k) y) (q2 : cell.cls = (qD E).1 k) (q3 : cell.vm = .none) (q4 : ∀ j, j < N → cell.slots[((qD E).2 k) j]? = some (vp_V (qfs E S I J o k) j)) (e1 : H'[qb E + o]? = some (cell.setSlot (((qD E).2 k) jf) v)) (hK' : qK S' o = k) (hset : qfv E S' I' J' o k jf = v) (hoth : ∀ j, j < qNF k → j ≠ jf → qfv E S' I' J' o k j = qfv E S I J o k j) : va_at (qD E) vwCl (qb E + o, qcell E S' I' J' o) H' := by
  unfold qcell
  rw [hK', if_pos hk10]
  have hfs : qfs E S' I' J' o k = (qfs E S I J o k).set jf v := (qnset hset hoth).symm
  rw [hfs]
  refine ⟨_, hc, t_OB.to (V := updV (vp_V (qfs E S I J o k)) jf v) ⟨_, e1, q2, q3, t_set q4 hap hj v⟩ (fun j _ => vp_updV_set ?_ v j)⟩
  unfold qfs
  rw [List.length_map, List.length_range, ← hN]
  exact hj
theorem r_putG {o k jf idx N : Nat} {C : String} {T : u_T} {v : Value} {ty0 : Nat → FieldType} {ty : FieldType} {S' : qSh} {I' : qI} {J' : qJ} (hc : vwCl[k]? = some (C, T, N)) (hk10 : k < 10) (hin : ∀ w ∈ u_ws C T N, w ∈ qBIG) (hty : ∀ k, k < N → parseFieldDescriptor (T k).2.2.1 = some (ty0 k)) (hnm : ∀ a, a < N → ∀ b, b < N → a ≠ b → (T a).2.1 ≠ (T b).2.1) (hj : jf < N) (hN : N = qNF k) (hfin : (T jf).2.2.2 = false) (hdd : parseFieldDescriptor (T jf).2.2.1 = some ty) (hn : narrow ty v = v) (hfit : fits ty v = true) (hw : Cond.fieldLink y.cls idx (T jf).1 (T jf).2.1 (T jf).2.2.1 ∈ qBIG) (hd : decode cc pc = .ok (.putfield idx, 3)) (hT : qT S o k)
    (hNS : qN S' = qN S) (hK' : qK S' o = k) (hset : qfv E S' I' J' o k jf = v) (hoth : ∀ j, j < qNF k → j ≠ jf → qfv E S' I' J' o k j = qfv E S I J o k j) (hcel : ∀ a, a < qN S → a ≠ o → qcell E S' I' J' a = qcell E S I J a)
    (kk : qW E y cc ret d mc ms Q cells slots (pc + 3) L st S' I' J') : qW E y cc ret d mc ms Q cells slots pc L (v :: .ref (qb E + o) :: st) S I J := by
  intro p l e s m args below meth c H locs ls C0 K P V hL
  have hts := C0.2.2.2.2.1
  have hap := va_apart (own := y.cls) hts hin ty0 hty hnm K.1 hc
  obtain ⟨r, h1, cell, q1, q2, q3, q4⟩ := P.obj hT hk10 0 _ rfl
  have hr : r = (C, T, N) := Option.some.inj (h1.symm.trans hc)
  subst hr
  obtain ⟨hS, hfc, kC, hkC, hkind⟩ := K.1.1 k _ hc
  obtain ⟨cf, kf, fi, f, hi, hsl⟩ := hS jf hj
  have hlay := hts _ (hin _ (u_in_lay hj))
  unfold u_lay at hlay
  rw [if_neg (by rw [hfin]; decide)] at hlay
  have hst := (u_facts hfc hkC (u_lays hts hin hj) hi).1
  have h6 := u_store hfc hkC hkind hlay hi hdd hn hfit
  refine W.putK C0.1 C0.2.1 (f := f) ⟨C0.2.2.2.2.2.1, hts _ hw, ⟨_, _, _, hi⟩, hst⟩ (by rw [q2]; exact h6) q1 q3 (by rw [hsl]; exact k2_hasslot (q4 jf hj)) rfl rfl hd fun H' e1 e2 e3 => ?_
  rw [hsl] at e1 ⊢
  exact kk p l e s m args below meth c H' _ ls C0 K (P.setCell hNS hcel (qput_at (s := s) hc hk10 hN hj hap q2 q3 q4 e1 hK' hset hoth) e2 e3) (qVput V e2 e3) hL
theorem r_putGN {o k jf idx N : Nat} {C host : String} {T : u_T} {v : Value} {ty0 : Nat → FieldType} {ty : FieldType} {S' : qSh} {I' : qI} {J' : qJ} (hc : vwCl[k]? = some (C, T, N)) (hk10 : k < 10) (hin : ∀ w ∈ u_ws C T N, w ∈ qBIG) (hty : ∀ k, k < N → parseFieldDescriptor (T k).2.2.1 = some (ty0 k)) (hnm : ∀ a, a < N → ∀ b, b < N → a ≠ b → (T a).2.1 ≠ (T b).2.1) (hj : jf < N) (hN : N = qNF k) (hfin : (T jf).2.2.2 = false) (hdd : parseFieldDescriptor (T jf).2.2.1 = some ty) (hn : narrow ty v = v) (hfit : fits ty v = true) (hw : (y.cls, idx, (T jf).1, (T jf).2.1, (T jf).2.2.1, host) ∈ qNestF) (hd : decode cc pc = .ok (.putfield idx, 3)) (hT : qT S o k)
    (hNS : qN S' = qN S) (hK' : qK S' o = k) (hset : qfv E S' I' J' o k jf = v) (hoth : ∀ j, j < qNF k → j ≠ jf → qfv E S' I' J' o k j = qfv E S I J o k j) (hcel : ∀ a, a < qN S → a ≠ o → qcell E S' I' J' a = qcell E S I J a)
    (kk : qW E y cc ret d mc ms Q cells slots (pc + 3) L st S' I' J') : qW E y cc ret d mc ms Q cells slots pc L (v :: .ref (qb E + o) :: st) S I J := by
  intro p l e s m args below meth c H locs ls C0 K P V hL
  have hts := C0.2.2.2.2.1
  have hap := va_apart (own := y.cls) hts hin ty0 hty hnm K.1 hc
  obtain ⟨r, h1, cell, q1, q2, q3, q4⟩ := P.obj hT hk10 0 _ rfl
  have hr : r = (C, T, N) := Option.some.inj (h1.symm.trans hc)
  subst hr
  obtain ⟨hS, hfc, kC, hkC, hkind⟩ := K.1.1 k _ hc
  obtain ⟨cf, kf, fi, f, hi, hsl⟩ := hS jf hj
  have hlay := hts _ (hin _ (u_in_lay hj))
  unfold u_lay at hlay
  rw [if_neg (by rw [hfin]; decide)] at hlay
  have hst := (u_facts hfc hkC (u_lays hts hin hj) hi).1
  have h6 := u_store hfc hkC hkind hlay hi hdd hn hfit
  refine va_WputK C0.1 C0.2.1 (f := f) C0.2.2.2.2.2.1 (va_Nw.use rfl (K.2.1 _ hw)) hi hst (by rw [q2]; exact h6) q1 q3 (by rw [hsl]; exact k2_hasslot (q4 jf hj)) rfl rfl hd fun H' e1 e2 e3 => ?_
  rw [hsl] at e1 ⊢
  exact kk p l e s m args below meth c H' _ ls C0 K (P.setCell hNS hcel (qput_at (s := s) hc hk10 hN hj hap q2 q3 q4 e1 hK' hset hoth) e2 e3) (qVput V e2 e3) hL
theorem r_putGF {o k jf idx N : Nat} {C : String} {T : u_T} {v : Value} {ty0 : Nat → FieldType} {ty : FieldType} {S' : qSh} {I' : qI} {J' : qJ} (hc : vwCl[k]? = some (C, T, N)) (hk10 : k < 10) (hin : ∀ w ∈ u_ws C T N, w ∈ qBIG) (hty : ∀ k, k < N → parseFieldDescriptor (T k).2.2.1 = some (ty0 k)) (hnm : ∀ a, a < N → ∀ b, b < N → a ≠ b → (T a).2.1 ≠ (T b).2.1) (hj : jf < N) (hN : N = qNF k) (hfin : (T jf).2.2.2 = true) (hin2 : y.name = "<init>") (hdecl : (T jf).1 = y.cls) (hdd : parseFieldDescriptor (T jf).2.2.1 = some ty) (hn : narrow ty v = v) (hfit : fits ty v = true) (hw : Cond.fieldLink y.cls idx (T jf).1 (T jf).2.1 (T jf).2.2.1 ∈ qBIG) (hd : decode cc pc = .ok (.putfield idx, 3)) (hT : qT S o k)
    (hNS : qN S' = qN S) (hK' : qK S' o = k) (hset : qfv E S' I' J' o k jf = v) (hoth : ∀ j, j < qNF k → j ≠ jf → qfv E S' I' J' o k j = qfv E S I J o k j) (hcel : ∀ a, a < qN S → a ≠ o → qcell E S' I' J' a = qcell E S I J a)
    (kk : qW E y cc ret d mc ms Q cells slots (pc + 3) L st S' I' J') : qW E y cc ret d mc ms Q cells slots pc L (v :: .ref (qb E + o) :: st) S I J := by
  intro p l e s m args below meth c H locs ls C0 K P V hL
  have hts := C0.2.2.2.2.1
  have hap := va_apart (own := y.cls) hts hin ty0 hty hnm K.1 hc
  obtain ⟨r, h1, cell, q1, q2, q3, q4⟩ := P.obj hT hk10 0 _ rfl
  have hr : r = (C, T, N) := Option.some.inj (h1.symm.trans hc)
  subst hr
  obtain ⟨hS, hfc, kC, hkC, hkind⟩ := K.1.1 k _ hc
  obtain ⟨cf, kf, fi, f, hi, hsl⟩ := hS jf hj
  have hlay := hts _ (hin _ (u_in_lay hj))
  unfold u_lay at hlay
  rw [if_pos hfin] at hlay
  have hst := (u_facts hfc hkC (u_lays hts hin hj) hi).1
  have hown := C0.2.2.2.2.2.1
  have hcf : m.cls = cf := by
    obtain ⟨_, _, c', _, _, _, -, -, hf', -, -, -, hown2, -⟩ := Cond.laysFinal_spec hlay
    have e1 : c' = cf := by have := hi.symm.trans hf'; simp at this; exact this.1.symm
    rw [hdecl] at hown2
    rw [← e1]; exact Option.some.inj (hown.symm.trans hown2)
  have h6 := u_fits hfc hkC hkind (Or.inr hlay) hi hdd hn hfit
  refine W.putFinK C0.1 C0.2.1 hown (hts _ hw) hi hst hcf (C0.2.2.2.2.2.2.2 hin2) (by rw [q2]; exact h6) q1 q3 (by rw [hsl]; exact k2_hasslot (q4 jf hj)) rfl rfl hd fun H' e1 e2 e3 => ?_
  rw [hsl] at e1 ⊢
  exact kk p l e s m args below meth c H' _ ls C0 K (P.setCell hNS hcel (qput_at (s := s) hc hk10 hN hj hap q2 q3 q4 e1 hK' hset hoth) e2 e3) (qVput V e2 e3) hL
theorem qup_at {α : Type} {M : Nat → Nat → α} {a j : Nat} {x : α} : qup M a j x a j = x := by simp [qup]
theorem qup_ne {α : Type} {M : Nat → Nat → α} {a j a' j' : Nat} {x : α} (h : ¬ (a' = a ∧ j' = j)) : qup M a j x a' j' = M a' j' := by simp [qup, h]
theorem qup_o {α : Type} {M : Nat → Nat → α} {a j a' j' : Nat} {x : α} (h : a' ≠ a) : qup M a j x a' j' = M a' j' := qup_ne (fun q => h q.1)
theorem qup_j {α : Type} {M : Nat → Nat → α} {a j a' j' : Nat} {x : α} (h : j' ≠ j) : qup M a j x a' j' = M a' j' := qup_ne (fun q => h q.2)
theorem qup_row {α : Type} {M : Nat → Nat → α} {a j a' : Nat} {x : α} (h : a' ≠ a) : qup M a j x a' = M a' := funext fun _ => qup_o h
theorem qcellI {o j a : Nat} {x : Int32} (h : a ≠ o) : qcell E S (qup I o j x) J a = qcell E S I J a := by
  have e : ∀ i, qup I o j x a i = I a i := fun i => qup_o h
  have e2 : qup I o j x a = I a := qup_row h
  unfold qcell qfs qcont
  have h3 : qfv E S (qup I o j x) J a (qK S a) = qfv E S I J a (qK S a) := by
    funext i; unfold qfv; rw [e i]
  rw [h3, e2]
theorem qcellJ {o j a : Nat} {x : Int64} (h : a ≠ o) : qcell E S I (qup J o j x) a = qcell E S I J a := by
  have e : ∀ i, qup J o j x a i = J a i := fun i => qup_o h
  have e2 : qup J o j x a = J a := qup_row h
  unfold qcell qfs qcont
  have h3 : qfv E S I (qup J o j x) a (qK S a) = qfv E S I J a (qK S a) := by
    funext i; unfold qfv; rw [e i]
  rw [h3, e2]
theorem qcellR {o j a : Nat} {x : Option Nat} (h : a ≠ o) : qcell E (qsetR S o j x) I J a = qcell E S I J a := by
  have e : ∀ i, qR (qsetR S o j x) a i = qR S a i := fun i => qup_o h
  unfold qcell qfs qcont
  have h3 : qfv E (qsetR S o j x) I J a (qK S a) = qfv E S I J a (qK S a) := by
    funext i; unfold qfv; rw [e i]
  show (if qK S a < 10 then _ else _) = _
  split
  · rw [show qK (qsetR S o j x) a = qK S a from rfl, h3]
  · rw [show qK (qsetR S o j x) a = qK S a from rfl, show qL (qsetR S o j x) a = qL S a from rfl]
    congr 3
    split <;> simp only [e]
theorem qfvI {o k j : Nat} (h : qFK k j = 0) : qfv E S I J o k j = .int (I o j) := by unfold qfv; rw [h]; rfl
theorem qfvJ {o k j : Nat} (h : qFK k j = 1) : qfv E S I J o k j = .long (J o j) := by unfold qfv; rw [h]; rfl
theorem qfvR {o k j : Nat} (h : qFK k j = 2) : qfv E S I J o k j = qref E (qR S o j) := by unfold qfv; rw [h]; rfl
theorem qfvI_oth {o k jf j : Nat} {x : Int32} (h : j ≠ jf) : qfv E S (qup I o jf x) J o k j = qfv E S I J o k j := by unfold qfv; rw [qup_j h]
theorem qfvJ_oth {o k jf j : Nat} {x : Int64} (h : j ≠ jf) : qfv E S I (qup J o jf x) o k j = qfv E S I J o k j := by unfold qfv; rw [qup_j h]
theorem qfvR_oth {o k jf j : Nat} {x : Option Nat} (h : j ≠ jf) : qfv E (qsetR S o jf x) I J o k j = qfv E S I J o k j := by
  have e : qR (qsetR S o jf x) o j = qR S o j := qup_j h
  unfold qfv; rw [e]
end QMEM
section QARR
variable {E : qE} {y : MethodName} {cc : ByteArray} {ret : Option FieldType} {d mc ms cells slots pc : Nat} {Q : qPost} {L : List (Option Value)} {st : List Value} {S : qSh} {I : qI} {J : qJ}
theorem qcontI {o k : Nat} (h : k = 10 ∨ k = 11 ∨ k = 13) : qcont E S I J o k = .inl (I o) := by rcases h with rfl | rfl | rfl <;> rfl
theorem r_iald {o n : Nat} {i : Int32} (hd : decode cc pc = .ok (.iaload, 1)) (hA : qAr S o 11 n) (hin : vp_in i n) (kk : qW E y cc ret d mc ms Q cells slots (pc + 1) L (.int (I o i.toNatClampNeg) :: st) S I J) : qW E y cc ret d mc ms Q cells slots pc L (.int i :: .ref (qb E + o) :: st) S I J := by
  intro p l e s m args below meth c H locs ls C0 K P V hL
  exact va_iald (tys := qtys E) C0.1 C0.2.1 K.1 (P.arr hA (by decide)) 0 1 rfl rfl hin hd (kk p l e s m args below meth c H locs ls C0 K P V hL)
theorem r_bald {o n : Nat} {i : Int32} (hd : decode cc pc = .ok (.baload, 1)) (hA : qAr S o 10 n) (hin : vp_in i n) (kk : qW E y cc ret d mc ms Q cells slots (pc + 1) L (.int (I o i.toNatClampNeg) :: st) S I J) : qW E y cc ret d mc ms Q cells slots pc L (.int i :: .ref (qb E + o) :: st) S I J := by
  intro p l e s m args below meth c H locs ls C0 K P V hL
  exact va_bald (tys := qtys E) C0.1 C0.2.1 K.1 (P.arr hA (by decide)) 0 0 rfl rfl hin hd (kk p l e s m args below meth c H locs ls C0 K P V hL)
theorem r_zald {o n : Nat} {i : Int32} (hd : decode cc pc = .ok (.baload, 1)) (hA : qAr S o 13 n) (hin : vp_in i n) (kk : qW E y cc ret d mc ms Q cells slots (pc + 1) L (.int (I o i.toNatClampNeg) :: st) S I J) : qW E y cc ret d mc ms Q cells slots pc L (.int i :: .ref (qb E + o) :: st) S I J := by
  intro p l e s m args below meth c H locs ls C0 K P V hL
  exact va_zald (tys := qtys E) C0.1 C0.2.1 K.1 (P.arr hA (by decide)) 0 3 rfl rfl hin hd (kk p l e s m args below meth c H locs ls C0 K P V hL)
theorem r_lald {o n : Nat} {i : Int32} (hd : decode cc pc = .ok (.laload, 1)) (hA : qAr S o 12 n) (hin : vp_in i n) (kk : qW E y cc ret d mc ms Q cells slots (pc + 1) L (.long (J o i.toNatClampNeg) :: st) S I J) : qW E y cc ret d mc ms Q cells slots pc L (.int i :: .ref (qb E + o) :: st) S I J := by
  intro p l e s m args below meth c H locs ls C0 K P V hL
  exact va_lald (tys := qtys E) C0.1 C0.2.1 K.1 (P.arr hA (by decide)) 0 2 rfl rfl hin hd (kk p l e s m args below meth c H locs ls C0 K P V hL)
theorem r_aald14 {o n o' : Nat} {i : Int32} (hd : decode cc pc = .ok (.aaload, 1)) (hA : qAr S o 14 n) (hin : vp_in i n) (hR : qR S o i.toNatClampNeg = some o') (kk : qW E y cc ret d mc ms Q cells slots (pc + 1) L (.ref (qb E + o') :: st) S I J) : qW E y cc ret d mc ms Q cells slots pc L (.int i :: .ref (qb E + o) :: st) S I J := by
  intro p l e s m args below meth c H locs ls C0 K P V hL
  refine va_aldq (tys := qtys E) (f := fun j => (qR S o j).map (qb E + ·)) C0.1 C0.2.1 K.1 (P.arr hA (by decide)) 0 4 rfl rfl hin hd ?_
  show W _ _ _ _ _ _ _ _ _ _ _ _ _ _ _ (F0 m (pc + 1) ls (va_rf ((qR S o i.toNatClampNeg).map (qb E + ·)) :: st))
  rw [hR]
  exact kk p l e s m args below meth c H locs ls C0 K P V hL
theorem r_aald15 {o n o' : Nat} {i : Int32} (hd : decode cc pc = .ok (.aaload, 1)) (hA : qAr S o 15 n) (hin : vp_in i n) (hR : qR S o i.toNatClampNeg = some o') (kk : qW E y cc ret d mc ms Q cells slots (pc + 1) L (.ref (qb E + o') :: st) S I J) : qW E y cc ret d mc ms Q cells slots pc L (.int i :: .ref (qb E + o) :: st) S I J := by
  intro p l e s m args below meth c H locs ls C0 K P V hL
  refine va_aldq (tys := qtys E) (f := fun j => (qR S o j).map (qb E + ·)) C0.1 C0.2.1 K.1 (P.arr hA (by decide)) 0 5 rfl rfl hin hd ?_
  show W _ _ _ _ _ _ _ _ _ _ _ _ _ _ _ (F0 m (pc + 1) ls (va_rf ((qR S o i.toNatClampNeg).map (qb E + ·)) :: st))
  rw [hR]
  exact kk p l e s m args below meth c H locs ls C0 K P V hL
theorem r_alen {o k n : Nat} {v : Int32} (hd : decode cc pc = .ok (.arraylength, 1)) (hA : qAr S o k n) (hk : 10 ≤ k) (hk2 : k ≤ 15) (hv : Int32.ofNat n = v) (kk : qW E y cc ret d mc ms Q cells slots (pc + 1) L (.int v :: st) S I J) : qW E y cc ret d mc ms Q cells slots pc L (.ref (qb E + o) :: st) S I J := by
  intro p l e s m args below meth c H locs ls C0 K P V hL
  have ht : (qtys E)[k - 10]? = some (qcA E k, qty k) := by
    have : k = 10 ∨ k = 11 ∨ k = 12 ∨ k = 13 ∨ k = 14 ∨ k = 15 := by omega
    rcases this with rfl | rfl | rfl | rfl | rfl | rfl <;> rfl
  exact va_alen (tys := qtys E) C0.1 C0.2.1 K.1 (P.arr hA hk) 0 (k - 10) rfl ht hv hd (kk p l e s m args below meth c H locs ls C0 K P V hL)
theorem qin_lt {i : Int32} {n : Nat} (h : vp_in i n) : i.toNatClampNeg < n := Nat.not_le.mp fun q => h (Or.inr q)
theorem qarr_at {H' : Heap} {S' : qSh} {I' : qI} {J' : qJ} {o k n : Nat} (hk : 10 ≤ k) (hK' : qK S' o = k) (hn : qL S' o = n) (h : va_at (qD E) vwCl (qb E + o, .inl (qcA E k, n, qcont E S' I' J' o k)) H') : va_at (qD E) vwCl (qb E + o, qcell E S' I' J' o) H' := by
  unfold qcell
  rw [hK', if_neg (by omega), hn]
  exact h
theorem r_iast {o n : Nat} {i x : Int32} (hd : decode cc pc = .ok (.iastore, 1)) (hA : qAr S o 11 n) (hin : vp_in i n) (kk : qW E y cc ret d mc ms Q cells slots (pc + 1) L st S (qup I o i.toNatClampNeg x) J) : qW E y cc ret d mc ms Q cells slots pc L (.int x :: .int i :: .ref (qb E + o) :: st) S I J := by
  intro p l e s m args below meth c H locs ls C0 K P V hL
  have hP := P.arr hA (by decide)
  refine W.iast C0.1 C0.2.1 (hP 0 _ rfl) ((K.1.2 1 _ rfl).1 n (fun j => .int (I o j))) (fun q => by cases q) (by show ¬ (i < 0 ∨ (arrV _ _ _).slots.size ≤ _); rw [arrV_size]; exact hin) rfl rfl hd fun H1 e1 z oq => ?_
  refine kk p l e s m args below meth c H1 _ ls C0 K (P.setCell rfl (fun a _ h => qcellI h) (qarr_at (n := n) (k := 11) (by decide) hA.2.1 hA.2.2 ?_) z oq) (qVput V z oq) hL
  show H1[qb E + o]? = some (vp_cell _ _)
  rw [e1]
  show some ((vp_cell (qcA E 11) (n, .inl (I o))).setSlot _ _) = some (vp_cell (qcA E 11) (n, .inl (qup I o i.toNatClampNeg x o)))
  rw [vp_cell_i, vp_cell_i, arrV_store]
  congr 2
  funext q
  by_cases hq : q = i.toNatClampNeg
  · subst hq
    simp [updV, qup]
  · simp [updV, qup, hq]
theorem r_bast {o n : Nat} {i x : Int32} (hd : decode cc pc = .ok (.bastore, 1)) (hA : qAr S o 10 n) (hin : vp_in i n) (kk : qW E y cc ret d mc ms Q cells slots (pc + 1) L st S (qup I o i.toNatClampNeg (vp_nar .byte x)) J) : qW E y cc ret d mc ms Q cells slots pc L (.int x :: .int i :: .ref (qb E + o) :: st) S I J := by
  intro p l e s m args below meth c H locs ls C0 K P V hL
  have hP := P.arr hA (by decide)
  refine W.bast C0.1 C0.2.1 (hP 0 _ rfl) ((K.1.2 0 _ rfl).1 n (fun j => .int (I o j))) (fun q => by cases q) (by show ¬ (i < 0 ∨ (arrV _ _ _).slots.size ≤ _); rw [arrV_size]; exact hin) rfl rfl hd fun H1 e1 z oq => ?_
  refine kk p l e s m args below meth c H1 _ ls C0 K (P.setCell rfl (fun a _ h => qcellI h) (qarr_at (n := n) (k := 10) (by decide) hA.2.1 hA.2.2 ?_) z oq) (qVput V z oq) hL
  show H1[qb E + o]? = some (vp_cell _ _)
  rw [e1]
  show some ((vp_cell (qcA E 10) (n, .inl (I o))).setSlot _ _) = some (vp_cell (qcA E 10) (n, .inl (qup I o i.toNatClampNeg (vp_nar .byte x) o)))
  rw [vp_cell_i, vp_cell_i, arrV_store]
  congr 2
  funext q
  by_cases hq : q = i.toNatClampNeg
  · subst hq
    simp [updV, qup, vp_nar, narrow]
  · simp [updV, qup, hq]
theorem r_zast {o n : Nat} {i x : Int32} (hd : decode cc pc = .ok (.bastore, 1)) (hA : qAr S o 13 n) (hin : vp_in i n) (kk : qW E y cc ret d mc ms Q cells slots (pc + 1) L st S (qup I o i.toNatClampNeg (vp_nar .boolean x)) J) : qW E y cc ret d mc ms Q cells slots pc L (.int x :: .int i :: .ref (qb E + o) :: st) S I J := by
  intro p l e s m args below meth c H locs ls C0 K P V hL
  have hP := P.arr hA (by decide)
  refine W.zast C0.1 C0.2.1 (hP 0 _ rfl) ((K.1.2 3 _ rfl).1 n (fun j => .int (I o j))) (fun q => by cases q) (by show ¬ (i < 0 ∨ (arrV _ _ _).slots.size ≤ _); rw [arrV_size]; exact hin) rfl rfl hd fun H1 e1 z oq => ?_
  refine kk p l e s m args below meth c H1 _ ls C0 K (P.setCell rfl (fun a _ h => qcellI h) (qarr_at (n := n) (k := 13) (by decide) hA.2.1 hA.2.2 ?_) z oq) (qVput V z oq) hL
  show H1[qb E + o]? = some (vp_cell _ _)
  rw [e1]
  show some ((vp_cell (qcA E 13) (n, .inl (I o))).setSlot _ _) = some (vp_cell (qcA E 13) (n, .inl (qup I o i.toNatClampNeg (vp_nar .boolean x) o)))
  rw [vp_cell_i, vp_cell_i, arrV_store]
  congr 2
  funext q
  by_cases hq : q = i.toNatClampNeg
  · subst hq
    simp [updV, qup, vp_nar, narrow]
  · simp [updV, qup, hq]
theorem r_last {o n : Nat} {i : Int32} {x : Int64} (hd : decode cc pc = .ok (.lastore, 1)) (hA : qAr S o 12 n) (hin : vp_in i n) (kk : qW E y cc ret d mc ms Q cells slots (pc + 1) L st S I (qup J o i.toNatClampNeg x)) : qW E y cc ret d mc ms Q cells slots pc L (.long x :: .int i :: .ref (qb E + o) :: st) S I J := by
  intro p l e s m args below meth c H locs ls C0 K P V hL
  have hP := P.arr hA (by decide)
  refine W.last C0.1 C0.2.1 (hP 0 _ rfl) ((K.1.2 2 _ rfl).1 n (fun j => .long (J o j))) (fun q => by cases q) (by show ¬ (i < 0 ∨ (arrV _ _ _).slots.size ≤ _); rw [arrV_size]; exact hin) rfl rfl hd fun H1 e1 z oq => ?_
  refine kk p l e s m args below meth c H1 _ ls C0 K (P.setCell rfl (fun a _ h => qcellJ h) (qarr_at (n := n) (k := 12) (by decide) hA.2.1 hA.2.2 ?_) z oq) (qVput V z oq) hL
  show H1[qb E + o]? = some (vp_cell _ _)
  rw [e1]
  show some ((vp_cell (qcA E 12) (n, .inr (.inl (J o)))).setSlot _ _) = some (vp_cell (qcA E 12) (n, .inr (.inl (qup J o i.toNatClampNeg x o))))
  rw [vp_cell_l, vp_cell_l, arrV_store]
  congr 2
  funext q
  by_cases hq : q = i.toNatClampNeg
  · subst hq
    simp [updV, qup]
  · simp [updV, qup, hq]
theorem r_aastG {o n o' k k2 : Nat} {i : Int32} {C : String} {T : u_T} {N : Nat} (hk : k = 14 ∨ k = 15) (hty : qty k = .object C) (hc : vwCl[k2]? = some (C, T, N)) (hk2 : k2 < 10) (hd : decode cc pc = .ok (.aastore, 1)) (hA : qAr S o k n) (hT : qT S o' k2) (hin : vp_in i n) (kk : qW E y cc ret d mc ms Q cells slots (pc + 1) L st (qsetR S o i.toNatClampNeg (some o')) I J) : qW E y cc ret d mc ms Q cells slots pc L (.ref (qb E + o') :: .int i :: .ref (qb E + o) :: st) S I J := by
  intro p l e s m args below meth c H locs ls C0 K P V hL
  have h10 : 10 ≤ k := by omega
  have hP := P.arr hA h10
  have hlt := qin_lt hin
  have h0 : ¬ i < 0 := fun q => hin (Or.inl q)
  obtain ⟨r', hr', cellV, g1, g2, g3, -⟩ := P.obj hT hk2 0 _ rfl
  have hcls := (K.1.1 k2 _ hc).2
  have ht : (qtys E)[k - 10]? = some (qcA E k, qty k) := by rcases hk with rfl | rfl <;> rfl
  have hra := (K.1.2 _ _ ht).2
  rw [hty] at hra
  obtain ⟨kA, comp, k1, k3, k4, -⟩ := hra
  have hcomp : comp = (qD E).1 k2 := Option.some.inj (k4.symm.trans hcls.1)
  subst hcomp
  obtain ⟨kC, hkC, -⟩ := hcls.2
  have hcont : ∀ (S : qSh) (I : qI) (J : qJ), qcont E S I J o k = .inr (.inr (.inr (.inr (fun j => (qR S o j).map (qb E + ·))))) := by
    intro S I J; rcases hk with rfl | rfl <;> rfl
  rw [hcont] at hP
  refine W.aast C0.1 C0.2.1 (hP 0 _ rfl) (fun q h => by cases h) (fun h => by cases h) k1 k3 rfl hkC ⟨h0, by show _ < (arrV _ _ _).slots.size; rw [arrV_size]; exact hlt⟩ g1 (fun q h => by rw [g3] at h; cases h) (by rw [g2]; exact hkC) (by rw [g2]; exact va_assign hcls) rfl rfl hd fun H1 e1 z oq => ?_
  refine kk p l e s m args below meth c H1 _ ls C0 K (P.setCell rfl (fun a _ h => qcellR h) (qarr_at (n := n) (k := k) h10 hA.2.1 hA.2.2 ?_) z oq) (qVput V z oq) hL
  rw [hcont]
  show H1[qb E + o]? = some (vp_cell _ _)
  rw [e1]
  show some ((vp_cell (qcA E k) (n, .inr (.inr (.inr (.inr (fun j => (qR S o j).map (qb E + ·))))))).setSlot _ _) = _
  rw [vp_cell_q, vp_cell_q, arrV_store]
  congr 2
  funext q
  by_cases hq : q = i.toNatClampNeg
  · subst hq
    simp [updV, qsetR, qR, qup, va_rf]
  · simp [updV, qsetR, qR, qup, hq]
/-! new cells: the next id -/
def qpush (S : qSh) (k n : Nat) : qSh := (qN S + 1, fun a => if a = qN S then k else qK S a, fun a => if a = qN S then n else qL S a, fun a => if a = qN S then (fun _ => none) else qR S a)
def qzI (S : qSh) (I : qI) : qI := fun a => if a = qN S then (fun _ => 0) else I a
def qzJ (S : qSh) (J : qJ) : qJ := fun a => if a = qN S then (fun _ => 0) else J a
theorem qcell_push {k n a : Nat} (h : a < qN S) : qcell E (qpush S k n) (qzI S I) (qzJ S J) a = qcell E S I J a := by
  have ne : ¬ a = qN S := by omega
  have e1 : qK (qpush S k n) a = qK S a := by simp [qpush, qK, ne]
  have e2 : qL (qpush S k n) a = qL S a := by simp [qpush, qL, ne]
  have e3 : qR (qpush S k n) a = qR S a := by simp [qpush, qR, ne]
  have e4 : qzI S I a = I a := by simp [qzI, ne]
  have e5 : qzJ S J a = J a := by simp [qzJ, ne]
  unfold qcell
  rw [e1, e2]
  unfold qfs qcont
  have h3 : qfv E (qpush S k n) (qzI S I) (qzJ S J) a (qK S a) = qfv E S I J a (qK S a) := by
    funext i; unfold qfv; rw [e3, e4, e5]
  rw [h3, e3, e4, e5]
theorem qHP.pushed {H H1 : Heap} {k n : Nat} (P : qHP E S I J H) (z : H1.size = H.size + 1) (o1 : ∀ q, q < H.size → H1[q]? = H[q]?) (hat : va_at (qD E) vwCl (qb E + qN S, qcell E (qpush S k n) (qzI S I) (qzJ S J) (qN S)) H1) : qHP E (qpush S k n) (qzI S I) (qzJ S J) H1 := by
  refine ⟨by rw [z, P.1]; rfl, fun a ha => ?_⟩
  have ha' : a < qN S + 1 := ha
  by_cases e : a = qN S
  · subst e; exact hat
  · rw [qcell_push (by omega)]
    exact (P.2 a (by omega)).kept (o1 _ (by rw [P.1]; show qb E + a < _; omega))
theorem qVpush {H H1 : Heap} {s : State} {locs : List Loc} (V : va_S (qA E) s.heap H locs) (z : H1.size = H.size + 1) (o1 : ∀ q, q < H.size → H1[q]? = H[q]?) : va_S (qA E) s.heap H1 locs :=
  ⟨Nat.le_trans V.1 (by omega), fun x h1 h2 => (o1 x (Nat.lt_of_lt_of_le h1 V.1)).trans (V.2.1 x h1 h2), V.2.2⟩
theorem r_newG {k idx N : Nat} {C : String} {T : u_T} {ty0 : Nat → FieldType} (hc : vwCl[k]? = some (C, T, N)) (hk10 : k < 10) (hin : ∀ w ∈ u_ws C T N, w ∈ qBIG) (hty : ∀ k, k < N → parseFieldDescriptor (T k).2.2.1 = some (ty0 k)) (hN : N = qNF k) (hdf : ∀ j, j < N → defaultValue (ty0 j) = match qFK k j with | 0 => .int 0 | 1 => .long 0 | _ => .null) (hw : Cond.classLink y.cls idx C ∈ qBIG) (hi : Cond.instantiable C N ∈ qBIG) (hini : Cond.initialized C ∈ qBIG) (hd : decode cc pc = .ok (.new idx, 3)) (h1 : cells + 1 ≤ mc) (h2 : slots + N ≤ ms) (kk : qW E y cc ret d mc ms Q (cells + 1) (slots + N) (pc + 3) L (.ref (qb E + qN S) :: st) (qpush S k 0) (qzI S I) (qzJ S J)) : qW E y cc ret d mc ms Q cells slots pc L st S I J := by
  intro p l e s m args below meth c H locs ls C0 K P V hL
  have hts := C0.2.2.2.2.1
  have hKn := K.1.1 k _ hc
  refine W.newcK C0.1 C0.2.1 C0.2.2.2.2.2.1 (hts _ hw) (hts _ hi) (hts _ hini) rfl hd h1 h2 hKn.2.1 P.1 fun H1 kC hkC e1 z1 o1 => ?_
  rw [← P.1] at z1 o1
  refine kk p l e s m args below meth c H1 locs ls C0 K (P.pushed z1 o1 ?_) (qVpush V z1 o1) hL
  have eK : qK (qpush S k 0) (qN S) = k := by simp [qpush, qK]
  unfold qcell
  rw [eK, if_pos hk10]
  refine ⟨_, hc, (u_born ty0 hts hin hKn hkC e1 hty).to (fun j hj => ?_)⟩
  rw [hdf j hj]
  unfold vp_V
  rw [List.getD_eq_getElem?_getD, qfs_at (by show j < qNF k; omega)]
  show _ = qfv E (qpush S k 0) (qzI S I) (qzJ S J) (qN S) k j
  unfold qfv
  split <;> simp [qzI, qzJ, qpush, qR, qref, va_rf]
theorem r_newaG {k n' : Nat} {atype : ArrayType} {n : Int32} (hk : 10 ≤ k) (hk2 : k ≤ 13) (hty : newarray.typeOf atype = qty k) (hd : decode cc pc = .ok (.newarray atype, 2)) (hw : Cond.arrayClass (qty k) ∈ qBIG) (hn : ¬ n < 0) (hN : n.toNatClampNeg = n') (hb : n' * 8 ≤ 536870912) (h1 : cells + 1 ≤ mc) (h2 : slots + n' ≤ ms) (kk : qW E y cc ret d mc ms Q (cells + 1) (slots + n') (pc + 2) L (.ref (qb E + qN S) :: st) (qpush S k n') (qzI S I) (qzJ S J)) : qW E y cc ret d mc ms Q cells slots pc L (.int n :: st) S I J := by
  intro p l e s m args below meth c H locs ls C0 K P V hL
  have hts := C0.2.2.2.2.1
  have hk4 : k = 10 ∨ k = 11 ∨ k = 12 ∨ k = 13 := by omega
  refine va_newaK C0.1 C0.2.1 (atype := atype) (by rw [hty]; exact hts _ hw) rfl hd rfl hn hN (by rw [hty]; rcases hk4 with rfl | rfl | rfl | rfl <;> (show n' * componentBytes _ ≤ _; simp [componentBytes, qty]; omega)) h1 h2 P.1 fun H1 cA e1 z1 o1 hAr hNm => ?_
  rw [← P.1] at z1 o1
  have hcA : cA = qcA E k := by
    have ht : (qtys E)[k - 10]? = some (qcA E k, qty k) := by rcases hk4 with rfl | rfl | rfl | rfl <;> rfl
    have hra := (K.1.2 _ _ ht).2
    rw [hty] at hNm
    have : s.vm.findClass ("[" ++ (qty k).toString) = some (qcA E k) := by rcases hk4 with rfl | rfl | rfl | rfl <;> exact hra
    exact Option.some.inj (hNm.symm.trans this)
  subst hcA
  refine kk p l e s m args below meth c H1 locs ls C0 K (P.pushed z1 o1 ?_) (qVpush V z1 o1) hL
  have eK : qK (qpush S k n') (qN S) = k := by simp [qpush, qK]
  have eL : qL (qpush S k n') (qN S) = n' := by simp [qpush, qL]
  unfold qcell
  rw [eK, if_neg (by omega), eL]
  show H1[qb E + qN S]? = some (vp_cell _ _)
  rw [e1, hty]
  have zI : qzI S I (qN S) = fun _ => 0 := by simp [qzI]
  have zJ : qzJ S J (qN S) = fun _ => 0 := by simp [qzJ]
  rcases hk4 with rfl | rfl | rfl | rfl <;> (simp only [qcont, zI, zJ]; rfl)
theorem r_anewG {k idx n' : Nat} {C : String} {n : Int32} (hk : k = 14 ∨ k = 15) (hty : qty k = .object C) (hao : ∀ s, qKO E s → va_AO C s) (hd : decode cc pc = .ok (.anewarray idx, 3)) (hw : Cond.classLink y.cls idx C ∈ qBIG) (hn : ¬ n < 0) (hN : n.toNatClampNeg = n') (hb : n' * 4 ≤ 536870912) (h1 : cells + 1 ≤ mc) (h2 : slots + n' ≤ ms) (kk : qW E y cc ret d mc ms Q (cells + 1) (slots + n') (pc + 3) L (.ref (qb E + qN S) :: st) (qpush S k n') (qzI S I) (qzJ S J)) : qW E y cc ret d mc ms Q cells slots pc L (.int n :: st) S I J := by
  intro p l e s m args below meth c H locs ls C0 K P V hL
  have hts := C0.2.2.2.2.1
  subst hN
  refine W.anew C0.1 C0.2.1 C0.2.2.2.2.2.1 (hts _ hw) (va_AO.use (hao s K)) rfl hd rfl hn hb h1 h2 fun cA kA comp f1 f2 f3 f4 => ?_
  generalize hH1 : H.push ({ cls := cA, slots := Array.replicate n.toNatClampNeg .null, vm := .none } : Cell) = H1
  have z1 : H1.size = H.size + 1 := by rw [← hH1, Array.size_push]
  have e1 : H1[H.size]? = some (arrV cA n.toNatClampNeg (fun _ => .null)) := by rw [← hH1, Array.getElem?_push_size, ← arrV_new]
  have o1 : ∀ q : Nat, q < H.size → H1[q]? = H[q]? := fun q hq => by rw [← hH1, Array.getElem?_push, if_neg (Nat.ne_of_lt hq)]
  have hcA : cA = qcA E k := by
    have ht : (qtys E)[k - 10]? = some (qcA E k, qty k) := by rcases hk with rfl | rfl <;> rfl
    have hra := (K.1.2 _ _ ht).2
    rw [hty] at hra
    obtain ⟨_, _, -, -, -, h5⟩ := hra
    exact Option.some.inj (f1.symm.trans h5)
  subst hcA
  have hsz := P.1
  rw [hsz] at e1
  have KK := kk p l e s m args below meth c H1 locs ls C0 K (P.pushed z1 o1 (by
    have eK : qK (qpush S k n.toNatClampNeg) (qN S) = k := by simp [qpush, qK]
    have eL : qL (qpush S k n.toNatClampNeg) (qN S) = n.toNatClampNeg := by simp [qpush, qL]
    unfold qcell
    rw [eK, if_neg (by omega), eL]
    show H1[qb E + qN S]? = some (vp_cell _ _)
    rw [e1]
    have zR : qR (qpush S k n.toNatClampNeg) (qN S) = fun _ => none := by simp [qpush, qR]
    rcases hk with rfl | rfl <;> (simp only [qcont, zR]; rfl))) (qVpush V z1 o1) hL
  rw [hsz]
  exact KK
/-! statics -/
theorem r_above {idx : Nat} (hw : Cond.fieldLink y.cls idx "OneMourner" "ABOVE" "[I" ∈ qBIG) (hd : decode cc pc = .ok (.getstatic idx, 3)) (kk : qW E y cc ret d mc ms Q cells slots (pc + 3) L (.ref (qt0 E) :: st) S I J) : qW E y cc ret d mc ms Q cells slots pc L st S I J := by
  intro p l e s m args below meth c H locs ls C0 K P V hL
  exact va_gets C0.1 C0.2.1 K.2.2.2.1.1 V C0.2.2.2.2.2.1 (C0.2.2.2.2.1 _ hw) (fun _ h9 => h9) hd (kk p l e s m args below meth c H locs ls C0 K P V hL)
theorem r_aboveN {idx : Nat} {host : String} (hw : (y.cls, idx, "OneMourner", "ABOVE", "[I", host) ∈ qNestF) (hd : decode cc pc = .ok (.getstatic idx, 3)) (kk : qW E y cc ret d mc ms Q cells slots (pc + 3) L (.ref (qt0 E) :: st) S I J) : qW E y cc ret d mc ms Q cells slots pc L st S I J := by
  intro p l e s m args below meth c H locs ls C0 K P V hL
  exact va_getsN C0.1 C0.2.1 K.2.2.2.1.1 V C0.2.2.2.2.2.1 (va_Nw.use rfl (K.2.1 _ hw)) (fun _ h9 => h9) hd (kk p l e s m args below meth c H locs ls C0 K P V hL)
theorem r_bodies {idx : Nat} (hw : Cond.fieldLink y.cls idx "OneMourner$Acts" "BODIES" "[I" ∈ qBIG) (hd : decode cc pc = .ok (.getstatic idx, 3)) (kk : qW E y cc ret d mc ms Q cells slots (pc + 3) L (.ref (qt1 E) :: st) S I J) : qW E y cc ret d mc ms Q cells slots pc L st S I J := by
  intro p l e s m args below meth c H locs ls C0 K P V hL
  exact va_gets C0.1 C0.2.1 K.2.2.2.2.1.1 V C0.2.2.2.2.2.1 (C0.2.2.2.2.1 _ hw) (fun _ h9 => h9) hd (kk p l e s m args below meth c H locs ls C0 K P V hL)
theorem r_iald0 {i : Int32} (hd : decode cc pc = .ok (.iaload, 1)) (hin : vp_in i 7) (kk : qW E y cc ret d mc ms Q cells slots (pc + 1) L (.int (qabove.getD i.toNatClampNeg 0) :: st) S I J) : qW E y cc ret d mc ms Q cells slots pc L (.int i :: .ref (qt0 E) :: st) S I J := by
  intro p l e s m args below meth c H locs ls C0 K P V hL
  exact va_ti C0.1 C0.2.1 K.2.2.2.1.2 V hin rfl hd (kk p l e s m args below meth c H locs ls C0 K P V hL)
theorem r_iald1 {i : Int32} (hd : decode cc pc = .ok (.iaload, 1)) (hin : vp_in i 21) (kk : qW E y cc ret d mc ms Q cells slots (pc + 1) L (.int (qbodies.getD i.toNatClampNeg 0) :: st) S I J) : qW E y cc ret d mc ms Q cells slots pc L (.int i :: .ref (qt1 E) :: st) S I J := by
  intro p l e s m args below meth c H locs ls C0 K P V hL
  exact va_ti C0.1 C0.2.1 K.2.2.2.2.1.2 V hin rfl hd (kk p l e s m args below meth c H locs ls C0 K P V hL)
theorem r_alen0 (hd : decode cc pc = .ok (.arraylength, 1)) (kk : qW E y cc ret d mc ms Q cells slots (pc + 1) L (.int 7 :: st) S I J) : qW E y cc ret d mc ms Q cells slots pc L (.ref (qt0 E) :: st) S I J := by
  intro p l e s m args below meth c H locs ls C0 K P V hL
  exact va_tlen C0.1 C0.2.1 K.2.2.2.1.2 V rfl hd (kk p l e s m args below meth c H locs ls C0 K P V hL)
theorem r_alen1 (hd : decode cc pc = .ok (.arraylength, 1)) (kk : qW E y cc ret d mc ms Q cells slots (pc + 1) L (.int 21 :: st) S I J) : qW E y cc ret d mc ms Q cells slots pc L (.ref (qt1 E) :: st) S I J := by
  intro p l e s m args below meth c H locs ls C0 K P V hL
  exact va_tlen C0.1 C0.2.1 K.2.2.2.2.1.2 V rfl hd (kk p l e s m args below meth c H locs ls C0 K P V hL)
/-! the law's script -/
theorem r_sld {i : Int32} (hd : decode cc pc = .ok (.iaload, 1)) (hin : vp_in i (qsl E)) (kk : qW E y cc ret d mc ms Q cells slots (pc + 1) L (.int (qsx E i.toNatClampNeg) :: st) S I J) : qW E y cc ret d mc ms Q cells slots pc L (.int i :: .ref (qsc E) :: st) S I J := by
  intro p l e s m args below meth c H locs ls C0 K P V hL
  have h := K.2.2.2.2.2.2.2.2.2
  exact va_sld C0.1 C0.2.1 h.1 (Nat.lt_of_lt_of_le h.2 K.2.2.2.2.2.2.2.2.1) (Nat.not_le.mpr h.2) V hin hd (kk p l e s m args below meth c H locs ls C0 K P V hL)
theorem r_slen (hd : decode cc pc = .ok (.arraylength, 1)) (kk : qW E y cc ret d mc ms Q cells slots (pc + 1) L (.int (Int32.ofNat (qsl E)) :: st) S I J) : qW E y cc ret d mc ms Q cells slots pc L (.ref (qsc E) :: st) S I J := by
  intro p l e s m args below meth c H locs ls C0 K P V hL
  have h := K.2.2.2.2.2.2.2.2.2
  exact va_slen C0.1 C0.2.1 h.1 (Nat.lt_of_lt_of_le h.2 K.2.2.2.2.2.2.2.2.1) (Nat.not_le.mpr h.2) V hd (kk p l e s m args below meth c H locs ls C0 K P V hL)
end QARR
section QCALL
variable {E : qE} {y : MethodName} {cc : ByteArray} {ret : Option FieldType} {d mc ms cells slots pc : Nat} {Q : qPost} {L : List (Option Value)} {st : List Value} {S : qSh} {I : qI} {J : qJ}
theorem qBIG_good {y' : MethodName} {b : ByteArray} {nL' : Nat} {ret' : Option FieldType} (hc : Cond.code y' b nL' ret' ∈ qBIG) : GoodIn qBIG (Cond.code y' b nL' ret' :: qBIG) := by
  have h : ∀ w ∈ qBIG, w ∈ qBIG ∧ ((w.onTables && w.keeps) = true ∨ ∃ ty, w = .arrayClass ty) := fun w hw => ⟨hw, good_of_word (List.mem_filter.mp hw).2⟩
  intro w hw
  rcases List.mem_cons.mp hw with e | hw
  · subst e; exact h _ hc
  · exact h w hw
/-- a link of a call site: the plain ones, and those between nest mates -/
def qLk (own : String) (idx : Nat) (y' : MethodName) (b : ByteArray) (nL' : Nat) (ret' : Option FieldType) (n : Nat) : Prop := Cond.methodLink own idx y' ∈ qBIG ∧ Cond.code y' b nL' ret' ∈ qBIG ∧ Cond.initialized y'.cls ∈ qBIG ∧ (y'.cls ≠ "java/lang/invoke/MethodHandle" ∧ y'.cls ≠ "java/lang/invoke/VarHandle" ∧ (parseMethodDescriptor y'.desc).map (fun d => d.parameters.length) = some n)
def qLn (own : String) (idx : Nat) (y' : MethodName) (host : String) (b : ByteArray) (nL' : Nat) (ret' : Option FieldType) (n : Nat) : Prop := (own, idx, y', host) ∈ qNestM ∧ Cond.code y' b nL' ret' ∈ qBIG ∧ Cond.initialized y'.cls ∈ qBIG ∧ (y'.cls ≠ "java/lang/invoke/MethodHandle" ∧ y'.cls ≠ "java/lang/invoke/VarHandle" ∧ (parseMethodDescriptor y'.desc).map (fun d => d.parameters.length) = some n)
theorem qPre_blind {av : List Value} : FrameBlind (qPre E av S I J) := fun a U g mk h => ⟨h.1, h.2.1.calling, h.2.2⟩
theorem qRoom {d' mc' ms' nL' : Nat} (hdd : d' + 1 ≤ d) (hlo : nL' ≤ 45) : (qRm d' mc' ms').frames + 1 ≤ (qRm d mc ms).frames ∧ 8 + (nL' + 11) + (qRm d' mc' ms').locals ≤ (qRm d mc ms).locals := by
  refine ⟨hdd, ?_⟩
  show 8 + (nL' + 11) + 64 * d' ≤ 64 * d
  omega
theorem qAfter {p : Program} {l : Launch} {e : Env} {s : State} {m : MethodId} {args : Array Value} {below : List Frame} {meth : Method} {c : Code} {H : Heap} {locs : List Loc} {ls : Array Slot} {mc' ms' : Nat} {st0 : List Value} {Q' : qPost} {a : Array Value} (C0 : qCX p s m meth c args y cc L.length ret) (K : qKO E s) (V : va_S (qA E) s.heap H locs) (hL : qLv ls L)
    (hr : va_Run p l e (qRm d mc ms) s m args below meth c H locs cells slots mc' ms' (F0 m pc ls st0) st (qQ E Q' a) (qA E))
    (kk : ∀ v S' I' J', Q' v S' I' J' → qW E y cc ret d mc ms Q (cells + mc') (slots + ms') (pc + 3) L (v.toList ++ st) S' I' J') : W p l e (qRm d mc ms) s m args below meth c H locs cells slots (MQ below (qQ E Q) args s mc ms (qA E)) (F0 m pc ls st0) := by
  intro T hT X
  obtain ⟨v, st₀, t, T', L0, h0, X', hL0, e1, e2, ⟨⟨v', S', I', J', hv, hq, hP'⟩, hz, hk⟩, stp⟩ := hr T hT X
  cases hv
  rw [h0] at hz hk
  have V' : va_S (qA E) s.heap T'.heap (locs ++ L0) := by
    refine ⟨by rw [e1]; exact Nat.le_trans V.1 hz, fun q h1 h2 => ?_, fun q hq' => ?_⟩
    · rw [e1, hk q (Nat.lt_of_lt_of_le h1 V.1) h2]; exact V.2.1 q h1 h2
    · rcases List.mem_append.mp hq' with h | h
      · exact V.2.2 q h
      · exact hL0 q h
  obtain ⟨t2, a1, b1⟩ := kk v S' I' J' hq p l e s m args below meth c T'.heap (locs ++ L0) ls C0 K (by rw [e1]; exact hP') V' hL T' rfl X'
  exact ⟨t2, stp t2 a1, b1⟩
theorem qCF {p : Program} {s : State} {m : MethodId} {args : Array Value} {meth : Method} {c : Code} (C0 : qCX p s m meth c args y cc L.length ret) : CallFix p m c cc L.length s args qBIG y.cls := ⟨C0.1, C0.2.1, C0.2.2.1, C0.2.2.2.2.2.1, C0.2.2.2.2.1⟩
theorem r_callV {y' : MethodName} {b : ByteArray} {nL' n idx d' mc' ms' o k N : Nat} {ret' : Option FieldType} {C : String} {T : u_T} {As st0 : List Value} {Q' : qPost} (hl : qLk y.cls idx y' b nL' ret' n) (hi : Cond.instanceMethod y' ∈ qBIG) (hs : Cond.selects C y' y' ∈ qBIG) (hc : vwCl[k]? = some (C, T, N)) (hk10 : k < 10) (hn : As.length = n) (hlo : nL' ≤ 45) (hd : decode cc pc = .ok (.invokevirtual idx, 3)) (hT : qT S o k) (hM : qMet E y' b nL' ret' d' mc' ms' (.ref (qb E + o) :: As) S I J Q') (hst : st0 = As.reverse ++ .ref (qb E + o) :: st) (hcat : (st.map fun v => v.category).sum ≤ 8) (hdd : d' + 1 ≤ d) (h1 : cells + mc' ≤ mc) (h2 : slots + ms' ≤ ms)
    (kk : ∀ v S' I' J', Q' v S' I' J' → qW E y cc ret d mc ms Q (cells + mc') (slots + ms') (pc + 3) L (v.toList ++ st) S' I' J') : qW E y cc ret d mc ms Q cells slots pc L st0 S I J := by
  intro p l e s m args below meth c H locs ls C0 K P V hL
  subst hst
  have hts := C0.2.2.2.2.1
  obtain ⟨l1, l2, l3, l4⟩ := hl
  have cb : CallB (qRm d mc ms) s args y.cls idx y' b nL' ret' (Cond.code y' b nL' ret' :: qBIG) (qRm d' mc' ms') mc' ms' n := callB_of n hts (qBIG_good l2) rfl rfl rfl (hts _ l3) (hts _ l1) l4 (qRoom hdd hlo)
  obtain ⟨cell, g1, g2, g3⟩ := va_recv (q0 := 0) K.1 (P.obj hT hk10) hc rfl
  exact qAfter C0 K V hL (va_runV (As := As) (rest := st) (n := n) (qCF C0) (hM l) ⟨cb, hts _ hi, hts _ hs⟩ ⟨qPre_blind, ⟨cell, g1, g2, g3⟩, fun U hU hW => ⟨rfl, K.callTo V hU hW, by rw [hU]; exact P⟩⟩ rfl hn hL.1 rfl (by show 2 * 0 + _ ≤ 8; rw [Nat.mul_zero, Nat.zero_add]; exact hcat) hd ⟨h1, h2⟩) kk
theorem r_callVN {y' : MethodName} {b : ByteArray} {nL' n idx d' mc' ms' o k N : Nat} {ret' : Option FieldType} {C host : String} {T : u_T} {As st0 : List Value} {Q' : qPost} (hl : qLn y.cls idx y' host b nL' ret' n) (hi : Cond.instanceMethod y' ∈ qBIG) (hs : Cond.selects C y' y' ∈ qBIG) (hc : vwCl[k]? = some (C, T, N)) (hk10 : k < 10) (hn : As.length = n) (hlo : nL' ≤ 45) (hd : decode cc pc = .ok (.invokevirtual idx, 3)) (hT : qT S o k) (hM : qMet E y' b nL' ret' d' mc' ms' (.ref (qb E + o) :: As) S I J Q') (hst : st0 = As.reverse ++ .ref (qb E + o) :: st) (hcat : (st.map fun v => v.category).sum ≤ 8) (hdd : d' + 1 ≤ d) (h1 : cells + mc' ≤ mc) (h2 : slots + ms' ≤ ms)
    (kk : ∀ v S' I' J', Q' v S' I' J' → qW E y cc ret d mc ms Q (cells + mc') (slots + ms') (pc + 3) L (v.toList ++ st) S' I' J') : qW E y cc ret d mc ms Q cells slots pc L st0 S I J := by
  intro p l e s m args below meth c H locs ls C0 K P V hL
  subst hst
  have hts := C0.2.2.2.2.1
  obtain ⟨l1, l2, l3, l4⟩ := hl
  have cb : va_CN (qRm d mc ms) s args y.cls idx y' host b nL' ret' (Cond.code y' b nL' ret' :: qBIG) (qRm d' mc' ms') mc' ms' n := va_cnB n hts (qBIG_good l2) rfl rfl rfl (K.2.2.1 _ l1) (hts _ l3) l4 (qRoom hdd hlo)
  obtain ⟨cell, g1, g2, g3⟩ := va_recv (q0 := 0) K.1 (P.obj hT hk10) hc rfl
  exact qAfter C0 K V hL (va_runVN (As := As) (rest := st) (n := n) (qCF C0) (hM l) ⟨cb, hts _ hi, hts _ hs⟩ ⟨qPre_blind, ⟨cell, g1, g2, g3⟩, fun U hU hW => ⟨rfl, K.callTo V hU hW, by rw [hU]; exact P⟩⟩ rfl hn hL.1 rfl (by show 2 * 0 + _ ≤ 8; rw [Nat.mul_zero, Nat.zero_add]; exact hcat) hd ⟨h1, h2⟩) kk
theorem r_callS {y' : MethodName} {b : ByteArray} {nL' n idx d' mc' ms' : Nat} {ret' : Option FieldType} {As st0 : List Value} {Q' : qPost} (hl : qLk y.cls idx y' b nL' ret' n) (hi : Cond.static y' ∈ qBIG) (hn : As.length = n) (hlo : nL' ≤ 45) (hd : decode cc pc = .ok (.invokestatic idx, 3)) (hM : qMet E y' b nL' ret' d' mc' ms' As S I J Q') (hst : st0 = As.reverse ++ st) (hcat : (st.map fun v => v.category).sum ≤ 8) (hdd : d' + 1 ≤ d) (h1 : cells + mc' ≤ mc) (h2 : slots + ms' ≤ ms)
    (kk : ∀ v S' I' J', Q' v S' I' J' → qW E y cc ret d mc ms Q (cells + mc') (slots + ms') (pc + 3) L (v.toList ++ st) S' I' J') : qW E y cc ret d mc ms Q cells slots pc L st0 S I J := by
  intro p l e s m args below meth c H locs ls C0 K P V hL
  subst hst
  have hts := C0.2.2.2.2.1
  obtain ⟨l1, l2, l3, l4⟩ := hl
  have cb : CallB (qRm d mc ms) s args y.cls idx y' b nL' ret' (Cond.code y' b nL' ret' :: qBIG) (qRm d' mc' ms') mc' ms' n := callB_of n hts (qBIG_good l2) rfl rfl rfl (hts _ l3) (hts _ l1) l4 (qRoom hdd hlo)
  exact qAfter C0 K V hL (va_runS (As := As) (rest := st) (n := n) (qCF C0) (hM l) ⟨cb, hts _ hi⟩ ⟨qPre_blind, fun U hU hW => ⟨rfl, K.callTo V hU hW, by rw [hU]; exact P⟩⟩ rfl hn hL.1 rfl (by show 2 * 0 + _ ≤ 8; rw [Nat.mul_zero, Nat.zero_add]; exact hcat) hd ⟨h1, h2⟩) kk
theorem r_callSN {y' : MethodName} {b : ByteArray} {nL' n idx d' mc' ms' : Nat} {ret' : Option FieldType} {host : String} {As st0 : List Value} {Q' : qPost} (hl : qLn y.cls idx y' host b nL' ret' n) (hi : Cond.static y' ∈ qBIG) (hn : As.length = n) (hlo : nL' ≤ 45) (hd : decode cc pc = .ok (.invokestatic idx, 3)) (hM : qMet E y' b nL' ret' d' mc' ms' As S I J Q') (hst : st0 = As.reverse ++ st) (hcat : (st.map fun v => v.category).sum ≤ 8) (hdd : d' + 1 ≤ d) (h1 : cells + mc' ≤ mc) (h2 : slots + ms' ≤ ms)
    (kk : ∀ v S' I' J', Q' v S' I' J' → qW E y cc ret d mc ms Q (cells + mc') (slots + ms') (pc + 3) L (v.toList ++ st) S' I' J') : qW E y cc ret d mc ms Q cells slots pc L st0 S I J := by
  intro p l e s m args below meth c H locs ls C0 K P V hL
  subst hst
  have hts := C0.2.2.2.2.1
  obtain ⟨l1, l2, l3, l4⟩ := hl
  have cb : va_CN (qRm d mc ms) s args y.cls idx y' host b nL' ret' (Cond.code y' b nL' ret' :: qBIG) (qRm d' mc' ms') mc' ms' n := va_cnB n hts (qBIG_good l2) rfl rfl rfl (K.2.2.1 _ l1) (hts _ l3) l4 (qRoom hdd hlo)
  exact qAfter C0 K V hL (va_runSN (As := As) (rest := st) (n := n) (qCF C0) (hM l) ⟨cb, hts _ hi, trivial⟩ ⟨qPre_blind, fun U hU hW => ⟨rfl, K.callTo V hU hW, by rw [hU]; exact P⟩⟩ rfl hn hL.1 rfl (by show 2 * 0 + _ ≤ 8; rw [Nat.mul_zero, Nat.zero_add]; exact hcat) hd ⟨h1, h2⟩) kk
theorem r_callI {y' : MethodName} {b : ByteArray} {nL' n idx d' mc' ms' o : Nat} {As st0 : List Value} {Q' : qPost} (hl : qLk y.cls idx y' b nL' none n) (hi : Cond.instanceMethod y' ∈ qBIG) (hnm : y'.name = "<init>") (hn : As.length = n) (hlo : nL' ≤ 45) (hd : decode cc pc = .ok (.invokespecial idx, 3)) (hM : qMet E y' b nL' none d' mc' ms' (.ref (qb E + o) :: As) S I J Q') (hst : st0 = As.reverse ++ .ref (qb E + o) :: st) (hcat : (st.map fun v => v.category).sum ≤ 8) (hdd : d' + 1 ≤ d) (h1 : cells + mc' ≤ mc) (h2 : slots + ms' ≤ ms)
    (kk : ∀ v S' I' J', Q' v S' I' J' → qW E y cc ret d mc ms Q (cells + mc') (slots + ms') (pc + 3) L (v.toList ++ st) S' I' J') : qW E y cc ret d mc ms Q cells slots pc L st0 S I J := by
  intro p l e s m args below meth c H locs ls C0 K P V hL
  subst hst
  have hts := C0.2.2.2.2.1
  obtain ⟨l1, l2, l3, l4⟩ := hl
  have cb : CallB (qRm d mc ms) s args y.cls idx y' b nL' none (Cond.code y' b nL' none :: qBIG) (qRm d' mc' ms') mc' ms' n := callB_of n hts (qBIG_good l2) rfl rfl rfl (hts _ l3) (hts _ l1) l4 (qRoom hdd hlo)
  exact qAfter C0 K V hL (va_runI (As := As) (rest := st) (n := n) (qCF C0) (hM l) ⟨cb, hnm, hts _ hi⟩ ⟨qPre_blind, fun U hU hW => ⟨rfl, K.callTo V hU hW, by rw [hU]; exact P⟩⟩ rfl hn hL.1 rfl (by show 2 * 0 + _ ≤ 8; rw [Nat.mul_zero, Nat.zero_add]; exact hcat) hd ⟨h1, h2⟩) kk
theorem r_callIN {y' : MethodName} {b : ByteArray} {nL' n idx d' mc' ms' o : Nat} {host : String} {As st0 : List Value} {Q' : qPost} (hl : qLn y.cls idx y' host b nL' none n) (hi : Cond.instanceMethod y' ∈ qBIG) (hnm : y'.name = "<init>") (hn : As.length = n) (hlo : nL' ≤ 45) (hd : decode cc pc = .ok (.invokespecial idx, 3)) (hM : qMet E y' b nL' none d' mc' ms' (.ref (qb E + o) :: As) S I J Q') (hst : st0 = As.reverse ++ .ref (qb E + o) :: st) (hcat : (st.map fun v => v.category).sum ≤ 8) (hdd : d' + 1 ≤ d) (h1 : cells + mc' ≤ mc) (h2 : slots + ms' ≤ ms)
    (kk : ∀ v S' I' J', Q' v S' I' J' → qW E y cc ret d mc ms Q (cells + mc') (slots + ms') (pc + 3) L (v.toList ++ st) S' I' J') : qW E y cc ret d mc ms Q cells slots pc L st0 S I J := by
  intro p l e s m args below meth c H locs ls C0 K P V hL
  subst hst
  have hts := C0.2.2.2.2.1
  obtain ⟨l1, l2, l3, l4⟩ := hl
  have cb : va_CN (qRm d mc ms) s args y.cls idx y' host b nL' none (Cond.code y' b nL' none :: qBIG) (qRm d' mc' ms') mc' ms' n := va_cnB n hts (qBIG_good l2) rfl rfl rfl (K.2.2.1 _ l1) (hts _ l3) l4 (qRoom hdd hlo)
  exact qAfter C0 K V hL (va_runIN (As := As) (rest := st) (n := n) (qCF C0) (hM l) ⟨cb, hnm, hts _ hi⟩ ⟨qPre_blind, fun U hU hW => ⟨rfl, K.callTo V hU hW, by rw [hU]; exact P⟩⟩ rfl hn hL.1 rfl (by show 2 * 0 + _ ≤ 8; rw [Nat.mul_zero, Nat.zero_add]; exact hcat) hd ⟨h1, h2⟩) kk
end QCALL
