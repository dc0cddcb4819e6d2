-- out of kit/laws/SKELETON.whole.lean.txt
def R_law : String := "OneMournerLaw"
def lw_P (b : Addr) (xs : List Int32) (args : Array Value) (s : State) : Prop := args = #[.ref b] ∧ s.IntsAt b xs ∧ xs.length ≤ 3072 ∧ (Jvm.Cond.and given_1 narrow_1).before args s = true
def lw_Q (_ : Array Value) (s : State) (o : Outcome) (t : State) : Prop := o = .returned (some (.int 1)) ∧ Framed s o t [] 600000 7302250
def lw_Z (below : List Frame) (a : Array Value) (s : State) : State → Prop := fun t => ∃ o, t.status = .running ∧ Ended t below o ∧ lw_Q a s o t
/-- the law's own end, with 1 on the stack, nothing written that was there before, its room as the claim has it -/
theorem lw_ret {p : Program} {l : Launch} {e : Env} {s : State} {m : MethodId} {below : List Frame} {meth : Method} {c : Code} {b : Nat} (hx : p.tables.exec = Jvm.exec) (hb : c.code = code) (hr : meth.sig.returnType = ret) (hlocks : meth.locks = false) {pc : Nat} {H : Heap} {ls : Array Slot} (hdg : decode code pc = .ok (.ireturn, 1)) : W p l e room_1 s m #[Value.ref b] below meth c H [] 600000 7302250 (lw_Z below #[Value.ref b] s) (F0 m pc ls [.int 1]) := by
  intro T hT X
  obtain ⟨fs, hret, hrun, hended, hW, hframe⟩ := X.leave (v := some (.int 1)) (hlocks := hlocks) (fun h => by rw [hr] at h; cases h)
  have hmeth' : T.vm.method? m = some meth := X.method'
  refine ⟨T.setFrames fs, ?_, .returned (some (.int 1)), hrun, hended, rfl, ⟨_, rfl⟩, hW, hframe⟩
  jvm_step X.here [X.here.top, hx, hb, hdg, hmeth', hr, ret, narrow_b1]
  (try refine ⟨rfl, ?_⟩); (try refine ⟨rfl, ?_⟩)
  first | (intro acts; rw [hret _ acts rfl rfl rfl]) | rw [hret _ _ rfl rfl rfl]
  exact Steps.refl _
/-- what holds at the law's entry: the machine, the code, the tables' words (any of lw_tbl by 'hts w (by decide +kernel)'), the script of L ints xs at the cell b, what the Statement gives of the start (any of its parts by flat_of_before) -/
def lw_At (p : Program) (s : State) (m : MethodId) (meth : Method) (c : Code) (b L : Nat) (xs : Nat → Int32) : Prop :=
  p.tables.exec = Jvm.exec ∧ c.code = code ∧ meth.sig.returnType = ret ∧ c.maxLocals = 4 ∧ s.vm.findClass R_law = some m.cls ∧ (∀ w ∈ lw_tbl, w.before #[Value.ref b] s = true) ∧ va_X b L xs s s.heap ∧ b < s.heap.size ∧ meth.locks = false ∧ (Jvm.Cond.and given_1 narrow_1).before #[Value.ref b] s = true
/-! what the walks need, out of what the Statement gives of the start -/
def qTm (i : Nat) : Term := match i with
  | 0 => .string "OneMourner$Island" 23
  | 1 => .string "OneMourner$Reader" 39
  | 2 => .string "OneMourner$Reader" 41
  | 3 => .string "OneMourner$Reader" 43
  | 4 => .string "OneMourner$Reader" 52
  | 5 => .string "OneMourner$Reader" 71
  | _ => .string "OneMourner$Reader" 79
def qNarrow : List Cond := flatC (Jvm.Cond.and given_1 narrow_1)
theorem qNestF_in : qNestF.map (fun q => Cond.fieldLinkNest q.1 q.2.1 q.2.2.1 q.2.2.2.1 q.2.2.2.2.1 q.2.2.2.2.2) = ([134, 135, 136, 170, 171, 173, 174, 176, 178, 179, 195, 196, 197, 199, 200, 201, 203, 204, 205, 207, 208, 209, 211, 212, 214, 215, 217, 218, 220, 239, 240, 242, 243, 245, 246, 248, 249, 251, 252, 254, 256, 258, 260, 287, 289, 291, 311, 313, 315, 317, 319, 321, 323, 325, 354, 356, 370, 372, 374, 794] : List Nat).filterMap (fun i => lw_tbl[i]?) := by decide +kernel
theorem qNestM_in : qNestM.map (fun q => Cond.methodLinkNest q.1 q.2.1 q.2.2.1 q.2.2.2) = ([113, 157, 165, 190, 282, 304, 349, 365, 424, 439, 443, 450, 462, 463, 506, 510, 581, 592, 595, 603, 607, 611, 615, 616, 625, 633, 634, 635, 646, 658, 668, 672, 676, 694, 718, 726, 753, 759, 787, 798, 824, 832, 836, 845, 849] : List Nat).filterMap (fun i => lw_tbl[i]?) := by decide +kernel
theorem q_mem_map {α : Type} {f : α → Cond} {l : List α} {is : List Nat} (h : l.map f = is.filterMap (fun i => lw_tbl[i]?)) {q : α} (hq : q ∈ l) : f q ∈ lw_tbl := by
  have h1 : f q ∈ l.map f := List.mem_map.mpr ⟨q, hq, rfl⟩
  rw [h] at h1
  obtain ⟨i, -, hi⟩ := List.mem_filterMap.mp h1
  exact List.mem_of_getElem? hi
theorem qT_ex : ∀ i, i < 7 → Cond.exactly (qTm i) "java/lang/String" ∈ qNarrow := by decide +kernel
theorem qT_co : ∀ i, i < 7 → Cond.eq (.field (qTm i) "java/lang/String" "coder" "B") (.int 0) ∈ qNarrow := by decide +kernel
theorem qT_ar : ∀ i, i < 7 → Cond.arrayOf (.field (qTm i) "java/lang/String" "value" "[B") .byte ∈ qNarrow := by decide +kernel
theorem qT_le : ∀ i, i < 7 → Cond.eq (.length (.field (qTm i) "java/lang/String" "value" "[B")) (.int (Int32.ofNat (qLen.getD i 0))) ∈ qNarrow := by decide +kernel
theorem qT_el : ∀ i, i < 7 → ∀ j, j < qLen.getD i 0 → Cond.eq (.elem (.field (qTm i) "java/lang/String" "value" "[B") (.int (Int32.ofNat j))) (.int ((qByt.getD i []).getD j 0)) ∈ qNarrow := by decide +kernel
theorem qT_ne : ∀ i, i < 7 → ∀ j, j < 7 → i ≠ j → Cond.not (Cond.eq (qTm i) (qTm j)) ∈ qNarrow ∨ Cond.not (Cond.eq (qTm j) (qTm i)) ∈ qNarrow := by decide +kernel
theorem qT_st : ∀ q ∈ qStr, q.2.2.2 < 7 ∧ (qTm q.2.2.2 = .string q.1 q.2.1 ∨ Cond.eq (qTm q.2.2.2) (.string q.1 q.2.1) ∈ qNarrow) := by decide +kernel
theorem qT_sr : qStr.map (fun q => Cond.stringRef q.1 q.2.1 q.2.2.1) = ([117, 522, 523, 524, 572, 585, 586, 591, 1096, 1107, 1108, 1141, 1197] : List Nat).filterMap (fun i => lw_tbl[i]?) := by decide +kernel
theorem qA_el : ∀ j, j < 7 → Cond.eq (.elem (.static "OneMourner" "ABOVE" "[I") (.int (Int32.ofNat j))) (.int (qabove.getD j 0)) ∈ qNarrow := by decide +kernel
theorem qB_el : ∀ j, j < 21 → Cond.eq (.elem (.static "OneMourner$Acts" "BODIES" "[I") (.int (Int32.ofNat j))) (.int (qbodies.getD j 0)) ∈ qNarrow := by decide +kernel
theorem q_start {p : Program} {s : State} {m : MethodId} {meth : Method} {c : Code} {b L : Nat} {xs : Nat → Int32} (C0 : lw_At p s m meth c b L xs) : ∃ E : qE, qb E = s.heap.size ∧ qsc E = b ∧ qsl E = L ∧ qsx E = xs ∧ qKO E s := by
  obtain ⟨hx, hb, hr, hml, hown, hts, hX, hbl, hlocks, hgv⟩ := C0
  have hB : ∀ w ∈ qBIG, w.before #[Value.ref b] s = true := fun w hw => hts w (List.mem_filter.mp hw).1
  have hs : ∀ w ∈ qNarrow, w.before #[Value.ref b] s = true := flat_of_before _ hgv
  have hA : ∀ a : Nat, a < s.heap.size → ¬ (fun q => s.heap.size ≤ q) a := fun a h q => absurd h (Nat.not_lt.mpr q)
  obtain ⟨c0, i0, h0⟩ := u_known hB la_Ac (hB _ ia_Ac)
  obtain ⟨c1, i1, h1⟩ := u_known hB la_Is (hB _ ia_Is)
  obtain ⟨c2, i2, h2⟩ := u_known hB la_Mo (hB _ ia_Mo)
  obtain ⟨c3, i3, h3⟩ := u_known hB la_Mg (hB _ ia_Mg)
  obtain ⟨c4, i4, h4⟩ := u_known hB la_No (hB _ ia_No)
  obtain ⟨c5, i5, h5⟩ := u_known hB la_Re (hB _ ia_Re)
  obtain ⟨c6, i6, h6⟩ := u_known hB la_Ro (hB _ ia_Ro)
  obtain ⟨c7, i7, h7⟩ := u_known hB la_Ta (hB _ ia_Ta)
  obtain ⟨c8, i8, h8⟩ := u_known hB la_On (hB _ ia_On)
  obtain ⟨c9, i9, h9⟩ := u_known hB la_Md (hB _ ia_Md)
  have hc : ∀ k : Nat, ∃ d : ClassId × (Nat → Nat), ∀ q, vwCl[k]? = some q → u_Kn s q.1 q.2.1 q.2.2 d.1 d.2 := by
    intro k
    match k with
    | 0 => exact ⟨(c0, i0), fun q hq => by cases hq; exact h0⟩
    | 1 => exact ⟨(c1, i1), fun q hq => by cases hq; exact h1⟩
    | 2 => exact ⟨(c2, i2), fun q hq => by cases hq; exact h2⟩
    | 3 => exact ⟨(c3, i3), fun q hq => by cases hq; exact h3⟩
    | 4 => exact ⟨(c4, i4), fun q hq => by cases hq; exact h4⟩
    | 5 => exact ⟨(c5, i5), fun q hq => by cases hq; exact h5⟩
    | 6 => exact ⟨(c6, i6), fun q hq => by cases hq; exact h6⟩
    | 7 => exact ⟨(c7, i7), fun q hq => by cases hq; exact h7⟩
    | 8 => exact ⟨(c8, i8), fun q hq => by cases hq; exact h8⟩
    | 9 => exact ⟨(c9, i9), fun q hq => by cases hq; exact h9⟩
    | k + 10 => exact ⟨(c0, i0), fun q hq => by simp at hq⟩
  obtain ⟨dd, hd⟩ := Classical.axiomOfChoice hc
  obtain ⟨a0, ka0, m0, p0, r0, t0⟩ := Cond.arrayClass_spec (hB _ ac_byte)
  obtain ⟨a1, ka1, m1, p1, r1, t1⟩ := Cond.arrayClass_spec (hB _ ac_int)
  obtain ⟨a2, ka2, m2, p2, r2, t2⟩ := Cond.arrayClass_spec (hB _ ac_long)
  obtain ⟨a3, ka3, m3, p3, r3, t3⟩ := Cond.arrayClass_spec (hB _ ac_boolean)
  have o4 := hts (Cond.arrayOver (.object "OneMourner$Mourner")) (List.mem_of_getElem? (i := 162) (by decide +kernel))
  have o5 := hts (Cond.arrayOver (.object "OneMourner$Tape")) (List.mem_of_getElem? (i := 363) (by decide +kernel))
  obtain ⟨m4, a4, ka4, f4, g4, p4, r4, t4⟩ := Cond.arrayOver_spec o4
  obtain ⟨m5, a5, ka5, f5, g5, p5, r5, t5⟩ := Cond.arrayOver_spec o5
  obtain ⟨tA, eA, hTA⟩ := va_Tof (f := fun j => .int (qabove.getD j 0)) (N := 7) (A := fun q => s.heap.size ≤ q) (by decide) (hs (Cond.arrayOf (.static "OneMourner" "ABOVE" "[I") .int) (by decide +kernel)) (va_eqt (hs (Cond.eq (.length (.static "OneMourner" "ABOVE" "[I")) (.int 7)) (by decide +kernel))) (fun j hj => va_eqt (hs _ (qA_el j hj))) hA
  obtain ⟨tB, eB, hTB⟩ := va_Tof (f := fun j => .int (qbodies.getD j 0)) (N := 21) (A := fun q => s.heap.size ≤ q) (by decide) (hs (Cond.arrayOf (.static "OneMourner$Acts" "BODIES" "[I") .int) (by decide +kernel)) (va_eqt (hs (Cond.eq (.length (.static "OneMourner$Acts" "BODIES" "[I")) (.int 21)) (by decide +kernel))) (fun j hj => va_eqt (hs _ (qB_el j hj))) hA
  obtain ⟨adK, adV, hSS, hev⟩ := vk_Sof (N := 7) (tm := qTm) (len := qLen) (byt := qByt) (A := fun q => s.heap.size ≤ q) (by decide) (fun i hi => hs _ (qT_ex i hi)) (fun i hi => hs _ (qT_co i hi)) (fun i hi => hs _ (qT_ar i hi)) (fun i hi => hs _ (qT_le i hi)) (fun i hi j hj => hs _ (qT_el i hi j hj)) (fun i j hi hj hij => (qT_ne i hi j hj hij).imp (hs _) (hs _)) hA
  refine ⟨(s.heap.size, (fun k => (dd k).1, fun k => (dd k).2), fun k => if k = 10 then a0 else if k = 11 then a1 else if k = 12 then a2 else if k = 13 then a3 else if k = 14 then a4 else a5, tA, tB, adK, adV, b, L, xs), rfl, rfl, rfl, rfl, ⟨fun k q hq => hd k q hq, ?_⟩, fun q hq => va_Nw.of rfl (hts _ (q_mem_map qNestF_in hq)), fun q hq => va_Nw.of rfl (hts _ (q_mem_map qNestM_in hq)), ⟨va_Zref (hts (Cond.laysStatic "OneMourner" "ABOVE" "[I") (List.mem_of_getElem? (i := 795) (by decide +kernel))) (hts (Cond.initialized "OneMourner") (List.mem_of_getElem? (i := 86) (by decide +kernel))) eA hA, hTA⟩, ⟨va_Zref (hts (Cond.laysStatic "OneMourner$Acts" "BODIES" "[I") (List.mem_of_getElem? (i := 797) (by decide +kernel))) (hts (Cond.initialized "OneMourner$Acts") (List.mem_of_getElem? (i := 94) (by decide +kernel))) eB hA, hTB⟩, ⟨va_Zof (hts (Cond.laysStatic "java/lang/String" "COMPACT_STRINGS" "Z") (List.mem_of_getElem? (i := 127) (by decide +kernel))) (hts (Cond.initialized "java/lang/String") (List.mem_of_getElem? (i := 88) (by decide +kernel))) (va_eqi (hs (Cond.eq (.static "java/lang/String" "COMPACT_STRINGS" "Z") (.int 1)) (by decide +kernel))) hA, va_Zqof (hts (Cond.laysStatic "jdk/internal/util/Preconditions" "SIOOBE_FORMATTER" "Ljava/util/function/BiFunction;") (List.mem_of_getElem? (i := 545) (by decide +kernel))) (hts (Cond.initialized "jdk/internal/util/Preconditions") (List.mem_of_getElem? (i := 99) (by decide +kernel))) (hs (Cond.isRef (.static "jdk/internal/util/Preconditions" "SIOOBE_FORMATTER" "Ljava/util/function/BiFunction;")) (by decide +kernel)) hA⟩, ⟨hSS, ?_⟩, ⟨va_AO.of o4, va_AO.of o5⟩, Nat.le_refl _, hX, hbl⟩
  · intro k q hq
    have z0 : ArrOfT s a0 .byte := fun n z => ⟨fun k h => (by cases h), ka0, r0, m0, t0⟩
    have z1 : ArrOfT s a1 .int := fun n z => ⟨fun k h => (by cases h), ka1, r1, m1, t1⟩
    have z2 : ArrOfT s a2 .long := fun n z => ⟨fun k h => (by cases h), ka2, r2, m2, t2⟩
    have z3 : ArrOfT s a3 .boolean := fun n z => ⟨fun k h => (by cases h), ka3, r3, m3, t3⟩
    have z4 : ArrOfT s a4 (.object "OneMourner$Mourner") := fun n z => ⟨fun k h => (by cases h), ka4, p4, m4, r4⟩
    have z5 : ArrOfT s a5 (.object "OneMourner$Tape") := fun n z => ⟨fun k h => (by cases h), ka5, p5, m5, r5⟩
    match k with
    | 0 => cases hq; exact ⟨z0, p0⟩
    | 1 => cases hq; exact ⟨z1, p1⟩
    | 2 => cases hq; exact ⟨z2, p2⟩
    | 3 => cases hq; exact ⟨z3, p3⟩
    | 4 => cases hq; exact ⟨z4, ka4, m4, p4, r4, f4, t4⟩
    | 5 => cases hq; exact ⟨z5, ka5, m5, p5, r5, f5, t5⟩
    | k + 6 => simp [qtys] at hq
  · intro q hq
    obtain ⟨h1, h2⟩ := qT_st q hq
    refine vk_R.of (A := #[Value.ref b]) (hts _ (q_mem_map qT_sr hq)) ?_
    have h3 := hev _ h1
    rcases h2 with h2 | h2
    · rw [← h2]; exact h3
    · exact va_eqR (hs _ h2) h3
