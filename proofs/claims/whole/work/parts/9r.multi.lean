/-! new long[n][k]: an array of arrays, row by row -/
/-- the outer array when i rows are made -/
def mqO (cA : ClassId) (N h0 i : Nat) : Cell := arrV cA N (fun j => if j < i then .ref (h0 + 1 + j) else .null)
def mqI (cI : ClassId) (M : Nat) : Cell := arrV cI M (fun _ => .long 0)
def mqS (T : State) (cA cI : ClassId) (N M : Nat) : Nat → State
  | 0 => T.pushCell (mqO cA N T.heap.size 0)
  | i + 1 => ((mqS T cA cI N M i).pushCell (mqI cI M)).setCell T.heap.size (mqO cA N T.heap.size (i + 1))
theorem mqO_s (cA : ClassId) (N h0 i : Nat) : (mqO cA N h0 i).setSlot i (.ref (h0 + 1 + i)) = mqO cA N h0 (i + 1) := by
  unfold mqO
  rw [arrV_store]
  congr 1
  funext j
  unfold updV
  by_cases e : j = i
  · rw [if_pos e, e, if_pos (by omega)]
  · rw [if_neg e]
    show (if j < i then Value.ref (h0 + 1 + j) else Value.null) = _
    by_cases c : j < i
    · rw [if_pos c, if_pos (by omega)]
    · rw [if_neg c, if_neg (by omega)]
theorem mqS_top (T : State) (f : JFrame) (cA cI : ClassId) (N M : Nat) : ∀ i, mqS (T.setTop f) cA cI N M i = (mqS T cA cI N M i).setTop f
  | 0 => rfl
  | i + 1 => by
    show ((mqS (T.setTop f) cA cI N M i).pushCell (mqI cI M)).setCell T.heap.size (mqO cA N T.heap.size (i + 1)) = _
    rw [mqS_top T f cA cI N M i]
    rfl
section MUL
variable {p : Program} {l : Launch} {e : Env} {R : Room} {s : State} {m : MethodId} {args : Array Value} {below : List Frame} {meth : Method} {c : Code} {T : State} {locs : List Loc} {cells slots : Nat}
theorem mqS_ok (T : State) (cA cI : ClassId) (N M : Nat) : ∀ i, (mqS T cA cI N M i).heap.size = T.heap.size + 1 + i ∧ (∀ q, q < T.heap.size → (mqS T cA cI N M i).heap[q]? = T.heap[q]?) ∧ (mqS T cA cI N M i).heap[T.heap.size]? = some (mqO cA N T.heap.size i) ∧ (∀ j, j < i → (mqS T cA cI N M i).heap[T.heap.size + 1 + j]? = some (mqI cI M)) ∧ (mqS T cA cI N M i).vm = T.vm ∧ (mqS T cA cI N M i).slotsUsed = T.slotsUsed + N + i * M
  | 0 => by
    refine ⟨by simp [mqS], fun q hq => ?_, ?_, fun j hj => by omega, rfl, ?_⟩
    · show (T.heap.push _)[q]? = _
      rw [Array.getElem?_push, if_neg (by omega)]
    · show (T.heap.push _)[T.heap.size]? = _
      rw [Array.getElem?_push, if_pos rfl]
    · simp [mqS, mqO, arrV_size]
  | i + 1 => by
    obtain ⟨a1, a2, a3, a4, a5, a6⟩ := mqS_ok T cA cI N M i
    have hh : (mqS T cA cI N M (i + 1)).heap = ((mqS T cA cI N M i).heap.push (mqI cI M)).setIfInBounds T.heap.size (mqO cA N T.heap.size (i + 1)) := rfl
    refine ⟨?_, fun q hq => ?_, ?_, fun j hj => ?_, ?_, ?_⟩
    · rw [hh]; simp; omega
    · rw [hh, Array.getElem?_setIfInBounds, if_neg (by omega), Array.getElem?_push, if_neg (by omega)]; exact a2 q hq
    · rw [hh, Array.getElem?_setIfInBounds, if_pos rfl, if_pos (by simp; omega)]
    · rw [hh, Array.getElem?_setIfInBounds, if_neg (by omega), Array.getElem?_push]
      by_cases z : j = i
      · rw [if_pos (by omega)]
      · rw [if_neg (by omega)]; exact a4 j (by omega)
    · exact a5
    · show (mqS T cA cI N M i).slotsUsed + (mqI cI M).slots.size = _
      rw [a6, mqI, arrV_size, Nat.succ_mul]; omega
theorem mqS_st (X : Stand p l e R s m args below meth c T locs cells slots) (cA cI : ClassId) (N M : Nat) : ∀ i, Stand p l e R s m args below meth c (mqS T cA cI N M i) locs (cells + 1 + i) (slots + N + i * M)
  | 0 => by
    have h := X.pushed (mqO cA N T.heap.size 0)
    have e1 : (mqO cA N T.heap.size 0).slots.size = N := arrV_size _ _ _
    rw [e1] at h
    rw [Nat.zero_mul]
    exact h
  | i + 1 => by
    have Xi := mqS_st X cA cI N M i
    obtain ⟨a1, a2, a3, a4, a5, a6⟩ := mqS_ok T cA cI N M i
    have hcell : ((mqS T cA cI N M i).pushCell (mqI cI M)).heap[T.heap.size]? = some (mqO cA N T.heap.size i) := by
      show ((mqS T cA cI N M i).heap.push _)[T.heap.size]? = _
      rw [Array.getElem?_push, if_neg (by omega)]; exact a3
    have h := (Xi.pushed (mqI cI M)).stored hcell i (.ref (T.heap.size + 1 + i))
    rw [mqO_s] at h
    have e1 : (mqI cI M).slots.size = M := arrV_size _ _ _
    rw [e1] at h
    have hsz : s.heap.size ≤ T.heap.size := X.same.2.1
    have h2 := Stand.forget (locs := locs) h (fun y hy => by
      have hy2 : y = ⟨T.heap.size, i⟩ := by simpa using hy
      rw [hy2]; exact hsz)
    rw [show slots + N + (i + 1) * M = slots + N + i * M + M by rw [Nat.succ_mul]; omega]
    exact h2
theorem mq_make {E : CtlPost} {d : Bool} {acts : List Action} {U : State} {cA cI cc : ClassId} {kA kI : Class} {x y : Int32} (hkA : U.vm.classes[cA]? = some kA) (hkindA : kA.kind = .array cI (.array .long)) (hkI : U.vm.classes[cI]? = some kI) (hkindI : kI.kind = .array cc .long) (hx : ¬ x < 0) (hy : ¬ y < 0)
    (hl1 : ¬ x.toNatClampNeg > e.platform.arrayLengthLimit) (hh1 : ¬ x.toNatClampNeg * componentBytes (.array .long) > e.platform.maxHeapBytes) (hl2 : ¬ y.toNatClampNeg > e.platform.arrayLengthLimit) (hh2 : ¬ y.toNatClampNeg * componentBytes .long > e.platform.maxHeapBytes)
    (hc : U.heap.size + 1 + x.toNatClampNeg ≤ e.platform.maxCells) (hs : U.slotsUsed + x.toNatClampNeg + x.toNatClampNeg * y.toNatClampNeg ≤ e.platform.maxSlots)
    {Q : Addr → Pre} (hq : ∀ d' acts', Q U.heap.size d' acts' (mqS U cA cI x.toNatClampNeg y.toNatClampNeg x.toNatClampNeg)) : wp (multianewarray.make cA [x, y]) Q E e d acts U := by
  have hfind : ([y].find? (· < 0)) = none := by simp [hy]
  rw [multianewarray.make]
  simp only [wp_bind', Jvm.W.ite, hx, if_false, wp_pure', Jvm.W.theClass, hkA, hkindA, Option.some.injEq, exists_eq_left']
  have e0 : ({ cls := cA, slots := Array.replicate x.toNatClampNeg .null } : Cell) = mqO cA x.toNatClampNeg U.heap.size 0 := by
    refine (arrV_new cA x.toNatClampNeg .null).trans ?_
    unfold mqO
    congr 1
  have eI : ({ cls := cI, slots := Array.replicate y.toNatClampNeg (defaultValue .long) } : Cell) = mqI cI y.toNatClampNeg := arrV_new cI y.toNatClampNeg (.long 0)
  refine Jvm.W.newArray_of hkA hkindA hl1 hh1 (by omega) (by have := Nat.zero_le (x.toNatClampNeg * y.toNatClampNeg); omega) rfl (fun acts1 => ?_)
  rw [e0]
  simp only [hfind]
  rw [ite_self, wp_bind', Std.Legacy.Range.forIn_eq_forIn_range']
  generalize hN : x.toNatClampNeg = N at *
  generalize hM : y.toNatClampNeg = M at *
  have hsz : ([:N] : Std.Legacy.Range).size = N := by simp [Std.Legacy.Range.size]
  rw [hsz]
  show wp (forIn (List.range' 0 N 1) PUnit.unit _) _ E e d acts1 _
  refine wp_forIn_inv (fun rest s' => ∃ i, i ≤ N ∧ rest = List.range' i (N - i) ∧ s' = mqS U cA cI N M i) _ _ ⟨0, Nat.zero_le _, rfl, rfl⟩ ?_ ?_
  · rintro t rest s' d' acts' Q' ⟨i, hi, hrest, rfl⟩ hnext
    have hlt : i < N := by
      by_cases z : i < N
      · exact z
      · rw [show N - i = 0 by omega] at hrest; cases hrest
    obtain ⟨k, hk⟩ : ∃ k, N - i = k + 1 := ⟨N - i - 1, by omega⟩
    rw [hk, List.range'_succ] at hrest
    have ht : t = i := by injection hrest
    have hr2 : rest = List.range' (i + 1) k := by injection hrest
    subst ht
    obtain ⟨a1, a2, a3, a4, a5, a6⟩ := mqS_ok U cA cI N M t
    have hmul : t * M + M ≤ N * M := by
      have := Nat.mul_le_mul_right M (show t + 1 ≤ N from hlt)
      rw [Nat.succ_mul] at this
      exact this
    simp only [wp_bind']
    rw [multianewarray.make]
    simp only [wp_bind', Jvm.W.ite, hy, if_false, wp_pure', Jvm.W.theClass, a5, hkI, hkindI, Option.some.injEq, exists_eq_left', hM]
    refine Jvm.W.newArray_of (by rw [a5]; exact hkI) hkindI hl2 hh2 (by omega) (by omega) rfl (fun acts2 => ?_)
    rw [eI]
    simp only [wp_bind', Jvm.W.writeLoc, wp_pure']
    refine ⟨mqO cA N U.heap.size t, ?_, by simp [mqO, arrV], ?_, ?_, ?_⟩
    · show ((mqS U cA cI N M t).heap.push _)[U.heap.size]? = _
      rw [Array.getElem?_push, if_neg (by omega)]; exact a3
    · rw [mqO, arrV_size]; exact hlt
    · have hcl : (mqS U cA cI N M t).vm.classes[cA]? = some kA := by rw [a5]; exact hkA
      simp [State.fitsSlot, State.slotType?, mqO, arrV, hcl, a5, hkA, hkindA, fits]
    · refine hnext _ _ _ ⟨t + 1, hlt, by rw [hr2, show N - (t + 1) = k by omega], ?_⟩
      rw [a1, mqO_s]
      rfl
  · rintro s' d' acts' ⟨i, hi, hrest, rfl⟩
    have : i = N := by
      by_cases z : i < N
      · obtain ⟨k, hk⟩ : ∃ k, N - i = k + 1 := ⟨N - i - 1, by omega⟩
        rw [hk, List.range'_succ] at hrest
        cases hrest
      · omega
    subst this
    simp only [wp_pure']
    exact hq _ _
end MUL
def AOs (U : State) : Prop := ∃ (comp cA : ClassId) (k : Class), U.vm.findClass (FieldType.array .long).toString = some comp ∧ U.vm.classes[cA]? = some k ∧ k.kind = .array comp (.array .long) ∧ U.vm.findClass ("[" ++ (FieldType.array .long).toString) = some cA
theorem AOs.moved {u U : State} (hvm : u.vm.Alike U.vm) (h : AOs u) : AOs U := by
  obtain ⟨comp, cA, k, h1, h2, h3, h4⟩ := h
  obtain ⟨k', hk', he⟩ := hvm.2.2 _ _ h2
  exact ⟨comp, cA, k', by rw [hvm.findClass]; exact h1, hk', by rw [he]; exact h3, by rw [hvm.findClass]; exact h4⟩
theorem gx_cl : Cond.classLink RX7 25 ("[" ++ (FieldType.array .long).toString) ∈ gW0 := List.mem_filter.mpr ⟨by decide +kernel, by decide +kernel⟩
set_option maxHeartbeats 4000000 in
theorem mu_ok {l : Launch} {D : va_G} {dA : FieldType → ClassId} {X : State → Prop} (hAO : ∀ U, X U → AOs U) : ∀ (p : Program) (e : Env) (R : Room) (s : State) (m : MethodId) (args : Array Value) (below : List Frame) (meth : Method) (c : Code), p.tables.exec = Jvm.exec → c.code = cX7_init → s.vm.findClass RX7 = some m.cls → (∀ w ∈ gW0, w.before args s = true) → X s → va_K D gCl (aq_tys dA) s → aq_Mu p l e R s m args below meth c dA cX7_init 25 := by
  intro p e R s m args below meth c hexec hb hown hts hXs hK pc x y H locs cells slots ls rest Q hdg hx hy hx1 hy1 hc hsl K T hT X
  subst hT
  obtain ⟨comp, cA, kA, o1, o2, o3, o4⟩ := hAO s hXs
  obtain ⟨cI, kI, cc, i1, i2, i3⟩ := Cond.arrayClass_spec (hts _ gw_186)
  have ecI : cI = comp := Option.some.inj (i1.symm.trans o1)
  subst ecI
  have eA : dA (.array .long) = cA := by
    have h1 : s.vm.findClass ("[" ++ (FieldType.array .long).toString) = some (dA (.array .long)) := (hK.2 4 (dA (.array .long), .array .long) rfl).2
    exact Option.some.inj (h1.symm.trans o4)
  have eI : dA .long = cI := by
    have h1 : s.vm.findClass ("[" ++ FieldType.long.toString) = some (dA .long) := (hK.2 2 (dA .long, .long) rfl).2
    exact Option.some.inj (h1.symm.trans i1)
  have hpl : e.platform.magicAccessors = ({} : Platform).magicAccessors := by rw [X.admits.platform]
  obtain ⟨c0, hfc0, hcl⟩ := Cond.classLink_spec hown (hts _ gx_cl) e.platform hpl
  have ec0 : c0 = cA := Option.some.inj (hfc0.symm.trans o4)
  subst ec0
  obtain ⟨hg₁, hwarm₁, hready₁⟩ := State.classEntry (e := e) X.warmed hcl
  generalize T.vm.noted m.cls 25 (.cls c0) = vm₁ at hg₁ hwarm₁ hready₁
  have hal : s.vm.Alike vm₁ := hwarm₁.alike
  obtain ⟨kA₁, hkA₁, heA⟩ := hal.2.2 _ _ o2
  obtain ⟨kI₁, hkI₁, heI⟩ := hal.2.2 _ _ i2
  have hkindA₁ : kA₁.kind = .array cI (.array .long) := by rw [heA]; exact o3
  have hkindI₁ : kI₁.kind = .array cc .long := by rw [heI]; exact i3
  have X₁ := X.noted hwarm₁
  obtain ⟨hr1, hr2⟩ := X.roomAbove hc hsl
  have XS := mqS_st X₁ c0 cI x.toNatClampNeg y.toNatClampNeg x.toNatClampNeg
  obtain ⟨a1, a2, a3, a4, a5, a6⟩ := mqS_ok (T.setVm vm₁) c0 cI x.toNatClampNeg y.toNatClampNeg x.toNatClampNeg
  have XS' : Stand p l e R s m args below meth c (mqS (T.setVm vm₁) c0 cI x.toNatClampNeg y.toNatClampNeg x.toNatClampNeg) locs (cells + (1 + x.toNatClampNeg)) (slots + (x.toNatClampNeg + x.toNatClampNeg * y.toNatClampNeg)) := by
    rw [← Nat.add_assoc, ← Nat.add_assoc]; exact XS
  have hout : (mqS (T.setVm vm₁) c0 cI x.toNatClampNeg y.toNatClampNeg x.toNatClampNeg).heap[T.heap.size]? = some (vp_cell (dA (.array .long)) (x.toNatClampNeg, .inr (.inr (.inr (.inr (fun j => some (T.heap.size + 1 + j))))))) := by
    refine a3.trans ?_
    rw [eA]
    have e5 : mqO c0 x.toNatClampNeg T.heap.size x.toNatClampNeg = arrV c0 x.toNatClampNeg (fun j => va_rf (some (T.heap.size + 1 + j))) := by
      unfold mqO arrV
      congr 1
      apply Array.ext
      · simp
      · intro i h1 h2
        have hi : i < x.toNatClampNeg := by simpa using h1
        simp only [Array.getElem_ofFn, if_pos hi]
        rfl
    exact congrArg some e5
  obtain ⟨t, st, hQ⟩ := K _ a1 a2 hout (fun j hj => by rw [eI]; exact a4 j hj) (mqS (T.setVm vm₁) c0 cI x.toNatClampNeg y.toNatClampNeg x.toNatClampNeg) rfl XS'
  refine ⟨t, ?_, hQ⟩
  have hl1 : ¬ x.toNatClampNeg > e.platform.arrayLengthLimit := by rw [Launch.admits_arrayLengthLimit X.admits]; omega
  have hh1 : ¬ x.toNatClampNeg * componentBytes (.array .long) > e.platform.maxHeapBytes := by
    rw [Launch.admits_maxHeapBytes X.admits]; show ¬ x.toNatClampNeg * 4 > 536870912; omega
  have hl2 : ¬ y.toNatClampNeg > e.platform.arrayLengthLimit := by rw [Launch.admits_arrayLengthLimit X.admits]; omega
  have hh2 : ¬ y.toNatClampNeg * componentBytes .long > e.platform.maxHeapBytes := by
    rw [Launch.admits_maxHeapBytes X.admits]; show ¬ y.toNatClampNeg * 8 > 536870912; omega
  jvm_step X.here [hexec, hb, hdg]
  simp only [multianewarray.sem, wp_bind', Jvm.W.resolveClassAt_links (State.method?_setTop (F0 m pc ls (.int y :: .int x :: rest)) X.here.top) hg₁]
  rw [Jvm.W.popN, if_neg (by decide)]
  refine ⟨F0 m pc ls (.int y :: .int x :: rest), State.topJava?_setTop' (s := T.setVm vm₁) (F0 m pc ls (.int y :: .int x :: rest)) X.here.top, [.int x, .int y], rest, rfl, rfl, ?_⟩
  simp only [List.mapM_cons, List.mapM_nil, wp_bind', wp_pure']
  refine mq_make (kA := kA₁) (kI := kI₁) hkA₁ hkindA₁ hkI₁ hkindI₁ hx hy hl1 hh1 hl2 hh2 (by show T.heap.size + 1 + _ ≤ _; omega) (by show T.slotsUsed + _ + _ ≤ _; omega) (fun d' acts' => ?_)
  have eS : ((T.setTop (F0 m pc ls (.int y :: .int x :: rest))).setVm vm₁).setTop { F0 m pc ls (.int y :: .int x :: rest) with stack := rest } = (T.setVm vm₁).setTop { F0 m pc ls (.int y :: .int x :: rest) with stack := rest } := by
    show ((T.setVm vm₁).setTop _).setTop _ = _
    rw [State.setTop_setTop]
  rw [eS, mqS_top]
  simp only [wp_bind', Jvm.W.mark, Jvm.W.pushRef, State.topJava?_setTop' _ XS.here.top, Option.some.injEq, exists_eq_left', State.setTop_setTop, State.heap_setTop]
  intro acts
  simp [jvm, XS.here.top]
  exact st
