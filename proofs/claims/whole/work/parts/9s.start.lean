/-! the start: what is given of it, and the walk from the entry -/
def XX (s : State) : State → Prop := fun U => s.WarmedH U.vm ∧ s.heap.size ≤ U.heap.size ∧ ∀ q : Nat, q < s.heap.size → U.heap[q]? = s.heap[q]?
theorem XX_ok (s : State) : aq_XOk s.heap.size (XX s) := by
  refine ⟨fun U V h hv hh => ?_, fun t U h hw hb hq => ?_⟩
  · obtain ⟨a, b, c⟩ := h
    exact ⟨by rw [← hv]; exact a, by rw [← hh]; exact b, by rw [← hh]; exact c⟩
  · obtain ⟨a, b, c⟩ := h
    refine ⟨State.WarmedH.trans a hw, ?_, fun q hlt => (hq q hlt).trans (c q hlt)⟩
    by_cases hz : s.heap.size = 0
    · omega
    · have h1 := hq (s.heap.size - 1) (by omega)
      have h2 := c (s.heap.size - 1) (by omega)
      by_cases hle : s.heap.size ≤ U.heap.size
      · exact hle
      · rw [Array.getElem?_eq_none (by omega), h2] at h1
        have h3 := Array.getElem?_eq_none_iff.mp h1.symm
        omega
theorem XX_s (s : State) (hw : s.WarmedH s.vm) : XX s s := ⟨hw, Nat.le_refl _, fun _ _ => rfl⟩
theorem SX_U {s U : State} {kA vA : Nat} {fq : Option Nat} (h : SX s.heap.size kA vA fq s) (hX : XX s U) : SX s.heap.size kA vA fq U := by
  obtain ⟨a, b, c⟩ := hX
  have hq : ∀ q : Nat, q < s.heap.size → ¬ s.heap.size ≤ q → U.heap[q]? = s.heap[q]? := fun q hlt _ => c q hlt
  exact ⟨(h.1.moved a.alike).kept hq, (h.2.1.moved a.alike).kept hq, (h.2.2.moved a.alike).kept hq⟩
def R_law : String := "MazeDeskLaw"
def lw_P (b : Addr) (xs : List Int32) (args : Array Value) (s : State) : Prop := args = #[.ref b] ∧ s.IntsAt b xs ∧ xs.length ≤ 2051 ∧ (Jvm.Cond.and given_1 narrow_1).before args s = true
def lw_Q (_ : Array Value) (s : State) (o : Outcome) (t : State) : Prop := o = .returned (some (.int 1)) ∧ Framed s o t [] 600000 7302250
def lw_Z (below : List Frame) (a : Array Value) (s : State) : State → Prop := fun t => ∃ o, t.status = .running ∧ Ended t below o ∧ lw_Q a s o t
/-- what holds at the law's entry -/
def lw_At (p : Program) (s : State) (m : MethodId) (meth : Method) (c : Code) (b L : Nat) (xs : Nat → Int32) : Prop :=
  p.tables.exec = Jvm.exec ∧ c.code = code ∧ meth.sig.returnType = ret ∧ c.maxLocals = 4 ∧ s.vm.findClass R_law = some m.cls ∧ (∀ w ∈ lw_tbl, w.before #[Value.ref b] s = true) ∧ va_X b L xs s s.heap ∧ b < s.heap.size ∧ meth.locks = false ∧ (Jvm.Cond.and given_1 narrow_1).before #[Value.ref b] s = true ∧ (Cond.code x code 4 ret).before #[Value.ref b] s = true ∧ meth.name = x.name
theorem str_at {s : State} {b : Nat} (hts : ∀ w ∈ lw_tbl, w.before #[Value.ref b] s = true) (hgv : (Jvm.Cond.and given_1 narrow_1).before #[Value.ref b] s = true) : ∃ (kA vA : Nat) (fq : Option Nat), SX s.heap.size kA vA fq s ∧ vk_R "MazeDesk$Picture" 78 "^>v<" kA s := by
  have hs := flat_of_before _ hgv
  have hA : ∀ a : Nat, a < s.heap.size → ¬ (fun q => s.heap.size ≤ q) a := fun a h1 h2 => by omega
  obtain ⟨adK, adV, h1, h2⟩ := vk_Sof (args := #[Value.ref b]) (s := s) (N := 1) (tm := fun _ => .string "MazeDesk$Picture" 78) (len := [4]) (byt := [[94, 62, 118, 60]]) (A := fun q => s.heap.size ≤ q) (show ∀ i : Nat, i < 1 → [4].getD i 0 < 2 ^ 31 by decide) (fun i hi => hs _ (by decide +kernel)) (fun i hi => hs _ (by decide +kernel)) (fun i hi => hs _ (by decide +kernel)) (fun i hi => by
      have : i = 0 := by omega
      subst this
      exact hs _ (by decide +kernel)) (fun i hi j hj => by
      have : i = 0 := by omega
      subst this
      have hj4 : j < 4 := hj
      have : j = 0 ∨ j = 1 ∨ j = 2 ∨ j = 3 := by omega
      rcases this with rfl | rfl | rfl | rfl
      · exact hs _ (by decide +kernel)
      · exact hs _ (by decide +kernel)
      · exact hs _ (by decide +kernel)
      · exact hs _ (by decide +kernel)) (fun i j hi hj hij => by omega) hA
  have hz : va_Z "java/lang/String" "COMPACT_STRINGS" "Z" (.int 1) (fun q => s.heap.size ≤ q) s s.heap := va_Zof (hts _ (by decide +kernel)) (hts _ (by decide +kernel)) (va_eqt (hs (Cond.eq (.static "java/lang/String" "COMPACT_STRINGS" "Z") (.int 1)) (by decide +kernel))) hA
  have hq : ∃ fq : Option Nat, va_Z "jdk/internal/util/Preconditions" "SIOOBE_FORMATTER" "Ljava/util/function/BiFunction;" (fqV fq) (fun q => s.heap.size ≤ q) s s.heap := by
    rcases va_Zqof (A := fun q => s.heap.size ≤ q) (hts _ (by decide +kernel)) (hts _ (by decide +kernel)) (hs (Cond.isRef (.static "jdk/internal/util/Preconditions" "SIOOBE_FORMATTER" "Ljava/util/function/BiFunction;")) (by decide +kernel)) hA with h | ⟨q, h⟩
    · exact ⟨none, h⟩
    · exact ⟨some q, h⟩
  obtain ⟨fq, hfq⟩ := hq
  refine ⟨adK 0, adV 0, fq, ⟨⟨fun i hi => ?_, fun i j hi hj _ => by omega⟩, hz, hfq⟩, vk_R.of (A := #[Value.ref b]) (hts _ (by decide +kernel)) (h2 0 (by decide))⟩
  have : i = 0 := by omega
  subst this
  exact h1.1 0 (by decide)
theorem nst_at {s U : State} {b : Nat} (hts : ∀ w ∈ lw_tbl, w.before #[Value.ref b] s = true) (hW : s.WarmedH U.vm) : ∀ w ∈ gNst, va_Nw w U := by
  have key : ∀ (a : String) (i : Nat) (x : MethodName) (h : String), Cond.methodLinkNest a i x h ∈ lw_tbl → va_Nw (Cond.methodLinkNest a i x h) U := fun a i x h hm => va_Nw.warmM hW (va_Nw.of rfl (hts _ hm))
  refine List.forall_mem_cons.mpr ⟨key _ _ _ _ (by decide +kernel), List.forall_mem_cons.mpr ⟨key _ _ _ _ (by decide +kernel), List.forall_mem_cons.mpr ⟨key _ _ _ _ (by decide +kernel), List.forall_mem_cons.mpr ⟨key _ _ _ _ (by decide +kernel), List.forall_mem_cons.mpr ⟨key _ _ _ _ (by decide +kernel), List.forall_mem_cons.mpr ⟨key _ _ _ _ (by decide +kernel), List.forall_mem_cons.mpr ⟨key _ _ _ _ (by decide +kernel), List.forall_mem_cons.mpr ⟨key _ _ _ _ (by decide +kernel), fun _ h => absurd h List.not_mem_nil⟩⟩⟩⟩⟩⟩⟩⟩
def spF (b kA vA : Nat) (fq : Option Nat) : Nat → Nat := fun k => match k with
  | 0 => b
  | 1 => kA
  | 2 => vA
  | _ => fq.getD 0
set_option maxHeartbeats 4000000 in
theorem whole_start {p : Program} {e : Env} {s : State} {m : MethodId} {below : List Frame} {meth : Method} {c : Code} (l : Launch) {b L : Nat} {xs : Nat → Int32} (hL : L ≤ 2051) (hw0 : s.WarmedH s.vm) (C0 : lw_At p s m meth c b L xs) : W p l e room_1 s m #[Value.ref b] below meth c s.heap [] 0 0 (lw_Z below #[Value.ref b] s) (entryFrame m ([Value.ref b] : List Value).toArray 4) := by
  obtain ⟨hx, hb, hr, hml, hown, hts, hX, hbl, hlocks, hgv, hcd, hnm⟩ := C0
  obtain ⟨D, dA, hK⟩ := known hts (hts _ (by decide +kernel))
  obtain ⟨kA, vA, fq, hSX, hR⟩ := str_at hts hgv
  have hf : fqV fq = aq_v s.heap.size (spF b kA vA fq) (fqA fq) := by cases fq <;> rfl
  have hXs := XX_s s hw0
  have hSc : ∀ U, XX s U → va_X (spF b kA vA fq 0) L xs U U.heap ∧ spF b kA vA fq 0 < s.heap.size := by
    intro U hU
    refine ⟨?_, hbl⟩
    exact (hX.moved hU.1.alike).kept (hU.2.2 b hbl)
  have hG : gG l D dA s.heap.size (spF b kA vA fq) (XX s) := by
    refine ⟨XX_ok s, fun U hU => nst_at hts hU.1, fun U hU => hR.warm hU.1, fun U hU => ?_, ms_charAt (XX_ok s) hf (fun U hU => SX_U hSX hU), mu_ok (fun U hU => AOs.moved hU.1.alike (ao_spec (hts _ (by decide +kernel))))⟩
    obtain ⟨⟨cell, c1, c2, c3, c4⟩, -⟩ := (SX_U hSX hU).1.1 0 (by decide)
    refine ⟨?_, cell, c1, c2, c3⟩
    have : ¬ s.heap.size ≤ kA := c4
    show kA < s.heap.size
    omega
  have hlaw := l_law (sX := xs) hL
  rw [lg_entry_eq]
  have key := aq_sound (p := p) (l := l) (e := e) (R := room_1) (s := s) (m := m) (args := #[Value.ref b]) (below := below) (meth := meth) (c := c) (D := D) (cl := gCl) (dA := dA) (base := s.heap.size) (sp := spF b kA vA fq) (X := XX s) (W0 := gW0) (E := e_L_law L xs) (y := x) (cc := code) (nL := 4) (f := 12) (lo := 446) (mc := 600000) (ms := 7302250) (rt := ret) (own := R_law) (Q := fun r _ => r = some (.int 1)) (Qc := fun _ _ o _ => o = .returned (some (.int 1)))
    hx hb hr hlocks hml hown hnm (List.forall_mem_cons.mpr ⟨hcd, gw_in hts⟩) rfl rfl rfl rfl (XX_ok s) hXs (Nat.le_refl _) hK gl_all (by decide) ck_L_law rfl gl_arr (fun _ h => absurd h List.not_mem_nil) (cok_law hG L xs hSc) (kok_law hG L xs hSc) (nok_law L xs) (Or.inl rfl) (fun q hq => by cases hq; exact hSc s hXs)
    (fun pc idx n ts hi => by
      have h1 := List.all_eq_true.mp (show k_L_law.all (fun o => !aq_isM o) = true by decide +kernel) _ (List.mem_of_getElem? hi)
      simp [aq_isM] at h1)
    (fun r h' t hq _ _ => by rw [hq]; rfl) hlaw.2 s.heap [] 0 0 _ (aq_hl_entry hlaw.1) ⟨by simp, fun k q h => by simp [aq_w] at h⟩ va_S.rf (by decide) (by decide)
  intro T hT XT
  obtain ⟨t, a1, o, b1, b2, b3, LL, b4, b5⟩ := key T hT XT
  refine ⟨t, a1, o, b1, b2, b3, b4.1, b4.2.1, b4.2.2.weaken (fun y hy hlt => absurd hlt (Nat.not_lt.mpr (b5 y hy))) (Nat.le_refl _) (Nat.le_refl _)⟩
