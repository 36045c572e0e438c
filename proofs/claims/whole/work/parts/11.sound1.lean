/-! SOUNDNESS: what the abstract machine does, the machine does -/
def aq_v (b : Nat) (sp : Nat → Nat) : Value → Value
  | .ref k => .ref (b + k)
  | .retAddr k => .ref (sp k)
  | v => v
theorem aq_v_cat (b : Nat) (sp : Nat → Nat) (v : Value) : (aq_v b sp v).category = v.category := by cases v <;> rfl
def aq_a (b : Nat) (a : vp_A) : vp_A := (a.1, match a.2 with
  | .inr (.inr (.inr (.inr f))) => .inr (.inr (.inr (.inr (fun j => (f j).map (fun k => b + k)))))
  | x => x)
def aq_e (dA : FieldType → ClassId) (b : Nat) (sp : Nat → Nat) : aq_E → va_E
  | .inl q => .inl (dA q.1, aq_a b q.2)
  | .inr q => .inr (q.1, q.2.map (aq_v b sp))
def aq_w (dA : FieldType → ClassId) (b : Nat) (sp : Nat → Nat) (h : aq_H) : va_W := h.zipIdx.map fun q => (b + q.2, aq_e dA b sp q.1)
theorem aq_w_get (dA : FieldType → ClassId) (b : Nat) (sp : Nat → Nat) (h : aq_H) (k : Nat) : (aq_w dA b sp h)[k]? = h[k]?.map (fun e => (b + k, aq_e dA b sp e)) := by
  unfold aq_w
  rw [List.getElem?_map, List.getElem?_zipIdx]
  cases h[k]? with
  | none => rfl
  | some e => simp
theorem aq_w_at {dA : FieldType → ClassId} {b : Nat} {sp : Nat → Nat} {h : aq_H} {k : Nat} {e : aq_E} (he : h[k]? = some e) : (aq_w dA b sp h)[k]? = some (b + k, aq_e dA b sp e) := by
  rw [aq_w_get, he]
  rfl
theorem aq_w_set (dA : FieldType → ClassId) (b : Nat) (sp : Nat → Nat) (h : aq_H) (k : Nat) (e : aq_E) : aq_w dA b sp (h.set k e) = (aq_w dA b sp h).set k (b + k, aq_e dA b sp e) := by
  apply List.ext_getElem?
  intro j
  rw [aq_w_get, List.getElem?_set, List.getElem?_set, aq_w_get]
  by_cases e1 : k = j
  · subst e1
    rw [if_pos rfl, if_pos rfl]
    by_cases hl : k < h.length
    · rw [if_pos hl, if_pos (by simpa [aq_w] using hl)]
      rfl
    · rw [if_neg hl, if_neg (by simpa [aq_w] using hl)]
      rfl
  · rw [if_neg e1, if_neg e1]
theorem aq_w_D (dA : FieldType → ClassId) (b : Nat) (sp : Nat → Nat) (h : aq_H) : va_D (fun q => b ≤ q) (aq_w dA b sp h) := by
  have key : ∀ (k : Nat) (q : Nat × va_E), (aq_w dA b sp h)[k]? = some q → q.1 = b + k := by
    intro k q hq
    rw [aq_w_get] at hq
    cases he : h[k]? with
    | none => rw [he] at hq; cases hq
    | some e => rw [he] at hq; cases hq; rfl
  refine ⟨fun i j p q hp hq e => ?_, fun k q hq => ?_⟩
  · have h1 := key i p hp
    have h2 := key j q hq
    omega
  · have h1 := key k q hq
    show b ≤ q.1
    omega
/-- the abstract heap h stands at base b -/
def aq_Abs (D : va_G) (cl : List vw_C) (dA : FieldType → ClassId) (b : Nat) (sp : Nat → Nat) (h : aq_H) (H : Heap) : Prop := H.size = b + h.length ∧ va_P D cl (aq_w dA b sp h) H
theorem aq_Abs.set {D : va_G} {cl : List vw_C} {dA : FieldType → ClassId} {b : Nat} {sp : Nat → Nat} {h : aq_H} {H H1 : Heap} {k : Nat} {e0 e : aq_E} (hA : aq_Abs D cl dA b sp h H) (he : h[k]? = some e0) (hv : va_at D cl (b + k, aq_e dA b sp e) H1) (z : H1.size = H.size) (oq : ∀ q : Nat, q ≠ b + k → H1[q]? = H[q]?) : aq_Abs D cl dA b sp (h.set k e) H1 := by
  refine ⟨by rw [z, hA.1, List.length_set], ?_⟩
  rw [aq_w_set]
  exact hA.2.set (aq_w_D dA b sp h) (aq_w_at he) hv oq
theorem aq_Abs.push {D : va_G} {cl : List vw_C} {dA : FieldType → ClassId} {b : Nat} {sp : Nat → Nat} {h : aq_H} {H H1 : Heap} {e : aq_E} (hA : aq_Abs D cl dA b sp h H) (hv : va_at D cl (b + h.length, aq_e dA b sp e) H1) (z : H1.size = H.size + 1) (oq : ∀ q : Nat, q < H.size → H1[q]? = H[q]?) : aq_Abs D cl dA b sp (h ++ [e]) H1 := by
  refine ⟨by rw [z, hA.1]; simp; omega, fun k q hk => ?_⟩
  rw [aq_w_get] at hk
  by_cases hl : k < h.length
  · rw [List.getElem?_append_left hl] at hk
    have hq : (aq_w dA b sp h)[k]? = some q := by rw [aq_w_get]; exact hk
    exact (hA.2 k q hq).kept (oq q.1 ((hA.2 k q hq).lt))
  · rw [List.getElem?_append_right (by omega)] at hk
    by_cases h0 : k - h.length = 0
    · rw [h0] at hk
      have hk2 : k = h.length := by omega
      subst hk2
      cases hk
      exact hv
    · rw [List.getElem?_eq_none (by simp; omega)] at hk
      cases hk
/-! locals -/
def aq_hl (b : Nat) (sp : Nat → Nat) (ls : Array Slot) (nL : Nat) (L : aq_L) : Prop := ls.size = nL ∧ lv_wf ls ∧ L.length = nL ∧ ∀ (i : Nat) (v : Value), L[i]? = some (some v) → ls[i]? = some (Slot.val (aq_v b sp v))
def aq_pr (b : Nat) (sp : Nat → Nat) (L : aq_L) : List (Nat × Value) := L.zipIdx.filterMap (fun q => q.1.map (fun v => (q.2, aq_v b sp v)))
theorem aq_pr_mem {b : Nat} {sp : Nat → Nat} {L : aq_L} {q : Nat × Value} : q ∈ aq_pr b sp L ↔ ∃ v, L[q.1]? = some (some v) ∧ q.2 = aq_v b sp v := by
  unfold aq_pr
  rw [List.mem_filterMap]
  constructor
  · rintro ⟨⟨o, i⟩, h1, h2⟩
    rw [List.mem_zipIdx_iff_getElem?] at h1
    cases o with
    | none => cases h2
    | some v =>
      cases h2
      exact ⟨v, h1, rfl⟩
  · rintro ⟨v, h1, h2⟩
    refine ⟨(some v, q.1), ?_, ?_⟩
    · rw [List.mem_zipIdx_iff_getElem?]
      exact h1
    · obtain ⟨a, w⟩ := q
      cases h2
      rfl
theorem aq_hl.has {b : Nat} {sp : Nat → Nat} {ls : Array Slot} {nL : Nat} {L : aq_L} (h : aq_hl b sp ls nL L) : lv_has ls nL (aq_pr b sp L) := by
  refine ⟨h.1, h.2.1, fun q hq => ?_⟩
  obtain ⟨v, h1, h2⟩ := aq_pr_mem.mp hq
  rw [h2]
  exact h.2.2.2 _ _ h1
theorem aq_s1_len : ∀ (L : aq_L) (i : Nat) (v : Value), (aq_s1 L i v).length = L.length
  | [], _, _ => rfl
  | _ :: _, 0, _ => rfl
  | x :: L, 1, v => by simp [aq_s1, aq_s1_len L 0 v]
  | x :: L, i + 2, v => by simp [aq_s1, aq_s1_len L (i + 1) v]
theorem aq_s2_len : ∀ (L : aq_L) (i : Nat) (v : Value), (aq_s2 L i v).length = L.length
  | [], _, _ => by simp [aq_s2]
  | [_], 0, _ => by simp [aq_s2]
  | _ :: _ :: _, 0, _ => by simp [aq_s2]
  | x :: L, 1, v => by
    have h := aq_s2_len L 0 v
    cases L <;> simp [aq_s2] at h ⊢ <;> exact h
  | x :: L, i + 2, v => by
    have h := aq_s2_len L (i + 1) v
    cases L <;> simp [aq_s2] at h ⊢ <;> exact h
theorem aq_kill_some {x : Option Value} {w : Value} (h : aq_kill x = some w) : x = some w ∧ ¬ w.category = 2 := by
  cases x with
  | none => simp [aq_kill] at h
  | some v => cases v <;> simp [aq_kill] at h <;> subst h <;> exact ⟨rfl, by simp [Value.category]⟩
theorem aq_s1_get : ∀ (L : aq_L) (i : Nat) (v : Value) (j : Nat) (w : Value), (aq_s1 L i v)[j]? = some (some w) → (j = i ∧ w = v) ∨ (j ≠ i ∧ L[j]? = some (some w) ∧ ¬ (j + 1 = i ∧ w.category = 2))
  | [], i, v, j, w, h => by simp [aq_s1] at h
  | x :: L, 0, v, 0, w, h => by
    simp [aq_s1] at h
    exact Or.inl ⟨rfl, h.symm⟩
  | x :: L, 0, v, j + 1, w, h => by
    simp [aq_s1] at h
    exact Or.inr ⟨by omega, by simpa using h, by omega⟩
  | x :: L, 1, v, 0, w, h => by
    simp [aq_s1] at h
    obtain ⟨h1, h2⟩ := aq_kill_some h
    exact Or.inr ⟨by omega, by simp [h1], fun q => h2 q.2⟩
  | x :: L, 1, v, j + 1, w, h => by
    simp only [aq_s1, List.getElem?_cons_succ] at h
    rcases aq_s1_get L 0 v j w h with ⟨h1, h2⟩ | ⟨h1, h2, h3⟩
    · exact Or.inl ⟨by omega, h2⟩
    · exact Or.inr ⟨by omega, by simpa using h2, by omega⟩
  | x :: L, i + 2, v, 0, w, h => by
    simp [aq_s1] at h
    exact Or.inr ⟨by omega, by simp [h], by omega⟩
  | x :: L, i + 2, v, j + 1, w, h => by
    simp only [aq_s1, List.getElem?_cons_succ] at h
    rcases aq_s1_get L (i + 1) v j w h with ⟨h1, h2⟩ | ⟨h1, h2, h3⟩
    · exact Or.inl ⟨by omega, h2⟩
    · exact Or.inr ⟨by omega, by simpa using h2, fun q => h3 ⟨by omega, q.2⟩⟩
theorem aq_s2_get : ∀ (L : aq_L) (i : Nat) (v : Value) (j : Nat) (w : Value), (aq_s2 L i v)[j]? = some (some w) → (j = i ∧ w = v) ∨ (j ≠ i ∧ j ≠ i + 1 ∧ L[j]? = some (some w) ∧ ¬ (j + 1 = i ∧ w.category = 2))
  | [], i, v, j, w, h => by simp [aq_s2] at h
  | [x], 0, v, j, w, h => by
    cases j with
    | zero => simp [aq_s2] at h
    | succ j => simp [aq_s2] at h
  | x :: y :: L, 0, v, 0, w, h => by
    simp [aq_s2] at h
    exact Or.inl ⟨rfl, h.symm⟩
  | x :: y :: L, 0, v, 1, w, h => by simp [aq_s2] at h
  | x :: y :: L, 0, v, j + 2, w, h => by
    simp [aq_s2] at h
    exact Or.inr ⟨by omega, by omega, by simpa using h, by omega⟩
  | x :: L, 1, v, 0, w, h => by
    simp only [aq_s2] at h
    obtain ⟨h1, h2⟩ := aq_kill_some (show aq_kill x = some w by simpa using h)
    exact Or.inr ⟨by omega, by omega, by simp [h1], fun q => h2 q.2⟩
  | x :: L, 1, v, j + 1, w, h => by
    simp only [aq_s2, List.getElem?_cons_succ] at h
    rcases aq_s2_get L 0 v j w h with ⟨h1, h2⟩ | ⟨h1, h2, h3, h4⟩
    · exact Or.inl ⟨by omega, h2⟩
    · exact Or.inr ⟨by omega, by omega, by simpa using h3, by omega⟩
  | x :: L, i + 2, v, 0, w, h => by
    simp only [aq_s2] at h
    exact Or.inr ⟨by omega, by omega, by simpa using h, by omega⟩
  | x :: L, i + 2, v, j + 1, w, h => by
    simp only [aq_s2, List.getElem?_cons_succ] at h
    rcases aq_s2_get L (i + 1) v j w h with ⟨h1, h2⟩ | ⟨h1, h2, h3, h4⟩
    · exact Or.inl ⟨by omega, h2⟩
    · exact Or.inr ⟨by omega, by omega, by simpa using h3, fun q => h4 ⟨by omega, q.2⟩⟩
theorem aq_hl.s1 {b : Nat} {sp : Nat → Nat} {ls ls' : Array Slot} {nL : Nat} {L : aq_L} {i : Nat} {v x : Value} (h : aq_hl b sp ls nL L) (hx : aq_v b sp v = x) (h' : lv_has ls' nL ((i, x) :: (aq_pr b sp L).filter (fun q => !(q.1 == i) && !(q.1 + 1 == i && q.2.category == 2)))) : aq_hl b sp ls' nL (aq_s1 L i v) := by
  refine ⟨h'.1, h'.2.1, by rw [aq_s1_len]; exact h.2.2.1, fun j w hj => ?_⟩
  rcases aq_s1_get L i v j w hj with ⟨e1, e2⟩ | ⟨e1, e2, e3⟩
  · subst e1; subst e2
    have := h'.2.2 (j, x) List.mem_cons_self
    rw [hx]; exact this
  · refine h'.2.2 (j, aq_v b sp w) (List.mem_cons_of_mem _ (List.mem_filter.mpr ⟨aq_pr_mem.mpr ⟨w, e2, rfl⟩, ?_⟩))
    have h1 : (j == i) = false := by simpa using e1
    simp only [h1, aq_v_cat, Bool.not_false, Bool.true_and, Bool.not_eq_true', Bool.and_eq_false_iff, beq_eq_false_iff_ne, ne_eq]
    by_cases hc : j + 1 = i
    · exact Or.inr (fun q => e3 ⟨hc, q⟩)
    · exact Or.inl hc
theorem aq_hl.s2 {b : Nat} {sp : Nat → Nat} {ls ls' : Array Slot} {nL : Nat} {L : aq_L} {i : Nat} {v x : Value} (h : aq_hl b sp ls nL L) (hx : aq_v b sp v = x) (h' : lv_has ls' nL ((i, x) :: (aq_pr b sp L).filter (fun q => !(q.1 == i) && (!(q.1 == i + 1) && !(q.1 + 1 == i && q.2.category == 2))))) : aq_hl b sp ls' nL (aq_s2 L i v) := by
  refine ⟨h'.1, h'.2.1, by rw [aq_s2_len]; exact h.2.2.1, fun j w hj => ?_⟩
  rcases aq_s2_get L i v j w hj with ⟨e1, e2⟩ | ⟨e1, e0, e2, e3⟩
  · subst e1; subst e2
    have := h'.2.2 (j, x) List.mem_cons_self
    rw [hx]; exact this
  · refine h'.2.2 (j, aq_v b sp w) (List.mem_cons_of_mem _ (List.mem_filter.mpr ⟨aq_pr_mem.mpr ⟨w, e2, rfl⟩, ?_⟩))
    have h1 : (j == i) = false := by simpa using e1
    have h2 : (j == i + 1) = false := by simpa using e0
    simp only [h1, h2, aq_v_cat, Bool.not_false, Bool.true_and, Bool.not_eq_true', Bool.and_eq_false_iff, beq_eq_false_iff_ne, ne_eq]
    by_cases hc : j + 1 = i
    · exact Or.inr (fun q => e3 ⟨hc, q⟩)
    · exact Or.inl hc
/-- the locals with which a method begins -/
def aq_en : List Value → aq_L
  | [] => []
  | v :: vs => if v.category = 2 then some v :: none :: aq_en vs else some v :: aq_en vs
def aq_pad (n : Nat) (vs : List Value) : aq_L := aq_en vs ++ List.replicate (n - (aq_en vs).length) none
theorem aq_en_len (b : Nat) (sp : Nat → Nat) : ∀ vs : List Value, (lg_sl (vs.map (aq_v b sp))).length = (aq_en vs).length
  | [] => rfl
  | v :: vs => by
    have ih := aq_en_len b sp vs
    simp only [lg_sl, List.map_cons, List.flatMap_cons, List.length_append, aq_v_cat, aq_en] at ih ⊢
    split <;> simp [ih] <;> omega
theorem aq_en_get (b : Nat) (sp : Nat → Nat) : ∀ (vs : List Value) (i : Nat) (v : Value), (aq_en vs)[i]? = some (some v) → (lg_sl (vs.map (aq_v b sp)))[i]? = some (.val (aq_v b sp v))
  | [], i, v, h => by simp [aq_en] at h
  | w :: vs, i, v, h => by
    have ih := aq_en_get b sp vs
    have e : lg_sl ((w :: vs).map (aq_v b sp)) = (if w.category = 2 then [.val (aq_v b sp w), .second] else [.val (aq_v b sp w)]) ++ lg_sl (vs.map (aq_v b sp)) := by
      simp [lg_sl, aq_v_cat]
    rw [e]
    unfold aq_en at h
    by_cases hc : w.category = 2
    · rw [if_pos hc] at h ⊢
      match i, h with
      | 0, h => cases h; rfl
      | 1, h => cases h
      | i + 2, h => exact ih i v h
    · rw [if_neg hc] at h ⊢
      match i, h with
      | 0, h => cases h; rfl
      | i + 1, h => exact ih i v h
theorem aq_hl_entry {b : Nat} {sp : Nat → Nat} {vs : List Value} {n : Nat} (h : (aq_en vs).length ≤ n) : aq_hl b sp ((lg_sl (vs.map (aq_v b sp)) ++ List.replicate (n - (lg_sl (vs.map (aq_v b sp))).length) Slot.unset).toArray) n (aq_pad n vs) := by
  have hl := lv_entry (vs.map (aq_v b sp)) (n := n) (by rw [aq_en_len]; exact h)
  refine ⟨hl.1, hl.2.1, by unfold aq_pad; simp; omega, fun i v hi => ?_⟩
  unfold aq_pad at hi
  rcases Nat.lt_or_ge i (aq_en vs).length with hlt | hge
  · rw [List.getElem?_append_left hlt] at hi
    have h1 := aq_en_get b sp vs i v hi
    simp only [List.getElem?_toArray]
    rw [List.getElem?_append_left (by rw [aq_en_len]; exact hlt)]
    exact h1
  · rw [List.getElem?_append_right hge, List.getElem?_replicate] at hi
    split at hi <;> cases hi
/-! the environment -/
def aq_len : Instr → Nat
  | .bipush _ | .iload _ | .lload _ | .aload _ | .istore _ | .lstore _ | .astore _ | .newarray _ | .ldc _ => 2
  | .sipush _ | .iinc _ _ | .ifCond _ _ | .if_icmp _ _ | .ifnull _ | .ifnonnull _ | .goto _ | .getfield _ | .putfield _ | .new _ | .ldc2_w _ | .ldc_w _ | .invokevirtual _ | .invokestatic _ | .invokespecial _ => 3
  | .multianewarray _ _ => 4
  | _ => 1
def aq_tg (pc : Nat) : Instr → List Nat → Bool
  | .ifCond _ o, t :: _ => decide ((pc : Int) + o = (t : Int))
  | .if_icmp _ o, t :: _ => decide ((pc : Int) + o = (t : Int))
  | .ifnull o, t :: _ => decide ((pc : Int) + o = (t : Int))
  | .ifnonnull o, t :: _ => decide ((pc : Int) + o = (t : Int))
  | .goto o, t :: _ => decide ((pc : Int) + o = (t : Int))
  | .tableswitch d _ _ os, t :: ts => decide ((pc : Int) + d = (t : Int)) && decide (os.toList.map (fun o => (pc : Int) + o) = ts.map (fun t : Nat => (t : Int)))
  | .lookupswitch d ps, t :: ts => decide ((pc : Int) + d = (t : Int)) && (decide (ps.toList.map (fun o => (pc : Int) + o.2) = ts.map (fun t : Nat => (t : Int))) && (ps.toList.zip (ps.toList.drop 1)).all (fun (a, next) => a.1 < next.1))
  | _, _ => true
def aq_isw : Instr → Bool
  | .tableswitch .. | .lookupswitch .. => true
  | _ => false
def aq_ck (cc : ByteArray) (pc : Nat) (i : aq_I) : Bool := (if aq_isw i.1 = true then decide (decode cc pc = .ok (i.1, i.2.1 - pc)) else (decide (decode cc pc = .ok (i.1, aq_len i.1)) && decide (i.2.1 = pc + aq_len i.1))) && aq_tg pc i.1 i.2.2
def aq_cks (cc : ByteArray) (code : List (Option aq_I)) : Bool := code.zipIdx.all (fun q => match q.1 with
  | none => true
  | some i => aq_ck cc q.2 i)
theorem aq_cks_at {cc : ByteArray} {code : List (Option aq_I)} (h : aq_cks cc code = true) {pc : Nat} {i : aq_I} (hi : code[pc]? = some (some i)) : aq_ck cc pc i = true := by
  unfold aq_cks at h
  have := List.all_eq_true.mp h (some i, pc) (List.mem_zipIdx_iff_getElem?.mpr hi)
  exact this
theorem aq_ck1 {cc : ByteArray} {code : List (Option aq_I)} (h : aq_cks cc code = true) {pc n : Nat} {i : Instr} {ts : List Nat} (hi : code[pc]? = some (some (i, n, ts))) (hs : aq_isw i = false) : decode cc pc = .ok (i, aq_len i) ∧ n = pc + aq_len i ∧ aq_tg pc i ts = true := by
  have h1 := aq_cks_at h hi
  unfold aq_ck at h1
  simp only [hs, Bool.false_eq_true, if_false, Bool.and_eq_true, decide_eq_true_eq] at h1
  exact ⟨h1.1.1, h1.1.2, h1.2⟩
theorem aq_ck2 {cc : ByteArray} {code : List (Option aq_I)} (h : aq_cks cc code = true) {pc n : Nat} {i : Instr} {ts : List Nat} (hi : code[pc]? = some (some (i, n, ts))) (hs : aq_isw i = true) : decode cc pc = .ok (i, n - pc) ∧ aq_tg pc i ts = true := by
  have h1 := aq_cks_at h hi
  unfold aq_ck at h1
  simp only [hs, if_true, Bool.and_eq_true, decide_eq_true_eq] at h1
  exact h1

