/-! rows for the runs of the abstract machine -/
theorem aq_n1 (x : Int32) : (narrow .int (.int x) = .int x) = True := eq_true rfl
theorem aq_n2 (x : Int64) : (narrow .long (.long x) = .long x) = True := eq_true rfl
theorem aq_n3 (t : FieldType) (k : Nat) : (narrow (.array t) (.ref k) = .ref k) = True := eq_true rfl
theorem aq_n4 (t : String) (k : Nat) : (narrow (.object t) (.ref k) = .ref k) = True := eq_true rfl
theorem aq_f1 (x : Int32) : (fits .int (.int x) = true) = True := eq_true rfl
theorem aq_f2 (x : Int64) : (fits .long (.long x) = true) = True := eq_true rfl
theorem aq_f3 (t : FieldType) (k : Nat) : (fits (.array t) (.ref k) = true) = True := eq_true rfl
theorem aq_f4 (t : String) (k : Nat) : (fits (.object t) (.ref k) = true) = True := eq_true rfl
theorem aq_gs (h : aq_H) (i j : Nat) (e : aq_E) : (h.set i e)[j]? = if i = j then h[i]?.map (fun _ => e) else h[j]? := by
  rw [List.getElem?_set]
  by_cases c : i = j
  · rw [if_pos c, if_pos c]
    by_cases d : i < h.length
    · rw [if_pos d, List.getElem?_eq_getElem d]
      rfl
    · rw [if_neg d, List.getElem?_eq_none (by omega)]
      rfl
  · rw [if_neg c, if_neg c]
theorem aq_ty1 : (FieldType.int ∈ [FieldType.int, .boolean, .long, .byte, .array .long]) = True := eq_true (by decide)
theorem aq_ty2 : (FieldType.boolean ∈ [FieldType.int, .boolean, .long, .byte, .array .long]) = True := eq_true (by decide)
theorem aq_ty3 : (FieldType.long ∈ [FieldType.int, .boolean, .long, .byte, .array .long]) = True := eq_true (by decide)
theorem aq_ty4 : (FieldType.byte ∈ [FieldType.int, .boolean, .long, .byte, .array .long]) = True := eq_true (by decide)
theorem aq_ty5 : (FieldType.array .long ∈ [FieldType.int, .boolean, .long, .byte, .array .long]) = True := eq_true (by decide)
theorem one_ne_zero_a : ((1 : Int32) = 0) = False := eq_false (by decide)
theorem zero_ne_one_a : ((0 : Int32) = 1) = False := eq_false (by decide)
/-- a truth value, as an int -/
def bI (p : Prop) [Decidable p] : Int32 := if p then 1 else 0
theorem bI_t {p : Prop} [Decidable p] (h : p) : bI p = 1 := if_pos h
theorem bI_f {p : Prop} [Decidable p] (h : ¬ p) : bI p = 0 := if_neg h
theorem bI_n (p : Prop) [Decidable p] : narrow .boolean (.int (bI p)) = .int (bI p) := by
  unfold bI
  split <;> rfl
theorem bI_n1 : narrow .boolean (.int 1) = .int 1 := rfl
theorem bI_n0 : narrow .boolean (.int 0) = .int 0 := rfl
theorem t_has {h : aq_H} {w ht n f : Int32} (hb : h[1]? = some (.inr (0, [.int w, .int ht, .int n, .ref 2, .ref 3, .ref 4, .ref 5, .int f]))) (c : Int32) : aq_R e_X0_has 2 0 0 [.ref 1, .int c] h (some (.int (bI (0 ≤ c ∧ c < n)))) h := by
  refine ⟨Nat.le_of_ble_eq_true rfl, ?_⟩
  show aq_W _ _ 0 [some (.ref 1), some (.int c)] [] _ _ _
  simp only [s_X0_has_0, s_X0_has_1, s_X0_has_4, s_X0_has_5, s_X0_has_6, s_X0_has_9, s_X0_has_12, s_X0_has_13, s_X0_has_16, s_X0_has_17, aq_gI, aq_gL, aq_gA, aq_isA, aq_s1, aq_s2, aq_kill, aq_ob, aq_sm, aq_arI, aq_arB, aq_isB, aq_arL, aq_arA, aq_arN, aq_sh, Value.category, List.getElem?_cons_zero, List.getElem?_cons_succ, List.length_cons, List.length_nil, Option.toList_some, Option.toList_none, List.cons_append, List.nil_append, true_and, and_true, List.set_cons_zero, List.set_cons_succ, aq_n1, aq_n2, aq_n3, aq_n4, aq_f1, aq_f2, aq_f3, aq_f4, aq_gs, aq_ty1, aq_ty2, aq_ty3, aq_ty4, aq_ty5, Nat.reduceAdd, Nat.reduceLT, Nat.reduceEqDiff, Nat.reduceSub, if_true, if_false, ne_eq, not_false_eq_true, not_true_eq_false, Option.map_some, Option.map_none, Nat.zero_add, reduceCtorEq, Nat.reduceLeDiff, one_ne_zero_a, zero_ne_one_a, hb]
  by_cases h1 : c < 0
  · simp only [h1, if_true]
    trace_state
    sorry
  · simp only [h1, if_false]
    trace_state
    sorry
