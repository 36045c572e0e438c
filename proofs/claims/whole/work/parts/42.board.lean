/-! the desk's board -/
def iBd (h : aq_H) (w ht : Nat) (cut bes lead pas : Nat → Int32) (fr : Int32) : Prop :=
  h[1]? = some (.inr (0, [.int (nI w), .int (nI ht), .int (nI (w * ht)), .ref 2, .ref 3, .ref 4, .ref 5, .int fr])) ∧ h[2]? = some (.inl (.boolean, w * ht, .inl cut)) ∧ h[3]? = some (.inl (.int, w * ht * 4, .inl bes)) ∧ h[4]? = some (.inl (.int, w * ht * 4, .inl lead)) ∧ h[5]? = some (.inl (.int, w * ht * 4, .inl pas))
def frc (cb : Nat → Bool) : Nat → Nat
  | 0 => 0
  | n + 1 => frc cb n + if cb n = true then 0 else 1
def gBd (w ht : Nat) (wx wy : Bool) (cb : Nat → Bool) (cut bes lead pas : Nat → Int32) (fr : Int32) : Prop :=
  (0 < w ∧ w < 13 ∧ 0 < ht ∧ ht < 13) ∧ (∀ j, j < w * ht → cut j = bB (cb j)) ∧ (∀ c d, c < w * ht → d < 4 → bes (c * 4 + d) = oI (nb w ht wx wy c d)) ∧ (∀ c d, c < w * ht → d < 4 → lead (c * 4 + d) = oI (nx w ht wx wy cb c d)) ∧ (∀ c d, c < w * ht → d < 4 → pas (c * 4 + d) = oI ((nx w ht wx wy cb c d).map (pn c d))) ∧ fr = nI (frc cb (w * ht))
/-- the size of a board -/
theorem wh_lt {w ht : Nat} (h : 0 < w ∧ w < 13 ∧ 0 < ht ∧ ht < 13) : 0 < w * ht ∧ w * ht ≤ 144 := by
  obtain ⟨h1, h2, h3, h4⟩ := h
  refine ⟨Nat.mul_pos h1 h3, ?_⟩
  have := Nat.mul_le_mul (show w ≤ 12 by omega) (show ht ≤ 12 by omega)
  omega
def inC (n : Nat) (c : Int32) : Bool := decide (0 ≤ c ∧ c < nI n)
theorem inC_nI {j n : Nat} (h : j < n) (hn : n < 2 ^ 31) : inC n (nI j) = true := decide_eq_true (ix_in h hn)
theorem inC_out {c : Int32} {n : Nat} (h : inC n c = false) : c < 0 ∨ (¬ c < 0 ∧ nI n ≤ c) := by
  have h1 : ¬ (0 ≤ c ∧ c < nI n) := of_decide_eq_false h
  by_cases h2 : c < 0
  · exact Or.inl h2
  · refine Or.inr ⟨h2, ?_⟩
    rcases Decidable.em (nI n ≤ c) with h3 | h3
    · exact h3
    · exact absurd ⟨nlt0 h2, nle_lt h3⟩ h1
theorem inC_cs (n : Nat) (c : Int32) (hn : n < 2 ^ 31) : inC n c = false ∨ ∃ j : Nat, j < n ∧ c = nI j := by
  rcases ix_c c hn with h | h
  · exact Or.inl (decide_eq_false h)
  · exact Or.inr h
/-- the cell ahead, for any ints -/
def NX (w ht : Nat) (wx wy : Bool) (cb : Nat → Bool) (c d : Int32) : Int32 := if (inC (w * ht) c && inC 4 d) = true then oI (nx w ht wx wy cb c.toNatClampNeg d.toNatClampNeg) else -1
/-- the passage there, for any ints -/
def PNX (w ht : Nat) (wx wy : Bool) (cb : Nat → Bool) (c d : Int32) : Int32 := if (inC (w * ht) c && inC 4 d) = true then oI ((nx w ht wx wy cb c.toNatClampNeg d.toNatClampNeg).map (pn c.toNatClampNeg d.toNatClampNeg)) else -1
theorem NX_out {w ht : Nat} {wx wy : Bool} {cb : Nat → Bool} {c d : Int32} (h : inC (w * ht) c = false ∨ inC 4 d = false) : NX w ht wx wy cb c d = -1 := by
  unfold NX
  rcases h with h | h <;> simp [h]
theorem PNX_out {w ht : Nat} {wx wy : Bool} {cb : Nat → Bool} {c d : Int32} (h : inC (w * ht) c = false ∨ inC 4 d = false) : PNX w ht wx wy cb c d = -1 := by
  unfold PNX
  rcases h with h | h <;> simp [h]
theorem NX_in {w ht : Nat} {wx wy : Bool} {cb : Nat → Bool} {c d : Nat} (hc : c < w * ht) (hn : w * ht < 2 ^ 31) (hd : d < 4) : NX w ht wx wy cb (nI c) (nI d) = oI (nx w ht wx wy cb c d) := by
  unfold NX
  rw [inC_nI hc hn, inC_nI hd (by omega), nI_clamp (by omega), nI_clamp (by omega)]
  rfl
theorem PNX_in {w ht : Nat} {wx wy : Bool} {cb : Nat → Bool} {c d : Nat} (hc : c < w * ht) (hn : w * ht < 2 ^ 31) (hd : d < 4) : PNX w ht wx wy cb (nI c) (nI d) = oI ((nx w ht wx wy cb c d).map (pn c d)) := by
  unfold PNX
  rw [inC_nI hc hn, inC_nI hd (by omega), nI_clamp (by omega), nI_clamp (by omega)]
  rfl
section BD
variable {h : aq_H} {w ht : Nat} {cut bes lead pas : Nat → Int32} {fr : Int32} {wx wy : Bool} {cb : Nat → Bool}
theorem t_cells (B : iBd h w ht cut bes lead pas fr) : aq_T e_X0_cells 1 0 0 [.ref 1] h (rd (nI (w * ht)) h) := by
  obtain ⟨b1, b2, b3, b4, b5⟩ := B
  refine ⟨Nat.le_of_ble_eq_true rfl, ?_⟩
  show aq_W _ _ 0 [some (.ref 1)] [] _ _ _
  simp only [s_X0_cells_0, s_X0_cells_1, s_X0_cells_4, aq_gI, aq_gL, aq_gA, aq_isA, aq_s1, aq_s2, aq_kill, aq_ob, aq_sm, aq_arI, aq_arB, aq_isB, aq_arL, aq_arA, aq_arN, aq_sh, Value.category, List.getElem?_cons_zero, List.getElem?_cons_succ, List.length_cons, List.length_nil, Option.toList_some, Option.toList_none, List.cons_append, List.nil_append, true_and, and_true, List.set_cons_zero, List.set_cons_succ, aq_n1, aq_n2, aq_n3, aq_n4, aq_f1, aq_f2, aq_f3, aq_f4, aq_gs, aq_ty1, aq_ty2, aq_ty3, aq_ty4, aq_ty5, Nat.reduceAdd, Nat.reduceLT, Nat.reduceEqDiff, Nat.reduceSub, if_true, if_false, ne_eq, not_false_eq_true, not_true_eq_false, Option.map_some, Option.map_none, Nat.zero_add, reduceCtorEq, Nat.reduceLeDiff, one_ne_zero_a, zero_ne_one_a, b1, rd]
theorem t_width (B : iBd h w ht cut bes lead pas fr) : aq_T e_X0_width 1 0 0 [.ref 1] h (rd (nI w) h) := by
  obtain ⟨b1, b2, b3, b4, b5⟩ := B
  refine ⟨Nat.le_of_ble_eq_true rfl, ?_⟩
  show aq_W _ _ 0 [some (.ref 1)] [] _ _ _
  simp only [s_X0_width_0, s_X0_width_1, s_X0_width_4, aq_gI, aq_gL, aq_gA, aq_isA, aq_s1, aq_s2, aq_kill, aq_ob, aq_sm, aq_arI, aq_arB, aq_isB, aq_arL, aq_arA, aq_arN, aq_sh, Value.category, List.getElem?_cons_zero, List.getElem?_cons_succ, List.length_cons, List.length_nil, Option.toList_some, Option.toList_none, List.cons_append, List.nil_append, true_and, and_true, List.set_cons_zero, List.set_cons_succ, aq_n1, aq_n2, aq_n3, aq_n4, aq_f1, aq_f2, aq_f3, aq_f4, aq_gs, aq_ty1, aq_ty2, aq_ty3, aq_ty4, aq_ty5, Nat.reduceAdd, Nat.reduceLT, Nat.reduceEqDiff, Nat.reduceSub, if_true, if_false, ne_eq, not_false_eq_true, not_true_eq_false, Option.map_some, Option.map_none, Nat.zero_add, reduceCtorEq, Nat.reduceLeDiff, one_ne_zero_a, zero_ne_one_a, b1, rd]
theorem t_height (B : iBd h w ht cut bes lead pas fr) : aq_T e_X0_height 1 0 0 [.ref 1] h (rd (nI ht) h) := by
  obtain ⟨b1, b2, b3, b4, b5⟩ := B
  refine ⟨Nat.le_of_ble_eq_true rfl, ?_⟩
  show aq_W _ _ 0 [some (.ref 1)] [] _ _ _
  simp only [s_X0_height_0, s_X0_height_1, s_X0_height_4, aq_gI, aq_gL, aq_gA, aq_isA, aq_s1, aq_s2, aq_kill, aq_ob, aq_sm, aq_arI, aq_arB, aq_isB, aq_arL, aq_arA, aq_arN, aq_sh, Value.category, List.getElem?_cons_zero, List.getElem?_cons_succ, List.length_cons, List.length_nil, Option.toList_some, Option.toList_none, List.cons_append, List.nil_append, true_and, and_true, List.set_cons_zero, List.set_cons_succ, aq_n1, aq_n2, aq_n3, aq_n4, aq_f1, aq_f2, aq_f3, aq_f4, aq_gs, aq_ty1, aq_ty2, aq_ty3, aq_ty4, aq_ty5, Nat.reduceAdd, Nat.reduceLT, Nat.reduceEqDiff, Nat.reduceSub, if_true, if_false, ne_eq, not_false_eq_true, not_true_eq_false, Option.map_some, Option.map_none, Nat.zero_add, reduceCtorEq, Nat.reduceLeDiff, one_ne_zero_a, zero_ne_one_a, b1, rd]
theorem t_freeCells (B : iBd h w ht cut bes lead pas fr) : aq_T e_X0_freeCells 1 0 0 [.ref 1] h (rd fr h) := by
  obtain ⟨b1, b2, b3, b4, b5⟩ := B
  refine ⟨Nat.le_of_ble_eq_true rfl, ?_⟩
  show aq_W _ _ 0 [some (.ref 1)] [] _ _ _
  simp only [s_X0_freeCells_0, s_X0_freeCells_1, s_X0_freeCells_4, aq_gI, aq_gL, aq_gA, aq_isA, aq_s1, aq_s2, aq_kill, aq_ob, aq_sm, aq_arI, aq_arB, aq_isB, aq_arL, aq_arA, aq_arN, aq_sh, Value.category, List.getElem?_cons_zero, List.getElem?_cons_succ, List.length_cons, List.length_nil, Option.toList_some, Option.toList_none, List.cons_append, List.nil_append, true_and, and_true, List.set_cons_zero, List.set_cons_succ, aq_n1, aq_n2, aq_n3, aq_n4, aq_f1, aq_f2, aq_f3, aq_f4, aq_gs, aq_ty1, aq_ty2, aq_ty3, aq_ty4, aq_ty5, Nat.reduceAdd, Nat.reduceLT, Nat.reduceEqDiff, Nat.reduceSub, if_true, if_false, ne_eq, not_false_eq_true, not_true_eq_false, Option.map_some, Option.map_none, Nat.zero_add, reduceCtorEq, Nat.reduceLeDiff, one_ne_zero_a, zero_ne_one_a, b1, rd]
theorem t_passages (B : iBd h w ht cut bes lead pas fr) : aq_T e_X0_passages 1 0 0 [.ref 1] h (rd (nI (w * ht * 2)) h) := by
  obtain ⟨b1, b2, b3, b4, b5⟩ := B
  refine ⟨Nat.le_of_ble_eq_true rfl, ?_⟩
  show aq_W _ _ 0 [some (.ref 1)] [] _ _ _
  simp only [s_X0_passages_0, s_X0_passages_1, s_X0_passages_4, s_X0_passages_5, s_X0_passages_6, aq_gI, aq_gL, aq_gA, aq_isA, aq_s1, aq_s2, aq_kill, aq_ob, aq_sm, aq_arI, aq_arB, aq_isB, aq_arL, aq_arA, aq_arN, aq_sh, Value.category, List.getElem?_cons_zero, List.getElem?_cons_succ, List.length_cons, List.length_nil, Option.toList_some, Option.toList_none, List.cons_append, List.nil_append, true_and, and_true, List.set_cons_zero, List.set_cons_succ, aq_n1, aq_n2, aq_n3, aq_n4, aq_f1, aq_f2, aq_f3, aq_f4, aq_gs, aq_ty1, aq_ty2, aq_ty3, aq_ty4, aq_ty5, Nat.reduceAdd, Nat.reduceLT, Nat.reduceEqDiff, Nat.reduceSub, if_true, if_false, ne_eq, not_false_eq_true, not_true_eq_false, Option.map_some, Option.map_none, Nat.zero_add, reduceCtorEq, Nat.reduceLeDiff, one_ne_zero_a, zero_ne_one_a, b1, rd, nI_c2]
theorem t_has (B : iBd h w ht cut bes lead pas fr) (G : gBd w ht wx wy cb cut bes lead pas fr) (c : Int32) : aq_T e_X0_has 2 0 0 [.ref 1, .int c] h (rd (bB (inC (w * ht) c)) h) := by
  obtain ⟨b1, b2, b3, b4, b5⟩ := B
  have hn := wh_lt G.1
  refine ⟨Nat.le_of_ble_eq_true rfl, ?_⟩
  show aq_W _ _ 0 [some (.ref 1), some (.int c)] [] _ _ _
  simp only [s_X0_has_0, s_X0_has_1, s_X0_has_4, s_X0_has_5, s_X0_has_6, s_X0_has_9, s_X0_has_12, s_X0_has_13, s_X0_has_16, s_X0_has_17, aq_gI, aq_gL, aq_gA, aq_isA, aq_s1, aq_s2, aq_kill, aq_ob, aq_sm, aq_arI, aq_arB, aq_isB, aq_arL, aq_arA, aq_arN, aq_sh, Value.category, List.getElem?_cons_zero, List.getElem?_cons_succ, List.length_cons, List.length_nil, Option.toList_some, Option.toList_none, List.cons_append, List.nil_append, true_and, and_true, List.set_cons_zero, List.set_cons_succ, aq_n1, aq_n2, aq_n3, aq_n4, aq_f1, aq_f2, aq_f3, aq_f4, aq_gs, aq_ty1, aq_ty2, aq_ty3, aq_ty4, aq_ty5, Nat.reduceAdd, Nat.reduceLT, Nat.reduceEqDiff, Nat.reduceSub, if_true, if_false, ne_eq, not_false_eq_true, not_true_eq_false, Option.map_some, Option.map_none, Nat.zero_add, reduceCtorEq, Nat.reduceLeDiff, one_ne_zero_a, zero_ne_one_a, b1, rd]
  rcases inC_cs (w * ht) c (by omega) with hc | ⟨j, hj, rfl⟩
  · rw [hc]
    rcases inC_out hc with h1 | ⟨h1, h2⟩
    · simp only [h1, if_true]; (first | trivial | exact ⟨rfl, rfl⟩ | exact ⟨rfl, trivial⟩ | exact ⟨rfl, rfl, trivial⟩ | rfl)
    · simp only [h1, h2, if_true, if_false]; (first | trivial | exact ⟨rfl, rfl⟩ | exact ⟨rfl, trivial⟩ | exact ⟨rfl, rfl, trivial⟩ | rfl)
  · rw [inC_nI hj (by omega)]
    simp only [nI_pos (show j < 2 ^ 31 by omega), nI_ge hj (by omega), if_false]
    (first | trivial | exact ⟨rfl, rfl⟩ | exact ⟨rfl, trivial⟩ | exact ⟨rfl, rfl, trivial⟩ | rfl)
theorem t_isCut (B : iBd h w ht cut bes lead pas fr) (G : gBd w ht wx wy cb cut bes lead pas fr) (c : Int32) : aq_T e_X0_isCut 2 0 0 [.ref 1, .int c] h (rd (bB (inC (w * ht) c && cb c.toNatClampNeg)) h) := by
  have hn := wh_lt G.1
  have tt := t_has B G c
  obtain ⟨b1, b2, b3, b4, b5⟩ := B
  refine ⟨Nat.le_of_ble_eq_true rfl, ?_⟩
  show aq_W _ _ 0 [some (.ref 1), some (.int c)] [] _ _ _
  simp only [s_X0_isCut_0, s_X0_isCut_1, s_X0_isCut_2, s_X0_isCut_5, s_X0_isCut_8, s_X0_isCut_9, s_X0_isCut_12, s_X0_isCut_13, s_X0_isCut_14, s_X0_isCut_17, s_X0_isCut_18, s_X0_isCut_21, s_X0_isCut_22, aq_gI, aq_gL, aq_gA, aq_isA, aq_s1, aq_s2, aq_kill, aq_ob, aq_sm, aq_arI, aq_arB, aq_isB, aq_arL, aq_arA, aq_arN, aq_sh, Value.category, List.getElem?_cons_zero, List.getElem?_cons_succ, List.length_cons, List.length_nil, Option.toList_some, Option.toList_none, List.cons_append, List.nil_append, true_and, and_true, List.set_cons_zero, List.set_cons_succ, aq_n1, aq_n2, aq_n3, aq_n4, aq_f1, aq_f2, aq_f3, aq_f4, aq_gs, aq_ty1, aq_ty2, aq_ty3, aq_ty4, aq_ty5, Nat.reduceAdd, Nat.reduceLT, Nat.reduceEqDiff, Nat.reduceSub, if_true, if_false, ne_eq, not_false_eq_true, not_true_eq_false, Option.map_some, Option.map_none, Nat.zero_add, reduceCtorEq, Nat.reduceLeDiff, one_ne_zero_a, zero_ne_one_a, b1]
  refine tt.use ?_
  rintro _ _ ⟨rfl, rfl⟩
  simp only [s_X0_isCut_0, s_X0_isCut_1, s_X0_isCut_2, s_X0_isCut_5, s_X0_isCut_8, s_X0_isCut_9, s_X0_isCut_12, s_X0_isCut_13, s_X0_isCut_14, s_X0_isCut_17, s_X0_isCut_18, s_X0_isCut_21, s_X0_isCut_22, aq_gI, aq_gL, aq_gA, aq_isA, aq_s1, aq_s2, aq_kill, aq_ob, aq_sm, aq_arI, aq_arB, aq_isB, aq_arL, aq_arA, aq_arN, aq_sh, Value.category, List.getElem?_cons_zero, List.getElem?_cons_succ, List.length_cons, List.length_nil, Option.toList_some, Option.toList_none, List.cons_append, List.nil_append, true_and, and_true, List.set_cons_zero, List.set_cons_succ, aq_n1, aq_n2, aq_n3, aq_n4, aq_f1, aq_f2, aq_f3, aq_f4, aq_gs, aq_ty1, aq_ty2, aq_ty3, aq_ty4, aq_ty5, Nat.reduceAdd, Nat.reduceLT, Nat.reduceEqDiff, Nat.reduceSub, if_true, if_false, ne_eq, not_false_eq_true, not_true_eq_false, Option.map_some, Option.map_none, Nat.zero_add, reduceCtorEq, Nat.reduceLeDiff, one_ne_zero_a, zero_ne_one_a, b1, b2, rd]
  rcases inC_cs (w * ht) c (by omega) with hc | ⟨j, hj, rfl⟩
  · simp only [hc, Bool.false_and, bB_f, if_true]; (first | trivial | exact ⟨rfl, rfl⟩ | exact ⟨rfl, trivial⟩ | exact ⟨rfl, rfl, trivial⟩ | rfl)
  · simp only [inC_nI hj (show w * ht < 2 ^ 31 by omega), bB_t, one_ne_zero_a, if_false, nI_clamp (show j < 2 ^ 31 by omega), G.2.1 j hj, Bool.true_and]
    refine ⟨vp_in_nI hj (by omega), ?_⟩
    by_cases hb : cb j = true
    · simp only [hb, bB_t, one_ne_zero_a, if_false]; (first | trivial | exact ⟨rfl, rfl⟩ | exact ⟨rfl, trivial⟩ | exact ⟨rfl, rfl, trivial⟩ | rfl)
    · simp only [Bool.not_eq_true] at hb
      simp only [hb, bB_f, if_true]; (first | trivial | exact ⟨rfl, rfl⟩ | exact ⟨rfl, trivial⟩ | exact ⟨rfl, rfl, trivial⟩ | rfl)
theorem t_isFree (B : iBd h w ht cut bes lead pas fr) (G : gBd w ht wx wy cb cut bes lead pas fr) (c : Int32) : aq_T e_X0_isFree 2 0 0 [.ref 1, .int c] h (rd (bB (inC (w * ht) c && !cb c.toNatClampNeg)) h) := by
  have hn := wh_lt G.1
  have tt := t_has B G c
  obtain ⟨b1, b2, b3, b4, b5⟩ := B
  refine ⟨Nat.le_of_ble_eq_true rfl, ?_⟩
  show aq_W _ _ 0 [some (.ref 1), some (.int c)] [] _ _ _
  simp only [s_X0_isFree_0, s_X0_isFree_1, s_X0_isFree_2, s_X0_isFree_5, s_X0_isFree_8, s_X0_isFree_9, s_X0_isFree_12, s_X0_isFree_13, s_X0_isFree_14, s_X0_isFree_17, s_X0_isFree_18, s_X0_isFree_21, s_X0_isFree_22, aq_gI, aq_gL, aq_gA, aq_isA, aq_s1, aq_s2, aq_kill, aq_ob, aq_sm, aq_arI, aq_arB, aq_isB, aq_arL, aq_arA, aq_arN, aq_sh, Value.category, List.getElem?_cons_zero, List.getElem?_cons_succ, List.length_cons, List.length_nil, Option.toList_some, Option.toList_none, List.cons_append, List.nil_append, true_and, and_true, List.set_cons_zero, List.set_cons_succ, aq_n1, aq_n2, aq_n3, aq_n4, aq_f1, aq_f2, aq_f3, aq_f4, aq_gs, aq_ty1, aq_ty2, aq_ty3, aq_ty4, aq_ty5, Nat.reduceAdd, Nat.reduceLT, Nat.reduceEqDiff, Nat.reduceSub, if_true, if_false, ne_eq, not_false_eq_true, not_true_eq_false, Option.map_some, Option.map_none, Nat.zero_add, reduceCtorEq, Nat.reduceLeDiff, one_ne_zero_a, zero_ne_one_a, b1]
  refine tt.use ?_
  rintro _ _ ⟨rfl, rfl⟩
  simp only [s_X0_isFree_0, s_X0_isFree_1, s_X0_isFree_2, s_X0_isFree_5, s_X0_isFree_8, s_X0_isFree_9, s_X0_isFree_12, s_X0_isFree_13, s_X0_isFree_14, s_X0_isFree_17, s_X0_isFree_18, s_X0_isFree_21, s_X0_isFree_22, aq_gI, aq_gL, aq_gA, aq_isA, aq_s1, aq_s2, aq_kill, aq_ob, aq_sm, aq_arI, aq_arB, aq_isB, aq_arL, aq_arA, aq_arN, aq_sh, Value.category, List.getElem?_cons_zero, List.getElem?_cons_succ, List.length_cons, List.length_nil, Option.toList_some, Option.toList_none, List.cons_append, List.nil_append, true_and, and_true, List.set_cons_zero, List.set_cons_succ, aq_n1, aq_n2, aq_n3, aq_n4, aq_f1, aq_f2, aq_f3, aq_f4, aq_gs, aq_ty1, aq_ty2, aq_ty3, aq_ty4, aq_ty5, Nat.reduceAdd, Nat.reduceLT, Nat.reduceEqDiff, Nat.reduceSub, if_true, if_false, ne_eq, not_false_eq_true, not_true_eq_false, Option.map_some, Option.map_none, Nat.zero_add, reduceCtorEq, Nat.reduceLeDiff, one_ne_zero_a, zero_ne_one_a, b1, b2, rd]
  rcases inC_cs (w * ht) c (by omega) with hc | ⟨j, hj, rfl⟩
  · simp only [hc, Bool.false_and, bB_f, if_true]; (first | trivial | exact ⟨rfl, rfl⟩ | exact ⟨rfl, trivial⟩ | exact ⟨rfl, rfl, trivial⟩ | rfl)
  · simp only [inC_nI hj (show w * ht < 2 ^ 31 by omega), bB_t, one_ne_zero_a, if_false, nI_clamp (show j < 2 ^ 31 by omega), G.2.1 j hj, Bool.true_and]
    refine ⟨vp_in_nI hj (by omega), ?_⟩
    by_cases hb : cb j = true
    · simp only [hb, bB_t, one_ne_zero_a, if_false]; (first | trivial | exact ⟨rfl, rfl⟩ | exact ⟨rfl, trivial⟩ | exact ⟨rfl, rfl, trivial⟩ | rfl)
    · simp only [Bool.not_eq_true] at hb
      simp only [hb, bB_f, if_true]; (first | trivial | exact ⟨rfl, rfl⟩ | exact ⟨rfl, trivial⟩ | exact ⟨rfl, rfl, trivial⟩ | rfl)
theorem t_ahead (B : iBd h w ht cut bes lead pas fr) (G : gBd w ht wx wy cb cut bes lead pas fr) (c d : Int32) : aq_T e_X0_ahead 3 0 0 [.ref 1, .int c, .int d] h (rd (NX w ht wx wy cb c d) h) := by
  have hn := wh_lt G.1
  obtain ⟨b1, b2, b3, b4, b5⟩ := B
  refine ⟨Nat.le_of_ble_eq_true rfl, ?_⟩
  show aq_W _ _ 0 [some (.ref 1), some (.int c), some (.int d)] [] _ _ _
  simp only [s_X0_ahead_0, s_X0_ahead_1, s_X0_ahead_4, s_X0_ahead_5, s_X0_ahead_6, s_X0_ahead_9, s_X0_ahead_12, s_X0_ahead_13, s_X0_ahead_16, s_X0_ahead_17, s_X0_ahead_18, s_X0_ahead_21, s_X0_ahead_22, s_X0_ahead_23, s_X0_ahead_24, s_X0_ahead_27, s_X0_ahead_28, s_X0_ahead_29, s_X0_ahead_30, s_X0_ahead_31, s_X0_ahead_32, s_X0_ahead_33, aq_gI, aq_gL, aq_gA, aq_isA, aq_s1, aq_s2, aq_kill, aq_ob, aq_sm, aq_arI, aq_arB, aq_isB, aq_arL, aq_arA, aq_arN, aq_sh, Value.category, List.getElem?_cons_zero, List.getElem?_cons_succ, List.length_cons, List.length_nil, Option.toList_some, Option.toList_none, List.cons_append, List.nil_append, true_and, and_true, List.set_cons_zero, List.set_cons_succ, aq_n1, aq_n2, aq_n3, aq_n4, aq_f1, aq_f2, aq_f3, aq_f4, aq_gs, aq_ty1, aq_ty2, aq_ty3, aq_ty4, aq_ty5, Nat.reduceAdd, Nat.reduceLT, Nat.reduceEqDiff, Nat.reduceSub, if_true, if_false, ne_eq, not_false_eq_true, not_true_eq_false, Option.map_some, Option.map_none, Nat.zero_add, reduceCtorEq, Nat.reduceLeDiff, one_ne_zero_a, zero_ne_one_a, b1, b4, rd]
  rcases inC_cs (w * ht) c (by omega) with hc | ⟨j, hj, rfl⟩
  · rw [NX_out (Or.inl hc)]
    rcases inC_out hc with h1 | ⟨h1, h2⟩
    · simp only [h1, if_true]
    · simp only [h1, h2, if_true, if_false]
  · simp only [nI_pos (show j < 2 ^ 31 by omega), nI_ge hj (show w * ht < 2 ^ 31 by omega), if_false]
    rcases inC_cs 4 d (by omega) with hd | ⟨k, hk, rfl⟩
    · rw [NX_out (Or.inr hd)]
      rcases inC_out hd with h1 | ⟨h1, h2⟩
      · simp only [h1, if_true]
      · rw [← nI_4] at h2
        simp only [h1, Int32.not_lt.mpr h2, if_true, if_false]
    · have h4 : nI k < 4 := by rw [nI_4]; exact nI_lt hk (by omega)
      simp only [nI_pos (show k < 2 ^ 31 by omega), h4, if_true, if_false, nI_c4, NX_in hj (show w * ht < 2 ^ 31 by omega) hk, nI_clamp (show j * 4 + k < 2 ^ 31 by omega), G.2.2.2.1 j k hj hk, and_true]
      exact vp_in_nI (by omega) (by omega)
theorem t_passageAt (B : iBd h w ht cut bes lead pas fr) (G : gBd w ht wx wy cb cut bes lead pas fr) (c d : Int32) : aq_T e_X0_passageAt 3 0 0 [.ref 1, .int c, .int d] h (rd (PNX w ht wx wy cb c d) h) := by
  have hn := wh_lt G.1
  obtain ⟨b1, b2, b3, b4, b5⟩ := B
  refine ⟨Nat.le_of_ble_eq_true rfl, ?_⟩
  show aq_W _ _ 0 [some (.ref 1), some (.int c), some (.int d)] [] _ _ _
  simp only [s_X0_passageAt_0, s_X0_passageAt_1, s_X0_passageAt_4, s_X0_passageAt_5, s_X0_passageAt_6, s_X0_passageAt_9, s_X0_passageAt_12, s_X0_passageAt_13, s_X0_passageAt_16, s_X0_passageAt_17, s_X0_passageAt_18, s_X0_passageAt_21, s_X0_passageAt_22, s_X0_passageAt_23, s_X0_passageAt_24, s_X0_passageAt_27, s_X0_passageAt_28, s_X0_passageAt_29, s_X0_passageAt_30, s_X0_passageAt_31, s_X0_passageAt_32, s_X0_passageAt_33, aq_gI, aq_gL, aq_gA, aq_isA, aq_s1, aq_s2, aq_kill, aq_ob, aq_sm, aq_arI, aq_arB, aq_isB, aq_arL, aq_arA, aq_arN, aq_sh, Value.category, List.getElem?_cons_zero, List.getElem?_cons_succ, List.length_cons, List.length_nil, Option.toList_some, Option.toList_none, List.cons_append, List.nil_append, true_and, and_true, List.set_cons_zero, List.set_cons_succ, aq_n1, aq_n2, aq_n3, aq_n4, aq_f1, aq_f2, aq_f3, aq_f4, aq_gs, aq_ty1, aq_ty2, aq_ty3, aq_ty4, aq_ty5, Nat.reduceAdd, Nat.reduceLT, Nat.reduceEqDiff, Nat.reduceSub, if_true, if_false, ne_eq, not_false_eq_true, not_true_eq_false, Option.map_some, Option.map_none, Nat.zero_add, reduceCtorEq, Nat.reduceLeDiff, one_ne_zero_a, zero_ne_one_a, b1, b5, rd]
  rcases inC_cs (w * ht) c (by omega) with hc | ⟨j, hj, rfl⟩
  · rw [PNX_out (Or.inl hc)]
    rcases inC_out hc with h1 | ⟨h1, h2⟩
    · simp only [h1, if_true]
    · simp only [h1, h2, if_true, if_false]
  · simp only [nI_pos (show j < 2 ^ 31 by omega), nI_ge hj (show w * ht < 2 ^ 31 by omega), if_false]
    rcases inC_cs 4 d (by omega) with hd | ⟨k, hk, rfl⟩
    · rw [PNX_out (Or.inr hd)]
      rcases inC_out hd with h1 | ⟨h1, h2⟩
      · simp only [h1, if_true]
      · rw [← nI_4] at h2
        simp only [h1, Int32.not_lt.mpr h2, if_true, if_false]
    · have h4 : nI k < 4 := by rw [nI_4]; exact nI_lt hk (by omega)
      simp only [nI_pos (show k < 2 ^ 31 by omega), h4, if_true, if_false, nI_c4, PNX_in hj (show w * ht < 2 ^ 31 by omega) hk, nI_clamp (show j * 4 + k < 2 ^ 31 by omega), G.2.2.2.2.1 j k hj hk, and_true]
      exact vp_in_nI (by omega) (by omega)
end BD
