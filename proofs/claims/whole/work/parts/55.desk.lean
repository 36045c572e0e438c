/-! the desk's other objects, and its small public methods -/
def iDk (h : aq_H) (hm : Int32) : Prop := h[0]? = some (.inr (9, [.ref 1, .ref 6, .ref 13, .ref 32, .ref 37, .ref 40, .ref 41, .ref 45, .ref 46, .int hm]))
def iSt (h : aq_H) (n : Nat) (ways wc xs tops pops marks : Nat → Int32) (ci : Int32) : Prop :=
  h[6]? = some (.inr (6, [.ref 1, .ref 7, .ref 8, .ref 9, .ref 10, .ref 11, .ref 12, .int ci])) ∧ h[7]? = some (.inl (.int, n * 4, .inl ways)) ∧ h[8]? = some (.inl (.int, n, .inl wc)) ∧ h[9]? = some (.inl (.int, n, .inl xs)) ∧ h[10]? = some (.inl (.int, n, .inl tops)) ∧ h[11]? = some (.inl (.int, n, .inl pops)) ∧ h[12]? = some (.inl (.int, n, .inl marks))
def iWk (h : aq_H) (at_ ks sg : Int32) : Prop := h[45]? = some (.inr (8, [.ref 32, .int at_, .int ks, .int sg]))
section DK
variable {h : aq_H} {w ht : Nat} {cut bes lead pas : Nat → Int32} {fr : Int32} {wx wy : Bool} {cb : Nat → Bool} {op dk od kc : Nat → Int32} {st ex ch : Int32} {ob : Nat → Bool} {dr on ky : Nat → Option Nat} {ways wc xs tops pops marks : Nat → Int32} {ci hm at_ ks sg : Int32}
theorem t_topOf {n : Nat} (S : iSt h n ways wc xs tops pops marks ci) {c : Nat} (hc : c < n) (hn : n < 2 ^ 31) : aq_T e_X6_topOf 2 0 0 [.ref 6, .int (nI c)] h (rd (tops c) h) := by
  obtain ⟨s1, s2, s3, s4, s5, s6, s7⟩ := S
  refine ⟨Nat.le_of_ble_eq_true rfl, ?_⟩
  show aq_W _ _ 0 [some (.ref 6), some (.int (nI c))] [] _ _ _
  simp only [s_X6_topOf_0, s_X6_topOf_1, s_X6_topOf_4, s_X6_topOf_5, s_X6_topOf_6, aq_gI, aq_gL, aq_gA, aq_isA, aq_s1, aq_s2, aq_kill, aq_ob, aq_sm, aq_arI, aq_arB, aq_isB, aq_arL, aq_arA, aq_arN, aq_sh, Value.category, List.getElem?_cons_zero, List.getElem?_cons_succ, List.length_cons, List.length_nil, Option.toList_some, Option.toList_none, List.cons_append, List.nil_append, true_and, and_true, List.set_cons_zero, List.set_cons_succ, aq_n1, aq_n2, aq_n3, aq_n4, aq_f1, aq_f2, aq_f3, aq_f4, aq_gs, aq_ty1, aq_ty2, aq_ty3, aq_ty4, aq_ty5, Nat.reduceAdd, Nat.reduceLT, Nat.reduceEqDiff, Nat.reduceSub, if_true, if_false, ne_eq, not_false_eq_true, not_true_eq_false, Option.map_some, Option.map_none, Nat.zero_add, reduceCtorEq, Nat.reduceLeDiff, one_ne_zero_a, zero_ne_one_a, s1, s5, rd, nI_clamp (show c < 2 ^ 31 by omega)]
  exact vp_in_nI hc hn
theorem t_popsOf {n : Nat} (S : iSt h n ways wc xs tops pops marks ci) {c : Nat} (hc : c < n) (hn : n < 2 ^ 31) : aq_T e_X6_popsOf 2 0 0 [.ref 6, .int (nI c)] h (rd (pops c) h) := by
  obtain ⟨s1, s2, s3, s4, s5, s6, s7⟩ := S
  refine ⟨Nat.le_of_ble_eq_true rfl, ?_⟩
  show aq_W _ _ 0 [some (.ref 6), some (.int (nI c))] [] _ _ _
  simp only [s_X6_popsOf_0, s_X6_popsOf_1, s_X6_popsOf_4, s_X6_popsOf_5, s_X6_popsOf_6, aq_gI, aq_gL, aq_gA, aq_isA, aq_s1, aq_s2, aq_kill, aq_ob, aq_sm, aq_arI, aq_arB, aq_isB, aq_arL, aq_arA, aq_arN, aq_sh, Value.category, List.getElem?_cons_zero, List.getElem?_cons_succ, List.length_cons, List.length_nil, Option.toList_some, Option.toList_none, List.cons_append, List.nil_append, true_and, and_true, List.set_cons_zero, List.set_cons_succ, aq_n1, aq_n2, aq_n3, aq_n4, aq_f1, aq_f2, aq_f3, aq_f4, aq_gs, aq_ty1, aq_ty2, aq_ty3, aq_ty4, aq_ty5, Nat.reduceAdd, Nat.reduceLT, Nat.reduceEqDiff, Nat.reduceSub, if_true, if_false, ne_eq, not_false_eq_true, not_true_eq_false, Option.map_some, Option.map_none, Nat.zero_add, reduceCtorEq, Nat.reduceLeDiff, one_ne_zero_a, zero_ne_one_a, s1, s6, rd, nI_clamp (show c < 2 ^ 31 by omega)]
  exact vp_in_nI hc hn
theorem t_circleCount {n : Nat} (S : iSt h n ways wc xs tops pops marks ci) : aq_T e_X6_circleCount 1 0 0 [.ref 6] h (rd ci h) := by
  obtain ⟨s1, s2, s3, s4, s5, s6, s7⟩ := S
  refine ⟨Nat.le_of_ble_eq_true rfl, ?_⟩
  show aq_W _ _ 0 [some (.ref 6)] [] _ _ _
  simp only [s_X6_circleCount_0, s_X6_circleCount_1, s_X6_circleCount_4, aq_gI, aq_gL, aq_gA, aq_isA, aq_s1, aq_s2, aq_kill, aq_ob, aq_sm, aq_arI, aq_arB, aq_isB, aq_arL, aq_arA, aq_arN, aq_sh, Value.category, List.getElem?_cons_zero, List.getElem?_cons_succ, List.length_cons, List.length_nil, Option.toList_some, Option.toList_none, List.cons_append, List.nil_append, true_and, and_true, List.set_cons_zero, List.set_cons_succ, aq_n1, aq_n2, aq_n3, aq_n4, aq_f1, aq_f2, aq_f3, aq_f4, aq_gs, aq_ty1, aq_ty2, aq_ty3, aq_ty4, aq_ty5, Nat.reduceAdd, Nat.reduceLT, Nat.reduceEqDiff, Nat.reduceSub, if_true, if_false, ne_eq, not_false_eq_true, not_true_eq_false, Option.map_some, Option.map_none, Nat.zero_add, reduceCtorEq, Nat.reduceLeDiff, one_ne_zero_a, zero_ne_one_a, s1, rd]
theorem t_mazeHas (K : iDk h 1) (B : iBd h w ht cut bes lead pas fr) (G : gBd w ht wx wy cb cut bes lead pas fr) (c : Int32) : aq_T e_X9_mazeHas 2 0 0 [.ref 0, .int c] h (rd (bB (inC (w * ht) c && !cb c.toNatClampNeg)) h) := by
  have tt := t_isFree B G c
  unfold iDk at K
  have b1 := B.1
  refine ⟨Nat.le_of_ble_eq_true rfl, ?_⟩
  show aq_W _ _ 0 [some (.ref 0), some (.int c)] [] _ _ _
  simp only [s_X9_mazeHas_0, s_X9_mazeHas_1, s_X9_mazeHas_4, s_X9_mazeHas_7, s_X9_mazeHas_8, s_X9_mazeHas_11, s_X9_mazeHas_12, s_X9_mazeHas_15, s_X9_mazeHas_18, s_X9_mazeHas_19, s_X9_mazeHas_22, s_X9_mazeHas_23, aq_gI, aq_gL, aq_gA, aq_isA, aq_s1, aq_s2, aq_kill, aq_ob, aq_sm, aq_arI, aq_arB, aq_isB, aq_arL, aq_arA, aq_arN, aq_sh, Value.category, List.getElem?_cons_zero, List.getElem?_cons_succ, List.length_cons, List.length_nil, Option.toList_some, Option.toList_none, List.cons_append, List.nil_append, true_and, and_true, List.set_cons_zero, List.set_cons_succ, aq_n1, aq_n2, aq_n3, aq_n4, aq_f1, aq_f2, aq_f3, aq_f4, aq_gs, aq_ty1, aq_ty2, aq_ty3, aq_ty4, aq_ty5, Nat.reduceAdd, Nat.reduceLT, Nat.reduceEqDiff, Nat.reduceSub, if_true, if_false, ne_eq, not_false_eq_true, not_true_eq_false, Option.map_some, Option.map_none, Nat.zero_add, reduceCtorEq, Nat.reduceLeDiff, one_ne_zero_a, zero_ne_one_a, K, b1]
  refine tt.use ?_
  rintro _ _ ⟨rfl, rfl⟩
  generalize (inC (w * ht) c && !cb c.toNatClampNeg) = b
  cases b
  · simp only [s_X9_mazeHas_0, s_X9_mazeHas_1, s_X9_mazeHas_4, s_X9_mazeHas_7, s_X9_mazeHas_8, s_X9_mazeHas_11, s_X9_mazeHas_12, s_X9_mazeHas_15, s_X9_mazeHas_18, s_X9_mazeHas_19, s_X9_mazeHas_22, s_X9_mazeHas_23, aq_gI, aq_gL, aq_gA, aq_isA, aq_s1, aq_s2, aq_kill, aq_ob, aq_sm, aq_arI, aq_arB, aq_isB, aq_arL, aq_arA, aq_arN, aq_sh, Value.category, List.getElem?_cons_zero, List.getElem?_cons_succ, List.length_cons, List.length_nil, Option.toList_some, Option.toList_none, List.cons_append, List.nil_append, true_and, and_true, List.set_cons_zero, List.set_cons_succ, aq_n1, aq_n2, aq_n3, aq_n4, aq_f1, aq_f2, aq_f3, aq_f4, aq_gs, aq_ty1, aq_ty2, aq_ty3, aq_ty4, aq_ty5, Nat.reduceAdd, Nat.reduceLT, Nat.reduceEqDiff, Nat.reduceSub, if_true, if_false, ne_eq, not_false_eq_true, not_true_eq_false, Option.map_some, Option.map_none, Nat.zero_add, reduceCtorEq, Nat.reduceLeDiff, one_ne_zero_a, zero_ne_one_a, rd, bB_f]; (first | trivial | exact ⟨rfl, rfl⟩ | exact ⟨rfl, trivial⟩ | exact ⟨rfl, rfl, trivial⟩ | rfl)
  · simp only [s_X9_mazeHas_0, s_X9_mazeHas_1, s_X9_mazeHas_4, s_X9_mazeHas_7, s_X9_mazeHas_8, s_X9_mazeHas_11, s_X9_mazeHas_12, s_X9_mazeHas_15, s_X9_mazeHas_18, s_X9_mazeHas_19, s_X9_mazeHas_22, s_X9_mazeHas_23, aq_gI, aq_gL, aq_gA, aq_isA, aq_s1, aq_s2, aq_kill, aq_ob, aq_sm, aq_arI, aq_arB, aq_isB, aq_arL, aq_arA, aq_arN, aq_sh, Value.category, List.getElem?_cons_zero, List.getElem?_cons_succ, List.length_cons, List.length_nil, Option.toList_some, Option.toList_none, List.cons_append, List.nil_append, true_and, and_true, List.set_cons_zero, List.set_cons_succ, aq_n1, aq_n2, aq_n3, aq_n4, aq_f1, aq_f2, aq_f3, aq_f4, aq_gs, aq_ty1, aq_ty2, aq_ty3, aq_ty4, aq_ty5, Nat.reduceAdd, Nat.reduceLT, Nat.reduceEqDiff, Nat.reduceSub, if_true, if_false, ne_eq, not_false_eq_true, not_true_eq_false, Option.map_some, Option.map_none, Nat.zero_add, reduceCtorEq, Nat.reduceLeDiff, one_ne_zero_a, zero_ne_one_a, rd, bB_t]; (first | trivial | exact ⟨rfl, rfl⟩ | exact ⟨rfl, trivial⟩ | exact ⟨rfl, rfl, trivial⟩ | rfl)
theorem t_mazeHas0 (K : iDk h 0) (c : Int32) : aq_T e_X9_mazeHas 2 0 0 [.ref 0, .int c] h (rd 0 h) := by
  unfold iDk at K
  refine ⟨Nat.le_of_ble_eq_true rfl, ?_⟩
  show aq_W _ _ 0 [some (.ref 0), some (.int c)] [] _ _ _
  simp only [s_X9_mazeHas_0, s_X9_mazeHas_1, s_X9_mazeHas_4, s_X9_mazeHas_7, s_X9_mazeHas_8, s_X9_mazeHas_11, s_X9_mazeHas_12, s_X9_mazeHas_15, s_X9_mazeHas_18, s_X9_mazeHas_19, s_X9_mazeHas_22, s_X9_mazeHas_23, aq_gI, aq_gL, aq_gA, aq_isA, aq_s1, aq_s2, aq_kill, aq_ob, aq_sm, aq_arI, aq_arB, aq_isB, aq_arL, aq_arA, aq_arN, aq_sh, Value.category, List.getElem?_cons_zero, List.getElem?_cons_succ, List.length_cons, List.length_nil, Option.toList_some, Option.toList_none, List.cons_append, List.nil_append, true_and, and_true, List.set_cons_zero, List.set_cons_succ, aq_n1, aq_n2, aq_n3, aq_n4, aq_f1, aq_f2, aq_f3, aq_f4, aq_gs, aq_ty1, aq_ty2, aq_ty3, aq_ty4, aq_ty5, Nat.reduceAdd, Nat.reduceLT, Nat.reduceEqDiff, Nat.reduceSub, if_true, if_false, ne_eq, not_false_eq_true, not_true_eq_false, Option.map_some, Option.map_none, Nat.zero_add, reduceCtorEq, Nat.reduceLeDiff, one_ne_zero_a, zero_ne_one_a, K, rd]
  (first | trivial | exact ⟨rfl, rfl⟩ | exact ⟨rfl, trivial⟩ | exact ⟨rfl, rfl, trivial⟩ | rfl)
theorem t_mazePassage (K : iDk h 1) (B : iBd h w ht cut bes lead pas fr) (G : gBd w ht wx wy cb cut bes lead pas fr) (c d : Int32) : aq_T e_X9_mazePassage 3 0 0 [.ref 0, .int c, .int d] h (rd (PNX w ht wx wy cb c d) h) := by
  have tt := t_passageAt B G c d
  unfold iDk at K
  have b1 := B.1
  refine ⟨Nat.le_of_ble_eq_true rfl, ?_⟩
  show aq_W _ _ 0 [some (.ref 0), some (.int c), some (.int d)] [] _ _ _
  simp only [s_X9_mazePassage_0, s_X9_mazePassage_1, s_X9_mazePassage_4, s_X9_mazePassage_7, s_X9_mazePassage_8, s_X9_mazePassage_11, s_X9_mazePassage_12, s_X9_mazePassage_13, s_X9_mazePassage_16, s_X9_mazePassage_19, s_X9_mazePassage_20, aq_gI, aq_gL, aq_gA, aq_isA, aq_s1, aq_s2, aq_kill, aq_ob, aq_sm, aq_arI, aq_arB, aq_isB, aq_arL, aq_arA, aq_arN, aq_sh, Value.category, List.getElem?_cons_zero, List.getElem?_cons_succ, List.length_cons, List.length_nil, Option.toList_some, Option.toList_none, List.cons_append, List.nil_append, true_and, and_true, List.set_cons_zero, List.set_cons_succ, aq_n1, aq_n2, aq_n3, aq_n4, aq_f1, aq_f2, aq_f3, aq_f4, aq_gs, aq_ty1, aq_ty2, aq_ty3, aq_ty4, aq_ty5, Nat.reduceAdd, Nat.reduceLT, Nat.reduceEqDiff, Nat.reduceSub, if_true, if_false, ne_eq, not_false_eq_true, not_true_eq_false, Option.map_some, Option.map_none, Nat.zero_add, reduceCtorEq, Nat.reduceLeDiff, one_ne_zero_a, zero_ne_one_a, K, b1]
  refine tt.use ?_
  rintro _ _ ⟨rfl, rfl⟩
  simp only [s_X9_mazePassage_0, s_X9_mazePassage_1, s_X9_mazePassage_4, s_X9_mazePassage_7, s_X9_mazePassage_8, s_X9_mazePassage_11, s_X9_mazePassage_12, s_X9_mazePassage_13, s_X9_mazePassage_16, s_X9_mazePassage_19, s_X9_mazePassage_20, aq_gI, aq_gL, aq_gA, aq_isA, aq_s1, aq_s2, aq_kill, aq_ob, aq_sm, aq_arI, aq_arB, aq_isB, aq_arL, aq_arA, aq_arN, aq_sh, Value.category, List.getElem?_cons_zero, List.getElem?_cons_succ, List.length_cons, List.length_nil, Option.toList_some, Option.toList_none, List.cons_append, List.nil_append, true_and, and_true, List.set_cons_zero, List.set_cons_succ, aq_n1, aq_n2, aq_n3, aq_n4, aq_f1, aq_f2, aq_f3, aq_f4, aq_gs, aq_ty1, aq_ty2, aq_ty3, aq_ty4, aq_ty5, Nat.reduceAdd, Nat.reduceLT, Nat.reduceEqDiff, Nat.reduceSub, if_true, if_false, ne_eq, not_false_eq_true, not_true_eq_false, Option.map_some, Option.map_none, Nat.zero_add, reduceCtorEq, Nat.reduceLeDiff, one_ne_zero_a, zero_ne_one_a, rd]
theorem t_mazePassage0 (K : iDk h 0) (c d : Int32) : aq_T e_X9_mazePassage 3 0 0 [.ref 0, .int c, .int d] h (rd (-1) h) := by
  unfold iDk at K
  refine ⟨Nat.le_of_ble_eq_true rfl, ?_⟩
  show aq_W _ _ 0 [some (.ref 0), some (.int c), some (.int d)] [] _ _ _
  simp only [s_X9_mazePassage_0, s_X9_mazePassage_1, s_X9_mazePassage_4, s_X9_mazePassage_7, s_X9_mazePassage_8, s_X9_mazePassage_11, s_X9_mazePassage_12, s_X9_mazePassage_13, s_X9_mazePassage_16, s_X9_mazePassage_19, s_X9_mazePassage_20, aq_gI, aq_gL, aq_gA, aq_isA, aq_s1, aq_s2, aq_kill, aq_ob, aq_sm, aq_arI, aq_arB, aq_isB, aq_arL, aq_arA, aq_arN, aq_sh, Value.category, List.getElem?_cons_zero, List.getElem?_cons_succ, List.length_cons, List.length_nil, Option.toList_some, Option.toList_none, List.cons_append, List.nil_append, true_and, and_true, List.set_cons_zero, List.set_cons_succ, aq_n1, aq_n2, aq_n3, aq_n4, aq_f1, aq_f2, aq_f3, aq_f4, aq_gs, aq_ty1, aq_ty2, aq_ty3, aq_ty4, aq_ty5, Nat.reduceAdd, Nat.reduceLT, Nat.reduceEqDiff, Nat.reduceSub, if_true, if_false, ne_eq, not_false_eq_true, not_true_eq_false, Option.map_some, Option.map_none, Nat.zero_add, reduceCtorEq, Nat.reduceLeDiff, one_ne_zero_a, zero_ne_one_a, K, rd]
theorem t_isKey (k : Int32) : aq_T e_X9_isKey 1 0 0 [.int k] h (rd (bB (inC 4 k)) h) := by
  refine ⟨Nat.le_of_ble_eq_true rfl, ?_⟩
  show aq_W _ _ 0 [some (.int k)] [] _ _ _
  simp only [s_X9_isKey_0, s_X9_isKey_1, s_X9_isKey_4, s_X9_isKey_5, s_X9_isKey_6, s_X9_isKey_9, s_X9_isKey_10, s_X9_isKey_13, s_X9_isKey_14, aq_gI, aq_gL, aq_gA, aq_isA, aq_s1, aq_s2, aq_kill, aq_ob, aq_sm, aq_arI, aq_arB, aq_isB, aq_arL, aq_arA, aq_arN, aq_sh, Value.category, List.getElem?_cons_zero, List.getElem?_cons_succ, List.length_cons, List.length_nil, Option.toList_some, Option.toList_none, List.cons_append, List.nil_append, true_and, and_true, List.set_cons_zero, List.set_cons_succ, aq_n1, aq_n2, aq_n3, aq_n4, aq_f1, aq_f2, aq_f3, aq_f4, aq_gs, aq_ty1, aq_ty2, aq_ty3, aq_ty4, aq_ty5, Nat.reduceAdd, Nat.reduceLT, Nat.reduceEqDiff, Nat.reduceSub, if_true, if_false, ne_eq, not_false_eq_true, not_true_eq_false, Option.map_some, Option.map_none, Nat.zero_add, reduceCtorEq, Nat.reduceLeDiff, one_ne_zero_a, zero_ne_one_a, rd]
  rcases inC_cs 4 k (by decide) with hc | ⟨j, hj, rfl⟩
  · rw [hc]
    rcases inC_out hc with h1 | ⟨h1, h2⟩
    · simp only [h1, if_true]; (first | trivial | exact ⟨rfl, rfl⟩ | exact ⟨rfl, trivial⟩ | exact ⟨rfl, rfl, trivial⟩ | rfl)
    · rw [← nI_4] at h2
      simp only [h1, h2, if_true, if_false]; (first | trivial | exact ⟨rfl, rfl⟩ | exact ⟨rfl, trivial⟩ | exact ⟨rfl, rfl, trivial⟩ | rfl)
  · rw [inC_nI hj (by decide)]
    have h4 : ¬ (4 : Int32) ≤ nI j := by rw [nI_4]; exact nI_ge hj (by omega)
    simp only [nI_pos (show j < 2 ^ 31 by omega), h4, if_false]
    (first | trivial | exact ⟨rfl, rfl⟩ | exact ⟨rfl, trivial⟩ | exact ⟨rfl, rfl, trivial⟩ | rfl)
theorem t_isFreeOrNone (K : iDk h hm) (B : iBd h w ht cut bes lead pas fr) (G : gBd w ht wx wy cb cut bes lead pas fr) (c : Int32) : aq_T e_X9_isFreeOrNone 2 0 0 [.ref 0, .int c] h (rd (bB (decide (c = -1) || (inC (w * ht) c && !cb c.toNatClampNeg))) h) := by
  have tt := t_isFree B G c
  unfold iDk at K
  have b1 := B.1
  refine ⟨Nat.le_of_ble_eq_true rfl, ?_⟩
  show aq_W _ _ 0 [some (.ref 0), some (.int c)] [] _ _ _
  simp only [s_X9_isFreeOrNone_0, s_X9_isFreeOrNone_1, s_X9_isFreeOrNone_2, s_X9_isFreeOrNone_5, s_X9_isFreeOrNone_6, s_X9_isFreeOrNone_9, s_X9_isFreeOrNone_10, s_X9_isFreeOrNone_13, s_X9_isFreeOrNone_16, s_X9_isFreeOrNone_17, s_X9_isFreeOrNone_20, s_X9_isFreeOrNone_21, aq_gI, aq_gL, aq_gA, aq_isA, aq_s1, aq_s2, aq_kill, aq_ob, aq_sm, aq_arI, aq_arB, aq_isB, aq_arL, aq_arA, aq_arN, aq_sh, Value.category, List.getElem?_cons_zero, List.getElem?_cons_succ, List.length_cons, List.length_nil, Option.toList_some, Option.toList_none, List.cons_append, List.nil_append, true_and, and_true, List.set_cons_zero, List.set_cons_succ, aq_n1, aq_n2, aq_n3, aq_n4, aq_f1, aq_f2, aq_f3, aq_f4, aq_gs, aq_ty1, aq_ty2, aq_ty3, aq_ty4, aq_ty5, Nat.reduceAdd, Nat.reduceLT, Nat.reduceEqDiff, Nat.reduceSub, if_true, if_false, ne_eq, not_false_eq_true, not_true_eq_false, Option.map_some, Option.map_none, Nat.zero_add, reduceCtorEq, Nat.reduceLeDiff, one_ne_zero_a, zero_ne_one_a, K, b1]
  by_cases e : c = -1
  · simp only [e, if_true, decide_true, Bool.true_or, bB_t, rd]; (first | trivial | exact ⟨rfl, rfl⟩ | exact ⟨rfl, trivial⟩ | exact ⟨rfl, rfl, trivial⟩ | rfl)
  · simp only [e, if_false, decide_false, Bool.false_or]
    refine tt.use ?_
    rintro _ _ ⟨rfl, rfl⟩
    generalize (inC (w * ht) c && !cb c.toNatClampNeg) = b
    cases b
    · simp only [s_X9_isFreeOrNone_0, s_X9_isFreeOrNone_1, s_X9_isFreeOrNone_2, s_X9_isFreeOrNone_5, s_X9_isFreeOrNone_6, s_X9_isFreeOrNone_9, s_X9_isFreeOrNone_10, s_X9_isFreeOrNone_13, s_X9_isFreeOrNone_16, s_X9_isFreeOrNone_17, s_X9_isFreeOrNone_20, s_X9_isFreeOrNone_21, aq_gI, aq_gL, aq_gA, aq_isA, aq_s1, aq_s2, aq_kill, aq_ob, aq_sm, aq_arI, aq_arB, aq_isB, aq_arL, aq_arA, aq_arN, aq_sh, Value.category, List.getElem?_cons_zero, List.getElem?_cons_succ, List.length_cons, List.length_nil, Option.toList_some, Option.toList_none, List.cons_append, List.nil_append, true_and, and_true, List.set_cons_zero, List.set_cons_succ, aq_n1, aq_n2, aq_n3, aq_n4, aq_f1, aq_f2, aq_f3, aq_f4, aq_gs, aq_ty1, aq_ty2, aq_ty3, aq_ty4, aq_ty5, Nat.reduceAdd, Nat.reduceLT, Nat.reduceEqDiff, Nat.reduceSub, if_true, if_false, ne_eq, not_false_eq_true, not_true_eq_false, Option.map_some, Option.map_none, Nat.zero_add, reduceCtorEq, Nat.reduceLeDiff, one_ne_zero_a, zero_ne_one_a, rd, bB_f]; (first | trivial | exact ⟨rfl, rfl⟩ | exact ⟨rfl, trivial⟩ | exact ⟨rfl, rfl, trivial⟩ | rfl)
    · simp only [s_X9_isFreeOrNone_0, s_X9_isFreeOrNone_1, s_X9_isFreeOrNone_2, s_X9_isFreeOrNone_5, s_X9_isFreeOrNone_6, s_X9_isFreeOrNone_9, s_X9_isFreeOrNone_10, s_X9_isFreeOrNone_13, s_X9_isFreeOrNone_16, s_X9_isFreeOrNone_17, s_X9_isFreeOrNone_20, s_X9_isFreeOrNone_21, aq_gI, aq_gL, aq_gA, aq_isA, aq_s1, aq_s2, aq_kill, aq_ob, aq_sm, aq_arI, aq_arB, aq_isB, aq_arL, aq_arA, aq_arN, aq_sh, Value.category, List.getElem?_cons_zero, List.getElem?_cons_succ, List.length_cons, List.length_nil, Option.toList_some, Option.toList_none, List.cons_append, List.nil_append, true_and, and_true, List.set_cons_zero, List.set_cons_succ, aq_n1, aq_n2, aq_n3, aq_n4, aq_f1, aq_f2, aq_f3, aq_f4, aq_gs, aq_ty1, aq_ty2, aq_ty3, aq_ty4, aq_ty5, Nat.reduceAdd, Nat.reduceLT, Nat.reduceEqDiff, Nat.reduceSub, if_true, if_false, ne_eq, not_false_eq_true, not_true_eq_false, Option.map_some, Option.map_none, Nat.zero_add, reduceCtorEq, Nat.reduceLeDiff, one_ne_zero_a, zero_ne_one_a, rd, bB_t]; (first | trivial | exact ⟨rfl, rfl⟩ | exact ⟨rfl, trivial⟩ | exact ⟨rfl, rfl, trivial⟩ | rfl)
/-! the walker -/
theorem t_begin {N : Nat} (M : iMz h N op dk od kc st ex ch) (A : iWk h at_ ks sg) : aq_T e_X8_begin 1 0 0 [.ref 45] h (fun r h' => r = none ∧ h' = h.set 45 (.inr (8, [.ref 32, .int st, .int (nI (km kc st)), .int 0]))) := by
  have t1 := t_startCell M
  have t2 : ∀ h', sm 45 45 h h' → aq_T e_X3_keysIn 4 0 0 [.ref 32, .int st] h' (rd (nI (km kc st)) h') := fun h' S => t_keysIn (M.sm S (by decide)) st
  unfold iWk at A
  have m1 := M.1
  refine ⟨Nat.le_of_ble_eq_true rfl, ?_⟩
  show aq_W _ _ 0 [some (.ref 45)] [] _ _ _
  simp only [s_X8_begin_0, s_X8_begin_1, s_X8_begin_2, s_X8_begin_5, s_X8_begin_8, s_X8_begin_11, s_X8_begin_12, s_X8_begin_13, s_X8_begin_16, s_X8_begin_17, s_X8_begin_20, s_X8_begin_23, s_X8_begin_26, s_X8_begin_27, s_X8_begin_28, s_X8_begin_31, aq_gI, aq_gL, aq_gA, aq_isA, aq_s1, aq_s2, aq_kill, aq_ob, aq_sm, aq_arI, aq_arB, aq_isB, aq_arL, aq_arA, aq_arN, aq_sh, Value.category, List.getElem?_cons_zero, List.getElem?_cons_succ, List.length_cons, List.length_nil, Option.toList_some, Option.toList_none, List.cons_append, List.nil_append, true_and, and_true, List.set_cons_zero, List.set_cons_succ, aq_n1, aq_n2, aq_n3, aq_n4, aq_f1, aq_f2, aq_f3, aq_f4, aq_gs, aq_ty1, aq_ty2, aq_ty3, aq_ty4, aq_ty5, Nat.reduceAdd, Nat.reduceLT, Nat.reduceEqDiff, Nat.reduceSub, if_true, if_false, ne_eq, not_false_eq_true, not_true_eq_false, Option.map_some, Option.map_none, Nat.zero_add, reduceCtorEq, Nat.reduceLeDiff, one_ne_zero_a, zero_ne_one_a, A, m1]
  refine t1.use ?_
  rintro _ _ ⟨rfl, rfl⟩
  simp only [s_X8_begin_0, s_X8_begin_1, s_X8_begin_2, s_X8_begin_5, s_X8_begin_8, s_X8_begin_11, s_X8_begin_12, s_X8_begin_13, s_X8_begin_16, s_X8_begin_17, s_X8_begin_20, s_X8_begin_23, s_X8_begin_26, s_X8_begin_27, s_X8_begin_28, s_X8_begin_31, aq_gI, aq_gL, aq_gA, aq_isA, aq_s1, aq_s2, aq_kill, aq_ob, aq_sm, aq_arI, aq_arB, aq_isB, aq_arL, aq_arA, aq_arN, aq_sh, Value.category, List.getElem?_cons_zero, List.getElem?_cons_succ, List.length_cons, List.length_nil, Option.toList_some, Option.toList_none, List.cons_append, List.nil_append, true_and, and_true, List.set_cons_zero, List.set_cons_succ, aq_n1, aq_n2, aq_n3, aq_n4, aq_f1, aq_f2, aq_f3, aq_f4, aq_gs, aq_ty1, aq_ty2, aq_ty3, aq_ty4, aq_ty5, Nat.reduceAdd, Nat.reduceLT, Nat.reduceEqDiff, Nat.reduceSub, if_true, if_false, ne_eq, not_false_eq_true, not_true_eq_false, Option.map_some, Option.map_none, Nat.zero_add, reduceCtorEq, Nat.reduceLeDiff, one_ne_zero_a, zero_ne_one_a, A, m1]
  refine (t2 _ ((sm.rf _ _ _).st (by decide) (by decide))).use ?_
  rintro _ _ ⟨rfl, rfl⟩
  simp only [s_X8_begin_0, s_X8_begin_1, s_X8_begin_2, s_X8_begin_5, s_X8_begin_8, s_X8_begin_11, s_X8_begin_12, s_X8_begin_13, s_X8_begin_16, s_X8_begin_17, s_X8_begin_20, s_X8_begin_23, s_X8_begin_26, s_X8_begin_27, s_X8_begin_28, s_X8_begin_31, aq_gI, aq_gL, aq_gA, aq_isA, aq_s1, aq_s2, aq_kill, aq_ob, aq_sm, aq_arI, aq_arB, aq_isB, aq_arL, aq_arA, aq_arN, aq_sh, Value.category, List.getElem?_cons_zero, List.getElem?_cons_succ, List.length_cons, List.length_nil, Option.toList_some, Option.toList_none, List.cons_append, List.nil_append, true_and, and_true, List.set_cons_zero, List.set_cons_succ, aq_n1, aq_n2, aq_n3, aq_n4, aq_f1, aq_f2, aq_f3, aq_f4, aq_gs, aq_ty1, aq_ty2, aq_ty3, aq_ty4, aq_ty5, Nat.reduceAdd, Nat.reduceLT, Nat.reduceEqDiff, Nat.reduceSub, if_true, if_false, ne_eq, not_false_eq_true, not_true_eq_false, Option.map_some, Option.map_none, Nat.zero_add, reduceCtorEq, Nat.reduceLeDiff, one_ne_zero_a, zero_ne_one_a, A, m1, List.set_set]
theorem t_tell (A : iWk h at_ ks sg) (x : Int32) : aq_T e_X8_tell 2 0 0 [.ref 45, .int x] h (rd (if x = 0 then at_ else if x = 1 then ks else if x = 2 then sg else -1) h) := by
  unfold iWk at A
  refine ⟨Nat.le_of_ble_eq_true rfl, ?_⟩
  show aq_W _ _ 0 [some (.ref 45), some (.int x)] [] _ _ _
  rcases inC_cs 3 x (by decide) with hc | ⟨j, hj, rfl⟩
  · have e0 : ¬ x = 0 := by rintro rfl; revert hc; decide
    have e1 : ¬ x = 1 := by rintro rfl; revert hc; decide
    have e2 : ¬ x = 2 := by rintro rfl; revert hc; decide
    have e3 : x.toInt < 0 ∨ 2 < x.toInt := by
      rcases inC_out hc with h1 | ⟨-, h2⟩
      · left; have := Int32.lt_iff_toInt_lt.mp h1; simpa using this
      · right
        have := Int32.le_iff_toInt_le.mp h2
        have t3 : (nI 3).toInt = 3 := by decide
        omega
    simp only [s_X8_tell_0, s_X8_tell_1, s_X8_tell_28, s_X8_tell_29, s_X8_tell_32, s_X8_tell_33, s_X8_tell_34, s_X8_tell_37, s_X8_tell_38, s_X8_tell_39, s_X8_tell_42, s_X8_tell_43, s_X8_tell_44, aq_gI, e0, e1, e2, e3, if_true, if_false]
    simp only [aq_sm, s_X8_tell_0, s_X8_tell_1, s_X8_tell_28, s_X8_tell_29, s_X8_tell_32, s_X8_tell_33, s_X8_tell_34, s_X8_tell_37, s_X8_tell_38, s_X8_tell_39, s_X8_tell_42, s_X8_tell_43, s_X8_tell_44, aq_gI, aq_gL, aq_gA, aq_isA, aq_s1, aq_s2, aq_kill, aq_ob, aq_sm, aq_arI, aq_arB, aq_isB, aq_arL, aq_arA, aq_arN, aq_sh, Value.category, List.getElem?_cons_zero, List.getElem?_cons_succ, List.length_cons, List.length_nil, Option.toList_some, Option.toList_none, List.cons_append, List.nil_append, true_and, and_true, List.set_cons_zero, List.set_cons_succ, aq_n1, aq_n2, aq_n3, aq_n4, aq_f1, aq_f2, aq_f3, aq_f4, aq_gs, aq_ty1, aq_ty2, aq_ty3, aq_ty4, aq_ty5, Nat.reduceAdd, Nat.reduceLT, Nat.reduceEqDiff, Nat.reduceSub, if_true, if_false, ne_eq, not_false_eq_true, not_true_eq_false, Option.map_some, Option.map_none, Nat.zero_add, reduceCtorEq, Nat.reduceLeDiff, one_ne_zero_a, zero_ne_one_a, rd]
  · have t0 : (nI 0).toInt = 0 := by decide
    have t1 : (nI 1).toInt = 1 := by decide
    have t2 : (nI 2).toInt = 2 := by decide
    have d1 : j = 0 ∨ j = 1 ∨ j = 2 := by omega
    rcases d1 with rfl | rfl | rfl
    · simp only [s_X8_tell_0, s_X8_tell_1, s_X8_tell_28, s_X8_tell_29, s_X8_tell_32, s_X8_tell_33, s_X8_tell_34, s_X8_tell_37, s_X8_tell_38, s_X8_tell_39, s_X8_tell_42, s_X8_tell_43, s_X8_tell_44, aq_gI, t0]
      simp [aq_sm, s_X8_tell_0, s_X8_tell_1, s_X8_tell_28, s_X8_tell_29, s_X8_tell_32, s_X8_tell_33, s_X8_tell_34, s_X8_tell_37, s_X8_tell_38, s_X8_tell_39, s_X8_tell_42, s_X8_tell_43, s_X8_tell_44, aq_gI, aq_gL, aq_gA, aq_isA, aq_s1, aq_s2, aq_kill, aq_ob, aq_sm, aq_arI, aq_arB, aq_isB, aq_arL, aq_arA, aq_arN, aq_sh, Value.category, List.getElem?_cons_zero, List.getElem?_cons_succ, List.length_cons, List.length_nil, Option.toList_some, Option.toList_none, List.cons_append, List.nil_append, true_and, and_true, List.set_cons_zero, List.set_cons_succ, aq_n1, aq_n2, aq_n3, aq_n4, aq_f1, aq_f2, aq_f3, aq_f4, aq_gs, aq_ty1, aq_ty2, aq_ty3, aq_ty4, aq_ty5, Nat.reduceAdd, Nat.reduceLT, Nat.reduceEqDiff, Nat.reduceSub, if_true, if_false, ne_eq, not_false_eq_true, not_true_eq_false, Option.map_some, Option.map_none, Nat.zero_add, reduceCtorEq, Nat.reduceLeDiff, one_ne_zero_a, zero_ne_one_a, rd, A, nI_0]
    · simp only [s_X8_tell_0, s_X8_tell_1, s_X8_tell_28, s_X8_tell_29, s_X8_tell_32, s_X8_tell_33, s_X8_tell_34, s_X8_tell_37, s_X8_tell_38, s_X8_tell_39, s_X8_tell_42, s_X8_tell_43, s_X8_tell_44, aq_gI, t1]
      simp [aq_sm, s_X8_tell_0, s_X8_tell_1, s_X8_tell_28, s_X8_tell_29, s_X8_tell_32, s_X8_tell_33, s_X8_tell_34, s_X8_tell_37, s_X8_tell_38, s_X8_tell_39, s_X8_tell_42, s_X8_tell_43, s_X8_tell_44, aq_gI, aq_gL, aq_gA, aq_isA, aq_s1, aq_s2, aq_kill, aq_ob, aq_sm, aq_arI, aq_arB, aq_isB, aq_arL, aq_arA, aq_arN, aq_sh, Value.category, List.getElem?_cons_zero, List.getElem?_cons_succ, List.length_cons, List.length_nil, Option.toList_some, Option.toList_none, List.cons_append, List.nil_append, true_and, and_true, List.set_cons_zero, List.set_cons_succ, aq_n1, aq_n2, aq_n3, aq_n4, aq_f1, aq_f2, aq_f3, aq_f4, aq_gs, aq_ty1, aq_ty2, aq_ty3, aq_ty4, aq_ty5, Nat.reduceAdd, Nat.reduceLT, Nat.reduceEqDiff, Nat.reduceSub, if_true, if_false, ne_eq, not_false_eq_true, not_true_eq_false, Option.map_some, Option.map_none, Nat.zero_add, reduceCtorEq, Nat.reduceLeDiff, one_ne_zero_a, zero_ne_one_a, rd, A, ← nI_one]
    · simp only [s_X8_tell_0, s_X8_tell_1, s_X8_tell_28, s_X8_tell_29, s_X8_tell_32, s_X8_tell_33, s_X8_tell_34, s_X8_tell_37, s_X8_tell_38, s_X8_tell_39, s_X8_tell_42, s_X8_tell_43, s_X8_tell_44, aq_gI, t2]
      simp [aq_sm, s_X8_tell_0, s_X8_tell_1, s_X8_tell_28, s_X8_tell_29, s_X8_tell_32, s_X8_tell_33, s_X8_tell_34, s_X8_tell_37, s_X8_tell_38, s_X8_tell_39, s_X8_tell_42, s_X8_tell_43, s_X8_tell_44, aq_gI, aq_gL, aq_gA, aq_isA, aq_s1, aq_s2, aq_kill, aq_ob, aq_sm, aq_arI, aq_arB, aq_isB, aq_arL, aq_arA, aq_arN, aq_sh, Value.category, List.getElem?_cons_zero, List.getElem?_cons_succ, List.length_cons, List.length_nil, Option.toList_some, Option.toList_none, List.cons_append, List.nil_append, true_and, and_true, List.set_cons_zero, List.set_cons_succ, aq_n1, aq_n2, aq_n3, aq_n4, aq_f1, aq_f2, aq_f3, aq_f4, aq_gs, aq_ty1, aq_ty2, aq_ty3, aq_ty4, aq_ty5, Nat.reduceAdd, Nat.reduceLT, Nat.reduceEqDiff, Nat.reduceSub, if_true, if_false, ne_eq, not_false_eq_true, not_true_eq_false, Option.map_some, Option.map_none, Nat.zero_add, reduceCtorEq, Nat.reduceLeDiff, one_ne_zero_a, zero_ne_one_a, rd, A, ← nI_2]
theorem t_go (B : iBd h w ht cut bes lead pas fr) (G : gBd w ht wx wy cb cut bes lead pas fr) (M : iMz h (w * ht * 2) op dk od kc st ex ch) (H : gMz (w * ht * 2) ob dr on ky op dk od kc) {c : Nat} (hc : c < w * ht) (A : iWk h (nI c) ks sg) (d : Int32) :
    aq_T e_X8_go 3 0 0 [.ref 45, .int d] h (fun r h' => match (if inC 4 d = true then stf w ht wx wy cb ob dr on c d.toNatClampNeg ks else none) with
      | none => r = some (.int 0) ∧ h' = h
      | some m => r = some (.int 1) ∧ h' = h.set 45 (.inr (8, [.ref 32, .int (nI m), .int (ks ||| nI (km kc (nI m))), .int (sg + 1)]))) := by
  have hn := wh_lt G.1
  have t1 := t_cellAfter B G M H hc d ks
  have t2 : ∀ m, ∀ h', sm 45 45 h h' → aq_T e_X3_keysIn 4 0 0 [.ref 32, .int m] h' (rd (nI (km kc m)) h') := fun m h' S => t_keysIn (M.sm S (by decide)) m
  unfold iWk at A
  have m1 := M.1
  refine ⟨Nat.le_of_ble_eq_true rfl, ?_⟩
  show aq_W _ _ 0 [some (.ref 45), some (.int d), none] [] _ _ _
  simp only [s_X8_go_0, s_X8_go_1, s_X8_go_4, s_X8_go_5, s_X8_go_8, s_X8_go_9, s_X8_go_10, s_X8_go_13, s_X8_go_16, s_X8_go_17, s_X8_go_18, s_X8_go_19, s_X8_go_22, s_X8_go_23, s_X8_go_24, s_X8_go_25, s_X8_go_26, s_X8_go_29, s_X8_go_30, s_X8_go_31, s_X8_go_34, s_X8_go_35, s_X8_go_38, s_X8_go_39, s_X8_go_42, s_X8_go_43, s_X8_go_46, s_X8_go_47, s_X8_go_48, s_X8_go_51, s_X8_go_52, s_X8_go_53, s_X8_go_56, s_X8_go_57, aq_gI, aq_gL, aq_gA, aq_isA, aq_s1, aq_s2, aq_kill, aq_ob, aq_sm, aq_arI, aq_arB, aq_isB, aq_arL, aq_arA, aq_arN, aq_sh, Value.category, List.getElem?_cons_zero, List.getElem?_cons_succ, List.length_cons, List.length_nil, Option.toList_some, Option.toList_none, List.cons_append, List.nil_append, true_and, and_true, List.set_cons_zero, List.set_cons_succ, aq_n1, aq_n2, aq_n3, aq_n4, aq_f1, aq_f2, aq_f3, aq_f4, aq_gs, aq_ty1, aq_ty2, aq_ty3, aq_ty4, aq_ty5, Nat.reduceAdd, Nat.reduceLT, Nat.reduceEqDiff, Nat.reduceSub, if_true, if_false, ne_eq, not_false_eq_true, not_true_eq_false, Option.map_some, Option.map_none, Nat.zero_add, reduceCtorEq, Nat.reduceLeDiff, one_ne_zero_a, zero_ne_one_a, A, m1]
  refine t1.use ?_
  rintro _ _ ⟨rfl, rfl⟩
  have e : (if inC 4 d = true then oI (stf w ht wx wy cb ob dr on c d.toNatClampNeg ks) else -1) = oI (if inC 4 d = true then stf w ht wx wy cb ob dr on c d.toNatClampNeg ks else none) := by split <;> rfl
  rw [e]
  have hlt : ∀ m, (if inC 4 d = true then stf w ht wx wy cb ob dr on c d.toNatClampNeg ks else none) = some m → m < w * ht := by
    intro m hm
    split at hm
    · rename_i hi
      rcases inC_cs 4 d (by decide) with q | ⟨k, hk, rfl⟩
      · rw [q] at hi; cases hi
      · rw [nI_clamp (by omega)] at hm
        unfold stf at hm
        split at hm
        · cases hm
        · split at hm
          · exact nx_lt G.1 hc hk hm
          · split at hm
            · exact nx_lt G.1 hc hk hm
            · cases hm
    · cases hm
  generalize (if inC 4 d = true then stf w ht wx wy cb ob dr on c d.toNatClampNeg ks else none) = o at hlt ⊢
  cases o with
  | none => simp only [oI, s_X8_go_0, s_X8_go_1, s_X8_go_4, s_X8_go_5, s_X8_go_8, s_X8_go_9, s_X8_go_10, s_X8_go_13, s_X8_go_16, s_X8_go_17, s_X8_go_18, s_X8_go_19, s_X8_go_22, s_X8_go_23, s_X8_go_24, s_X8_go_25, s_X8_go_26, s_X8_go_29, s_X8_go_30, s_X8_go_31, s_X8_go_34, s_X8_go_35, s_X8_go_38, s_X8_go_39, s_X8_go_42, s_X8_go_43, s_X8_go_46, s_X8_go_47, s_X8_go_48, s_X8_go_51, s_X8_go_52, s_X8_go_53, s_X8_go_56, s_X8_go_57, aq_gI, aq_gL, aq_gA, aq_isA, aq_s1, aq_s2, aq_kill, aq_ob, aq_sm, aq_arI, aq_arB, aq_isB, aq_arL, aq_arA, aq_arN, aq_sh, Value.category, List.getElem?_cons_zero, List.getElem?_cons_succ, List.length_cons, List.length_nil, Option.toList_some, Option.toList_none, List.cons_append, List.nil_append, true_and, and_true, List.set_cons_zero, List.set_cons_succ, aq_n1, aq_n2, aq_n3, aq_n4, aq_f1, aq_f2, aq_f3, aq_f4, aq_gs, aq_ty1, aq_ty2, aq_ty3, aq_ty4, aq_ty5, Nat.reduceAdd, Nat.reduceLT, Nat.reduceEqDiff, Nat.reduceSub, if_true, if_false, ne_eq, not_false_eq_true, not_true_eq_false, Option.map_some, Option.map_none, Nat.zero_add, reduceCtorEq, Nat.reduceLeDiff, one_ne_zero_a, zero_ne_one_a]; (first | trivial | exact ⟨rfl, rfl⟩ | exact ⟨rfl, trivial⟩ | exact ⟨rfl, rfl, trivial⟩ | rfl)
  | some m =>
    have hm := hlt m rfl
    simp only [oI, s_X8_go_0, s_X8_go_1, s_X8_go_4, s_X8_go_5, s_X8_go_8, s_X8_go_9, s_X8_go_10, s_X8_go_13, s_X8_go_16, s_X8_go_17, s_X8_go_18, s_X8_go_19, s_X8_go_22, s_X8_go_23, s_X8_go_24, s_X8_go_25, s_X8_go_26, s_X8_go_29, s_X8_go_30, s_X8_go_31, s_X8_go_34, s_X8_go_35, s_X8_go_38, s_X8_go_39, s_X8_go_42, s_X8_go_43, s_X8_go_46, s_X8_go_47, s_X8_go_48, s_X8_go_51, s_X8_go_52, s_X8_go_53, s_X8_go_56, s_X8_go_57, aq_gI, aq_gL, aq_gA, aq_isA, aq_s1, aq_s2, aq_kill, aq_ob, aq_sm, aq_arI, aq_arB, aq_isB, aq_arL, aq_arA, aq_arN, aq_sh, Value.category, List.getElem?_cons_zero, List.getElem?_cons_succ, List.length_cons, List.length_nil, Option.toList_some, Option.toList_none, List.cons_append, List.nil_append, true_and, and_true, List.set_cons_zero, List.set_cons_succ, aq_n1, aq_n2, aq_n3, aq_n4, aq_f1, aq_f2, aq_f3, aq_f4, aq_gs, aq_ty1, aq_ty2, aq_ty3, aq_ty4, aq_ty5, Nat.reduceAdd, Nat.reduceLT, Nat.reduceEqDiff, Nat.reduceSub, if_true, if_false, ne_eq, not_false_eq_true, not_true_eq_false, Option.map_some, Option.map_none, Nat.zero_add, reduceCtorEq, Nat.reduceLeDiff, one_ne_zero_a, zero_ne_one_a, nI_ne_m1 (show m < 2 ^ 31 by omega), A, m1]
    refine (t2 (nI m) _ ((sm.rf _ _ _).st (by decide) (by decide))).use ?_
    rintro _ _ ⟨rfl, rfl⟩
    simp only [s_X8_go_0, s_X8_go_1, s_X8_go_4, s_X8_go_5, s_X8_go_8, s_X8_go_9, s_X8_go_10, s_X8_go_13, s_X8_go_16, s_X8_go_17, s_X8_go_18, s_X8_go_19, s_X8_go_22, s_X8_go_23, s_X8_go_24, s_X8_go_25, s_X8_go_26, s_X8_go_29, s_X8_go_30, s_X8_go_31, s_X8_go_34, s_X8_go_35, s_X8_go_38, s_X8_go_39, s_X8_go_42, s_X8_go_43, s_X8_go_46, s_X8_go_47, s_X8_go_48, s_X8_go_51, s_X8_go_52, s_X8_go_53, s_X8_go_56, s_X8_go_57, aq_gI, aq_gL, aq_gA, aq_isA, aq_s1, aq_s2, aq_kill, aq_ob, aq_sm, aq_arI, aq_arB, aq_isB, aq_arL, aq_arA, aq_arN, aq_sh, Value.category, List.getElem?_cons_zero, List.getElem?_cons_succ, List.length_cons, List.length_nil, Option.toList_some, Option.toList_none, List.cons_append, List.nil_append, true_and, and_true, List.set_cons_zero, List.set_cons_succ, aq_n1, aq_n2, aq_n3, aq_n4, aq_f1, aq_f2, aq_f3, aq_f4, aq_gs, aq_ty1, aq_ty2, aq_ty3, aq_ty4, aq_ty5, Nat.reduceAdd, Nat.reduceLT, Nat.reduceEqDiff, Nat.reduceSub, if_true, if_false, ne_eq, not_false_eq_true, not_true_eq_false, Option.map_some, Option.map_none, Nat.zero_add, reduceCtorEq, Nat.reduceLeDiff, one_ne_zero_a, zero_ne_one_a, A, m1, List.set_set]
    (first | trivial | exact ⟨rfl, rfl⟩ | exact ⟨rfl, trivial⟩ | exact ⟨rfl, rfl, trivial⟩ | rfl)
end DK
