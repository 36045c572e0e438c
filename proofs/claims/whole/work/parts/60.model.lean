/-! the model -/
def iMo (h : aq_H) (w ht : Nat) (wr thr th rt ci st ex pl hd sg : Int32) : Prop :=
  h[47]? = some (.inr (10, [.int thr, .int (nI w), .int (nI ht), .int wr, .int (nI (w * ht)), .ref 48, .int th, .int rt, .int ci, .ref 49, .ref 50, .ref 51, .ref 52, .ref 53, .ref 54, .ref 55, .int st, .int ex, .int pl, .int hd, .int sg, .ref 56, .ref 57, .ref 58, .ref 59, .ref 60]))
/-- what the wrapped field holds -/
def gWr (wx wy : Bool) (wr : Int32) : Prop := ((wr &&& 1 = 1) ↔ wx = true) ∧ ((wr &&& 2 = 2) ↔ wy = true)
/-- the model's board -/
def gMb (h : aq_H) (w ht : Nat) (wx wy : Bool) (cb : Nat → Bool) (wr : Int32) (mc : Nat → Int32) : Prop :=
  (0 < w ∧ w < 13 ∧ 0 < ht ∧ ht < 13) ∧ gWr wx wy wr ∧ h[48]? = some (.inl (.boolean, 144, .inl mc)) ∧ ∀ j, j < w * ht → mc j = bB (cb j)
theorem n0a (x : Nat) : nI x + 0 = nI x := by rw [show (0 : Int32) = nI 0 from nI_0.symm, nI_add]; rfl
/-- what wrapping makes of a column or row, one further -/
theorem wp_p {w X : Nat} (hw : 0 < w) (hw2 : w < 13) (hX : X < w) : (nI (X + 1) + nI w) - (nI (X + 1) + nI w) / nI w * nI w = nI (if X + 1 < w then X + 1 else 0) := by
  rw [nI_add, pk_rem (by omega) hw (by omega)]
  congr 1
  split
  · rw [Nat.add_mod_right, Nat.mod_eq_of_lt (by omega)]
  · rw [show X + 1 = w by omega, Nat.add_mod_right, Nat.mod_self]
theorem wp_0 {w X : Nat} (hw : 0 < w) (hw2 : w < 13) (hX : X < w) : (nI X + nI w) - (nI X + nI w) / nI w * nI w = nI X := by
  rw [nI_add, pk_rem (by omega) hw (by omega), Nat.add_mod_right, Nat.mod_eq_of_lt hX]
theorem wp_m {w X : Nat} (hw : 0 < w) (hw2 : w < 13) (hX : X < w) : (nI X + (-1) + nI w) - (nI X + (-1) + nI w) / nI w * nI w = nI (if 0 < X then X - 1 else w - 1) := by
  have e : nI X + (-1) + nI w = nI (X + w - 1) := by
    rw [show X + w - 1 = X + (w - 1) by omega, ← nI_add, ← pk_m1 (w - 1), show w - 1 + 1 = w by omega, Int32.add_assoc, Int32.add_comm (-1) (nI w)]
  rw [e, pk_rem (by omega) hw (by omega)]
  congr 1
  split
  · rw [show X + w - 1 = X - 1 + w by omega, Nat.add_mod_right, Nat.mod_eq_of_lt (by omega)]
  · rw [show X + w - 1 = w - 1 by omega, Nat.mod_eq_of_lt (by omega)]
theorem m1_lt : (-1 : Int32) < 0 := by decide
section MD
variable {h : aq_H} {w ht : Nat} {wr thr th rt ci st ex pl hd sg : Int32} {wx wy : Bool} {cb : Nat → Bool} {mc : Nat → Int32}
theorem m_isCell (O : iMo h w ht wr thr th rt ci st ex pl hd sg) (G : 0 < w ∧ w < 13 ∧ 0 < ht ∧ ht < 13) (c : Int32) : aq_T e_X10_isCell 2 0 0 [.ref 47, .int c] h (rd (bB (inC (w * ht) c)) h) := by
  have hn := wh_lt G
  unfold iMo at O
  refine ⟨Nat.le_of_ble_eq_true rfl, ?_⟩
  show aq_W _ _ 0 [some (.ref 47), some (.int c)] [] _ _ _
  simp only [s_X10_isCell_0, s_X10_isCell_1, s_X10_isCell_4, s_X10_isCell_5, s_X10_isCell_6, s_X10_isCell_9, s_X10_isCell_12, s_X10_isCell_13, s_X10_isCell_16, s_X10_isCell_17, aq_gI, aq_gL, aq_gA, aq_isA, aq_s1, aq_s2, aq_kill, aq_ob, aq_sm, aq_arI, aq_arB, aq_isB, aq_arL, aq_arA, aq_arN, aq_sh, Value.category, List.getElem?_cons_zero, List.getElem?_cons_succ, List.length_cons, List.length_nil, Option.toList_some, Option.toList_none, List.cons_append, List.nil_append, true_and, and_true, List.set_cons_zero, List.set_cons_succ, aq_n1, aq_n2, aq_n3, aq_n4, aq_f1, aq_f2, aq_f3, aq_f4, aq_gs, aq_ty1, aq_ty2, aq_ty3, aq_ty4, aq_ty5, Nat.reduceAdd, Nat.reduceLT, Nat.reduceEqDiff, Nat.reduceSub, if_true, if_false, ne_eq, not_false_eq_true, not_true_eq_false, Option.map_some, Option.map_none, Nat.zero_add, reduceCtorEq, Nat.reduceLeDiff, one_ne_zero_a, zero_ne_one_a, O, rd]
  rcases inC_cs (w * ht) c (by omega) with hc | ⟨j, hj, rfl⟩
  · rw [hc]
    rcases inC_out hc with h1 | ⟨h1, h2⟩
    · simp only [h1, if_true]; (first | trivial | exact ⟨rfl, rfl⟩ | exact ⟨rfl, trivial⟩ | exact ⟨rfl, rfl, trivial⟩ | rfl)
    · simp only [h1, h2, if_true, if_false]; (first | trivial | exact ⟨rfl, rfl⟩ | exact ⟨rfl, trivial⟩ | exact ⟨rfl, rfl, trivial⟩ | rfl)
  · rw [inC_nI hj (by omega)]
    simp only [nI_pos (show j < 2 ^ 31 by omega), nI_ge hj (by omega), if_false]
    (first | trivial | exact ⟨rfl, rfl⟩ | exact ⟨rfl, trivial⟩ | exact ⟨rfl, rfl, trivial⟩ | rfl)
theorem m_stands (O : iMo h w ht wr thr th rt ci st ex pl hd sg) (G : gMb h w ht wx wy cb wr mc) (c : Int32) : aq_T e_X10_stands 2 0 0 [.ref 47, .int c] h (rd (bB (inC (w * ht) c && !cb c.toNatClampNeg)) h) := by
  have hn := wh_lt G.1
  have tt := m_isCell O G.1 c
  obtain ⟨g1, g2, g3, g4⟩ := G
  unfold iMo at O
  refine ⟨Nat.le_of_ble_eq_true rfl, ?_⟩
  show aq_W _ _ 0 [some (.ref 47), some (.int c)] [] _ _ _
  simp only [s_X10_stands_0, s_X10_stands_1, s_X10_stands_2, s_X10_stands_5, s_X10_stands_8, s_X10_stands_9, s_X10_stands_12, s_X10_stands_13, s_X10_stands_14, s_X10_stands_17, s_X10_stands_18, s_X10_stands_21, s_X10_stands_22, aq_gI, aq_gL, aq_gA, aq_isA, aq_s1, aq_s2, aq_kill, aq_ob, aq_sm, aq_arI, aq_arB, aq_isB, aq_arL, aq_arA, aq_arN, aq_sh, Value.category, List.getElem?_cons_zero, List.getElem?_cons_succ, List.length_cons, List.length_nil, Option.toList_some, Option.toList_none, List.cons_append, List.nil_append, true_and, and_true, List.set_cons_zero, List.set_cons_succ, aq_n1, aq_n2, aq_n3, aq_n4, aq_f1, aq_f2, aq_f3, aq_f4, aq_gs, aq_ty1, aq_ty2, aq_ty3, aq_ty4, aq_ty5, Nat.reduceAdd, Nat.reduceLT, Nat.reduceEqDiff, Nat.reduceSub, if_true, if_false, ne_eq, not_false_eq_true, not_true_eq_false, Option.map_some, Option.map_none, Nat.zero_add, reduceCtorEq, Nat.reduceLeDiff, one_ne_zero_a, zero_ne_one_a, O]
  refine tt.use ?_
  rintro _ _ ⟨rfl, rfl⟩
  rcases inC_cs (w * ht) c (by omega) with hc | ⟨j, hj, rfl⟩
  · simp only [hc, Bool.false_and, bB_f, s_X10_stands_0, s_X10_stands_1, s_X10_stands_2, s_X10_stands_5, s_X10_stands_8, s_X10_stands_9, s_X10_stands_12, s_X10_stands_13, s_X10_stands_14, s_X10_stands_17, s_X10_stands_18, s_X10_stands_21, s_X10_stands_22, aq_gI, aq_gL, aq_gA, aq_isA, aq_s1, aq_s2, aq_kill, aq_ob, aq_sm, aq_arI, aq_arB, aq_isB, aq_arL, aq_arA, aq_arN, aq_sh, Value.category, List.getElem?_cons_zero, List.getElem?_cons_succ, List.length_cons, List.length_nil, Option.toList_some, Option.toList_none, List.cons_append, List.nil_append, true_and, and_true, List.set_cons_zero, List.set_cons_succ, aq_n1, aq_n2, aq_n3, aq_n4, aq_f1, aq_f2, aq_f3, aq_f4, aq_gs, aq_ty1, aq_ty2, aq_ty3, aq_ty4, aq_ty5, Nat.reduceAdd, Nat.reduceLT, Nat.reduceEqDiff, Nat.reduceSub, if_true, if_false, ne_eq, not_false_eq_true, not_true_eq_false, Option.map_some, Option.map_none, Nat.zero_add, reduceCtorEq, Nat.reduceLeDiff, one_ne_zero_a, zero_ne_one_a, rd]; (first | trivial | exact ⟨rfl, rfl⟩ | exact ⟨rfl, trivial⟩ | exact ⟨rfl, rfl, trivial⟩ | rfl)
  · simp only [inC_nI hj (show w * ht < 2 ^ 31 by omega), bB_t, s_X10_stands_0, s_X10_stands_1, s_X10_stands_2, s_X10_stands_5, s_X10_stands_8, s_X10_stands_9, s_X10_stands_12, s_X10_stands_13, s_X10_stands_14, s_X10_stands_17, s_X10_stands_18, s_X10_stands_21, s_X10_stands_22, aq_gI, aq_gL, aq_gA, aq_isA, aq_s1, aq_s2, aq_kill, aq_ob, aq_sm, aq_arI, aq_arB, aq_isB, aq_arL, aq_arA, aq_arN, aq_sh, Value.category, List.getElem?_cons_zero, List.getElem?_cons_succ, List.length_cons, List.length_nil, Option.toList_some, Option.toList_none, List.cons_append, List.nil_append, true_and, and_true, List.set_cons_zero, List.set_cons_succ, aq_n1, aq_n2, aq_n3, aq_n4, aq_f1, aq_f2, aq_f3, aq_f4, aq_gs, aq_ty1, aq_ty2, aq_ty3, aq_ty4, aq_ty5, Nat.reduceAdd, Nat.reduceLT, Nat.reduceEqDiff, Nat.reduceSub, if_true, if_false, ne_eq, not_false_eq_true, not_true_eq_false, Option.map_some, Option.map_none, Nat.zero_add, reduceCtorEq, Nat.reduceLeDiff, one_ne_zero_a, zero_ne_one_a, O, g3, nI_clamp (show j < 2 ^ 31 by omega), g4 j hj, Bool.true_and, rd]
    refine ⟨vp_in_nI (by omega) (by omega), ?_⟩
    cases hb : cb j
    · simp only [bB_f, if_true]; (first | trivial | exact ⟨rfl, rfl⟩ | exact ⟨rfl, trivial⟩ | exact ⟨rfl, rfl, trivial⟩ | rfl)
    · simp only [bB_t, one_ne_zero_a, if_false]; (first | trivial | exact ⟨rfl, rfl⟩ | exact ⟨rfl, trivial⟩ | exact ⟨rfl, rfl, trivial⟩ | rfl)
/-- the end of next: a column and a row are known -/
theorem m_next_end {Q : Option Value → aq_H → Prop} (O : iMo h w ht wr thr th rt ci st ex pl hd sg) (G : gMb h w ht wx wy cb wr mc) {c : Nat} (hc : c < w * ht) {d col row r : Int32}
    (hcr : (∃ C R : Nat, C < w ∧ R < ht ∧ col = nI C ∧ row = nI R ∧ r = (if R * w + C = c ∨ cb (R * w + C) = true then -1 else nI (R * w + C))) ∨ ((col < 0 ∨ nI w ≤ col ∨ row < 0 ∨ nI ht ≤ row) ∧ r = -1)) (hq : Q (some (.int r)) h) :
    aq_W e_X10_next Q 119 [some (.ref 47), some (.int (nI c)), some (.int d), some (.int col), some (.int row), none, none] [] h 0 0 := by
  have hn := wh_lt G.1
  obtain ⟨g1, g2, g3, g4⟩ := G
  unfold iMo at O
  simp only [s_X10_next_0, s_X10_next_1, s_X10_next_2, s_X10_next_5, s_X10_next_8, s_X10_next_9, s_X10_next_12, s_X10_next_13, s_X10_next_14, s_X10_next_17, s_X10_next_18, s_X10_next_19, s_X10_next_20, s_X10_next_21, s_X10_next_24, s_X10_next_25, s_X10_next_26, s_X10_next_27, s_X10_next_30, s_X10_next_31, s_X10_next_34, s_X10_next_35, s_X10_next_36, s_X10_next_39, s_X10_next_40, s_X10_next_43, s_X10_next_44, s_X10_next_45, s_X10_next_46, s_X10_next_47, s_X10_next_48, s_X10_next_51, s_X10_next_52, s_X10_next_53, s_X10_next_54, s_X10_next_57, s_X10_next_58, s_X10_next_61, s_X10_next_62, s_X10_next_65, s_X10_next_66, s_X10_next_69, s_X10_next_70, s_X10_next_71, s_X10_next_73, s_X10_next_74, s_X10_next_77, s_X10_next_78, s_X10_next_79, s_X10_next_80, s_X10_next_83, s_X10_next_84, s_X10_next_85, s_X10_next_88, s_X10_next_89, s_X10_next_90, s_X10_next_93, s_X10_next_94, s_X10_next_95, s_X10_next_96, s_X10_next_99, s_X10_next_100, s_X10_next_101, s_X10_next_102, s_X10_next_105, s_X10_next_107, s_X10_next_108, s_X10_next_111, s_X10_next_112, s_X10_next_113, s_X10_next_116, s_X10_next_117, s_X10_next_119, s_X10_next_120, s_X10_next_123, s_X10_next_124, s_X10_next_125, s_X10_next_128, s_X10_next_131, s_X10_next_133, s_X10_next_136, s_X10_next_138, s_X10_next_139, s_X10_next_142, s_X10_next_145, s_X10_next_146, s_X10_next_149, s_X10_next_150, s_X10_next_152, s_X10_next_154, s_X10_next_157, s_X10_next_159, s_X10_next_160, s_X10_next_163, s_X10_next_164, s_X10_next_165, s_X10_next_166, s_X10_next_169, s_X10_next_170, s_X10_next_172, s_X10_next_174, s_X10_next_175, s_X10_next_178, s_X10_next_180, s_X10_next_181, s_X10_next_184, s_X10_next_185, s_X10_next_188, s_X10_next_190, s_X10_next_191, s_X10_next_194, s_X10_next_195, s_X10_next_198, s_X10_next_200, aq_gI, aq_gL, aq_gA, aq_isA, aq_s1, aq_s2, aq_kill, aq_ob, aq_sm, aq_arI, aq_arB, aq_isB, aq_arL, aq_arA, aq_arN, aq_sh, Value.category, List.getElem?_cons_zero, List.getElem?_cons_succ, List.length_cons, List.length_nil, Option.toList_some, Option.toList_none, List.cons_append, List.nil_append, true_and, and_true, List.set_cons_zero, List.set_cons_succ, aq_n1, aq_n2, aq_n3, aq_n4, aq_f1, aq_f2, aq_f3, aq_f4, aq_gs, aq_ty1, aq_ty2, aq_ty3, aq_ty4, aq_ty5, Nat.reduceAdd, Nat.reduceLT, Nat.reduceEqDiff, Nat.reduceSub, if_true, if_false, ne_eq, not_false_eq_true, not_true_eq_false, Option.map_some, Option.map_none, Nat.zero_add, reduceCtorEq, Nat.reduceLeDiff, one_ne_zero_a, zero_ne_one_a, O]
  rcases hcr with ⟨C, R, hC, hR, rfl, rfl, rfl⟩ | ⟨ho, rfl⟩
  · have hm : R * w + C < w * ht := by
      have h1 : R * w + w ≤ ht * w := by rw [← Nat.succ_mul]; exact Nat.mul_le_mul_right w hR
      rw [Nat.mul_comm ht w] at h1
      omega
    have hne : ¬ nI (R * w + C) = -1 := nI_ne_m1 (by omega)
    simp only [nI_pos (show C < 2 ^ 31 by omega), nI_pos (show R < 2 ^ 31 by omega), nI_ge hC (show w < 2 ^ 31 by omega), nI_ge hR (show ht < 2 ^ 31 by omega), aq_gI, aq_gL, aq_gA, aq_isA, aq_s1, aq_s2, aq_kill, aq_ob, aq_sm, aq_arI, aq_arB, aq_isB, aq_arL, aq_arA, aq_arN, aq_sh, Value.category, List.getElem?_cons_zero, List.getElem?_cons_succ, List.length_cons, List.length_nil, Option.toList_some, Option.toList_none, List.cons_append, List.nil_append, true_and, and_true, List.set_cons_zero, List.set_cons_succ, aq_n1, aq_n2, aq_n3, aq_n4, aq_f1, aq_f2, aq_f3, aq_f4, aq_gs, aq_ty1, aq_ty2, aq_ty3, aq_ty4, aq_ty5, Nat.reduceAdd, Nat.reduceLT, Nat.reduceEqDiff, Nat.reduceSub, if_true, if_false, ne_eq, not_false_eq_true, not_true_eq_false, Option.map_some, Option.map_none, Nat.zero_add, reduceCtorEq, Nat.reduceLeDiff, one_ne_zero_a, zero_ne_one_a, pk_mul, nI_add, hne, g3, O, vp_in_nI (show R * w + C < 144 by omega) (show 144 < 2 ^ 31 by decide), nI_clamp (show R * w + C < 2 ^ 31 by omega), g4 _ hm]
    by_cases e : R * w + C = c
    · simp only [e, true_or, if_true] at hq ⊢
      exact hq
    · simp only [e, false_or] at hq
      have e2 : ¬ nI (R * w + C) = nI c := fun q => e ((nI_eq (by omega) (by omega)).mp q)
      simp only [e2, if_false]
      cases hb : cb (R * w + C) with
      | false => simp only [hb, Bool.false_eq_true, if_false] at hq; simp only [bB_f, if_true]; exact hq
      | true => simp only [hb, if_true] at hq; simp only [bB_t, one_ne_zero_a, if_false]; exact hq
  · have hne : ¬ (-1 : Int32) = nI c := fun q => nI_ne_m1 (show c < 2 ^ 31 by omega) q.symm
    by_cases h1 : col < 0
    · simp only [h1, aq_gI, aq_gL, aq_gA, aq_isA, aq_s1, aq_s2, aq_kill, aq_ob, aq_sm, aq_arI, aq_arB, aq_isB, aq_arL, aq_arA, aq_arN, aq_sh, Value.category, List.getElem?_cons_zero, List.getElem?_cons_succ, List.length_cons, List.length_nil, Option.toList_some, Option.toList_none, List.cons_append, List.nil_append, true_and, and_true, List.set_cons_zero, List.set_cons_succ, aq_n1, aq_n2, aq_n3, aq_n4, aq_f1, aq_f2, aq_f3, aq_f4, aq_gs, aq_ty1, aq_ty2, aq_ty3, aq_ty4, aq_ty5, Nat.reduceAdd, Nat.reduceLT, Nat.reduceEqDiff, Nat.reduceSub, if_true, if_false, ne_eq, not_false_eq_true, not_true_eq_false, Option.map_some, Option.map_none, Nat.zero_add, reduceCtorEq, Nat.reduceLeDiff, one_ne_zero_a, zero_ne_one_a, hne]; exact hq
    · by_cases h2 : nI w ≤ col
      · simp only [h1, h2, aq_gI, aq_gL, aq_gA, aq_isA, aq_s1, aq_s2, aq_kill, aq_ob, aq_sm, aq_arI, aq_arB, aq_isB, aq_arL, aq_arA, aq_arN, aq_sh, Value.category, List.getElem?_cons_zero, List.getElem?_cons_succ, List.length_cons, List.length_nil, Option.toList_some, Option.toList_none, List.cons_append, List.nil_append, true_and, and_true, List.set_cons_zero, List.set_cons_succ, aq_n1, aq_n2, aq_n3, aq_n4, aq_f1, aq_f2, aq_f3, aq_f4, aq_gs, aq_ty1, aq_ty2, aq_ty3, aq_ty4, aq_ty5, Nat.reduceAdd, Nat.reduceLT, Nat.reduceEqDiff, Nat.reduceSub, if_true, if_false, ne_eq, not_false_eq_true, not_true_eq_false, Option.map_some, Option.map_none, Nat.zero_add, reduceCtorEq, Nat.reduceLeDiff, one_ne_zero_a, zero_ne_one_a, hne]; exact hq
      · by_cases h3 : row < 0
        · simp only [h1, h2, h3, aq_gI, aq_gL, aq_gA, aq_isA, aq_s1, aq_s2, aq_kill, aq_ob, aq_sm, aq_arI, aq_arB, aq_isB, aq_arL, aq_arA, aq_arN, aq_sh, Value.category, List.getElem?_cons_zero, List.getElem?_cons_succ, List.length_cons, List.length_nil, Option.toList_some, Option.toList_none, List.cons_append, List.nil_append, true_and, and_true, List.set_cons_zero, List.set_cons_succ, aq_n1, aq_n2, aq_n3, aq_n4, aq_f1, aq_f2, aq_f3, aq_f4, aq_gs, aq_ty1, aq_ty2, aq_ty3, aq_ty4, aq_ty5, Nat.reduceAdd, Nat.reduceLT, Nat.reduceEqDiff, Nat.reduceSub, if_true, if_false, ne_eq, not_false_eq_true, not_true_eq_false, Option.map_some, Option.map_none, Nat.zero_add, reduceCtorEq, Nat.reduceLeDiff, one_ne_zero_a, zero_ne_one_a, hne]; exact hq
        · by_cases h4 : nI ht ≤ row
          · simp only [h1, h2, h3, h4, aq_gI, aq_gL, aq_gA, aq_isA, aq_s1, aq_s2, aq_kill, aq_ob, aq_sm, aq_arI, aq_arB, aq_isB, aq_arL, aq_arA, aq_arN, aq_sh, Value.category, List.getElem?_cons_zero, List.getElem?_cons_succ, List.length_cons, List.length_nil, Option.toList_some, Option.toList_none, List.cons_append, List.nil_append, true_and, and_true, List.set_cons_zero, List.set_cons_succ, aq_n1, aq_n2, aq_n3, aq_n4, aq_f1, aq_f2, aq_f3, aq_f4, aq_gs, aq_ty1, aq_ty2, aq_ty3, aq_ty4, aq_ty5, Nat.reduceAdd, Nat.reduceLT, Nat.reduceEqDiff, Nat.reduceSub, if_true, if_false, ne_eq, not_false_eq_true, not_true_eq_false, Option.map_some, Option.map_none, Nat.zero_add, reduceCtorEq, Nat.reduceLeDiff, one_ne_zero_a, zero_ne_one_a, hne]; exact hq
          · exfalso
            rcases ho with q | q | q | q
            · exact h1 q
            · exact h2 q
            · exact h3 q
            · exact h4 q
theorem nx_of_nb {c k m : Nat} (hc : cb c = false) (e : nb w ht wx wy c k = if m = c then none else some m) : oI (nx w ht wx wy cb c k) = if m = c ∨ cb m = true then -1 else nI m := by
  unfold nx
  rw [hc, e]
  simp only [Bool.false_eq_true, if_false]
  by_cases h1 : m = c
  · simp [h1, oI]
  · simp only [h1, if_false, false_or]
    split <;> rfl
theorem nx_of_none {c k : Nat} (e : nb w ht wx wy c k = none) : oI (nx w ht wx wy cb c k) = -1 := by
  unfold nx
  rw [e]
  split <;> rfl
theorem m_next (O : iMo h w ht wr thr th rt ci st ex pl hd sg) (G : gMb h w ht wx wy cb wr mc) (c d : Int32) : aq_T e_X10_next 7 0 0 [.ref 47, .int c, .int d] h (rd (NX w ht wx wy cb c d) h) := by
  have hn := wh_lt G.1
  have tt := m_stands O G c
  have hO := O
  have hG := G
  obtain ⟨g1, ⟨g2, g2'⟩, g3, g4⟩ := G
  unfold iMo at O
  refine ⟨Nat.le_of_ble_eq_true rfl, ?_⟩
  show aq_W _ _ 0 [some (.ref 47), some (.int c), some (.int d), none, none, none, none] [] _ _ _
  simp only [s_X10_next_0, s_X10_next_1, s_X10_next_2, aq_gI, aq_gL, aq_gA, aq_isA, aq_s1, aq_s2, aq_kill, aq_ob, aq_sm, aq_arI, aq_arB, aq_isB, aq_arL, aq_arA, aq_arN, aq_sh, Value.category, List.getElem?_cons_zero, List.getElem?_cons_succ, List.length_cons, List.length_nil, Option.toList_some, Option.toList_none, List.cons_append, List.nil_append, true_and, and_true, List.set_cons_zero, List.set_cons_succ, aq_n1, aq_n2, aq_n3, aq_n4, aq_f1, aq_f2, aq_f3, aq_f4, aq_gs, aq_ty1, aq_ty2, aq_ty3, aq_ty4, aq_ty5, Nat.reduceAdd, Nat.reduceLT, Nat.reduceEqDiff, Nat.reduceSub, if_true, if_false, ne_eq, not_false_eq_true, not_true_eq_false, Option.map_some, Option.map_none, Nat.zero_add, reduceCtorEq, Nat.reduceLeDiff, one_ne_zero_a, zero_ne_one_a, O]
  refine tt.use ?_
  rintro _ _ ⟨rfl, rfl⟩
  rcases inC_cs (w * ht) c (by omega) with hc | ⟨j, hj, rfl⟩
  · simp only [hc, Bool.false_and, bB_f, s_X10_next_0, s_X10_next_1, s_X10_next_2, s_X10_next_5, s_X10_next_8, s_X10_next_9, s_X10_next_12, s_X10_next_13, s_X10_next_14, s_X10_next_17, s_X10_next_18, aq_gI, aq_gL, aq_gA, aq_isA, aq_s1, aq_s2, aq_kill, aq_ob, aq_sm, aq_arI, aq_arB, aq_isB, aq_arL, aq_arA, aq_arN, aq_sh, Value.category, List.getElem?_cons_zero, List.getElem?_cons_succ, List.length_cons, List.length_nil, Option.toList_some, Option.toList_none, List.cons_append, List.nil_append, true_and, and_true, List.set_cons_zero, List.set_cons_succ, aq_n1, aq_n2, aq_n3, aq_n4, aq_f1, aq_f2, aq_f3, aq_f4, aq_gs, aq_ty1, aq_ty2, aq_ty3, aq_ty4, aq_ty5, Nat.reduceAdd, Nat.reduceLT, Nat.reduceEqDiff, Nat.reduceSub, if_true, if_false, ne_eq, not_false_eq_true, not_true_eq_false, Option.map_some, Option.map_none, Nat.zero_add, reduceCtorEq, Nat.reduceLeDiff, one_ne_zero_a, zero_ne_one_a, rd, NX_out (Or.inl hc)]
  · simp only [inC_nI hj (show w * ht < 2 ^ 31 by omega), nI_clamp (show j < 2 ^ 31 by omega), Bool.true_and]
    cases hb : cb j with
    | true =>
      have e : NX w ht wx wy cb (nI j) d = -1 := by
        unfold NX
        rw [nI_clamp (show j < 2 ^ 31 by omega)]
        unfold nx
        rw [hb]
        split <;> rfl
      simp only [Bool.not_true, bB_f, s_X10_next_0, s_X10_next_1, s_X10_next_2, s_X10_next_5, s_X10_next_8, s_X10_next_9, s_X10_next_12, s_X10_next_13, s_X10_next_14, s_X10_next_17, s_X10_next_18, aq_gI, aq_gL, aq_gA, aq_isA, aq_s1, aq_s2, aq_kill, aq_ob, aq_sm, aq_arI, aq_arB, aq_isB, aq_arL, aq_arA, aq_arN, aq_sh, Value.category, List.getElem?_cons_zero, List.getElem?_cons_succ, List.length_cons, List.length_nil, Option.toList_some, Option.toList_none, List.cons_append, List.nil_append, true_and, and_true, List.set_cons_zero, List.set_cons_succ, aq_n1, aq_n2, aq_n3, aq_n4, aq_f1, aq_f2, aq_f3, aq_f4, aq_gs, aq_ty1, aq_ty2, aq_ty3, aq_ty4, aq_ty5, Nat.reduceAdd, Nat.reduceLT, Nat.reduceEqDiff, Nat.reduceSub, if_true, if_false, ne_eq, not_false_eq_true, not_true_eq_false, Option.map_some, Option.map_none, Nat.zero_add, reduceCtorEq, Nat.reduceLeDiff, one_ne_zero_a, zero_ne_one_a, rd, e]
    | false =>
      simp only [Bool.not_false, bB_t, s_X10_next_0, s_X10_next_1, s_X10_next_2, s_X10_next_5, s_X10_next_8, s_X10_next_9, s_X10_next_12, s_X10_next_13, s_X10_next_14, s_X10_next_17, s_X10_next_18, aq_gI, aq_gL, aq_gA, aq_isA, aq_s1, aq_s2, aq_kill, aq_ob, aq_sm, aq_arI, aq_arB, aq_isB, aq_arL, aq_arA, aq_arN, aq_sh, Value.category, List.getElem?_cons_zero, List.getElem?_cons_succ, List.length_cons, List.length_nil, Option.toList_some, Option.toList_none, List.cons_append, List.nil_append, true_and, and_true, List.set_cons_zero, List.set_cons_succ, aq_n1, aq_n2, aq_n3, aq_n4, aq_f1, aq_f2, aq_f3, aq_f4, aq_gs, aq_ty1, aq_ty2, aq_ty3, aq_ty4, aq_ty5, Nat.reduceAdd, Nat.reduceLT, Nat.reduceEqDiff, Nat.reduceSub, if_true, if_false, ne_eq, not_false_eq_true, not_true_eq_false, Option.map_some, Option.map_none, Nat.zero_add, reduceCtorEq, Nat.reduceLeDiff, one_ne_zero_a, zero_ne_one_a]
      rcases inC_cs 4 d (by omega) with hd | ⟨k, hk, rfl⟩
      · rw [NX_out (Or.inr hd)]
        rcases inC_out hd with h1 | ⟨h1, h2⟩
        · simp only [h1, if_true, rd]; (first | trivial | exact ⟨rfl, rfl⟩ | exact ⟨rfl, trivial⟩ | exact ⟨rfl, rfl, trivial⟩ | rfl)
        · have h3 : ¬ d ≤ 3 := by
            intro q
            rw [← nI_4] at h2
            exact absurd (Int32.le_trans h2 q) (by decide)
          simp only [h1, h3, if_false, rd]; (first | trivial | exact ⟨rfl, rfl⟩ | exact ⟨rfl, trivial⟩ | exact ⟨rfl, rfl, trivial⟩ | rfl)
      · rw [NX_in hj (by omega) hk]
        have hX : j % w < w := Nat.mod_lt _ g1.1
        have hY : j / w < ht := Nat.div_lt_of_lt_mul hj
        have hjj : j / w * w + j % w = j := by rw [Nat.mul_comm]; exact Nat.div_add_mod j w
        have hw0 : ¬ nI w = 0 := nI_ne0 g1.1 (by omega)
        have hh0 : ¬ nI ht = 0 := nI_ne0 g1.2.2.1 (by omega)
        have er := pk_rem (show j < 2 ^ 31 by omega) g1.1 (show w < 2 ^ 31 by omega)
        have ed := pk_div (show j < 2 ^ 31 by omega) g1.1 (show w < 2 ^ 31 by omega)
        have er2 : nI j - nI (j / w) * nI w = nI (j % w) := by rw [← ed]; exact er
        have lt3 : nI k ≤ 3 := by rw [nI_3]; exact nI_le (by omega) (by decide)
        simp only [nI_pos (show k < 2 ^ 31 by omega), lt3, if_true, if_false]
        have inn : ∀ (C R : Nat) (col row : Int32), C < w → R < ht → col = nI C → row = nI R → nb w ht wx wy j k = (if R * w + C = j then none else some (R * w + C)) → aq_W e_X10_next (rd (oI (nx w ht wx wy cb j k)) _) 119 [some (.ref 47), some (.int (nI j)), some (.int (nI k)), some (.int col), some (.int row), none, none] [] _ 0 0 := fun C R col row h1 h2 h3 h4 e => m_next_end hO hG hj (Or.inl ⟨C, R, h1, h2, h3, h4, nx_of_nb hb e⟩) ⟨rfl, rfl⟩
        have out : ∀ (col row : Int32), (col < 0 ∨ nI w ≤ col ∨ row < 0 ∨ nI ht ≤ row) → nb w ht wx wy j k = none → aq_W e_X10_next (rd (oI (nx w ht wx wy cb j k)) _) 119 [some (.ref 47), some (.int (nI j)), some (.int (nI k)), some (.int col), some (.int row), none, none] [] _ 0 0 := fun col row h1 e => m_next_end hO hG hj (Or.inr ⟨h1, nx_of_none e⟩) ⟨rfl, rfl⟩
        have n01 : ¬ nI 0 = 1 := by decide
        have n03 : ¬ nI 0 = 3 := by decide
        have n02 : ¬ nI 0 = 2 := by decide
        have n00 : nI 0 = 0 := by decide
        have n11 : nI 1 = 1 := by decide
        have n12 : ¬ nI 1 = 2 := by decide
        have n10 : ¬ nI 1 = 0 := by decide
        have n21 : ¬ nI 2 = 1 := by decide
        have n23 : ¬ nI 2 = 3 := by decide
        have n22 : nI 2 = 2 := by decide
        have n31 : ¬ nI 3 = 1 := by decide
        have n33 : nI 3 = 3 := by decide
        have n32 : ¬ nI 3 = 2 := by decide
        have n30 : ¬ nI 3 = 0 := by decide
        have d1 : k = 0 ∨ k = 1 ∨ k = 2 ∨ k = 3 := by omega
        have aY : (j / w - 1) * w = j / w * w - w := by rw [Nat.sub_mul, Nat.one_mul]
        have aH : (ht - 1) * w = w * ht - w := by rw [Nat.sub_mul, Nat.one_mul, Nat.mul_comm]
        have aS : (j / w + 1) * w = j / w * w + w := by rw [Nat.add_mul, Nat.one_mul]
        have aW : 0 < j / w → w ≤ j / w * w := fun q => Nat.le_mul_of_pos_left w q
        have aT : w ≤ w * ht := Nat.le_mul_of_pos_right w g1.2.2.1
        have aL : j / w * w + w ≤ w * ht := by rw [← aS, Nat.mul_comm w ht]; exact Nat.mul_le_mul_right w hY
        have a1 : ht ≠ 1 → w < w * ht := fun q => by
          have : w * 2 ≤ w * ht := Nat.mul_le_mul_left w (by omega)
          omega
        have aE : ht = 1 → w * ht = w := fun q => by rw [q, Nat.mul_one]
        have a0 : j / w = 0 → j / w * w = 0 := fun q => by rw [q, Nat.zero_mul]
        have aF : ¬ j / w + 1 < ht → j / w * w = w * ht - w := fun q => by rw [← aH, show ht - 1 = j / w by omega]
        have cm1 : ∀ x : Nat, 0 < x → nI x + (-1) = nI (x - 1) := fun x q => by rw [← pk_m1 (x - 1), show x - 1 + 1 = x by omega]
        have z1 : ∀ x : Nat, ¬ 0 < x → nI x + (-1) < 0 := fun x q => by rw [show x = 0 by omega]; decide
        have eN0 : nb w ht wx wy j 0 = (if 0 < j / w then some (j - w) else if wy = true ∧ ht ≠ 1 then some (j + w * ht - w) else none) := rfl
        have eN1 : nb w ht wx wy j 1 = (if j % w + 1 < w then some (j + 1) else if wx = true ∧ w ≠ 1 then some (j + 1 - w) else none) := rfl
        have eN2 : nb w ht wx wy j 2 = (if j / w + 1 < ht then some (j + w) else if wy = true ∧ ht ≠ 1 then some (j + w - w * ht) else none) := rfl
        have eN3 : nb w ht wx wy j 3 = (if 0 < j % w then some (j - 1) else if wx = true ∧ w ≠ 1 then some (j + w - 1) else none) := rfl
        generalize j / w = Y at *
        generalize j % w = X at *
        rcases d1 with rfl | rfl | rfl | rfl
        · have eN := eN0
          simp only [s_X10_next_0, s_X10_next_1, s_X10_next_2, s_X10_next_5, s_X10_next_8, s_X10_next_9, s_X10_next_12, s_X10_next_13, s_X10_next_14, s_X10_next_17, s_X10_next_18, s_X10_next_19, s_X10_next_20, s_X10_next_21, s_X10_next_24, s_X10_next_25, s_X10_next_26, s_X10_next_27, s_X10_next_30, s_X10_next_31, s_X10_next_34, s_X10_next_35, s_X10_next_36, s_X10_next_39, s_X10_next_40, s_X10_next_43, s_X10_next_44, s_X10_next_45, s_X10_next_46, s_X10_next_47, s_X10_next_48, s_X10_next_51, s_X10_next_52, s_X10_next_53, s_X10_next_54, s_X10_next_57, s_X10_next_58, s_X10_next_61, s_X10_next_62, s_X10_next_65, s_X10_next_66, s_X10_next_69, s_X10_next_70, s_X10_next_71, s_X10_next_73, s_X10_next_74, s_X10_next_77, s_X10_next_78, s_X10_next_79, s_X10_next_80, s_X10_next_83, s_X10_next_84, s_X10_next_85, s_X10_next_88, s_X10_next_89, s_X10_next_90, s_X10_next_93, s_X10_next_94, s_X10_next_95, s_X10_next_96, s_X10_next_99, s_X10_next_100, s_X10_next_101, s_X10_next_102, s_X10_next_105, s_X10_next_107, s_X10_next_108, s_X10_next_111, s_X10_next_112, s_X10_next_113, s_X10_next_116, s_X10_next_117, aq_gI, aq_gL, aq_gA, aq_isA, aq_s1, aq_s2, aq_kill, aq_ob, aq_sm, aq_arI, aq_arB, aq_isB, aq_arL, aq_arA, aq_arN, aq_sh, Value.category, List.getElem?_cons_zero, List.getElem?_cons_succ, List.length_cons, List.length_nil, Option.toList_some, Option.toList_none, List.cons_append, List.nil_append, true_and, and_true, List.set_cons_zero, List.set_cons_succ, aq_n1, aq_n2, aq_n3, aq_n4, aq_f1, aq_f2, aq_f3, aq_f4, aq_gs, aq_ty1, aq_ty2, aq_ty3, aq_ty4, aq_ty5, Nat.reduceAdd, Nat.reduceLT, Nat.reduceEqDiff, Nat.reduceSub, if_true, if_false, ne_eq, not_false_eq_true, not_true_eq_false, Option.map_some, Option.map_none, Nat.zero_add, reduceCtorEq, Nat.reduceLeDiff, one_ne_zero_a, zero_ne_one_a, O, hw0, hh0, er, er2, ed, n01, n03, n02, n00, n0a]
          by_cases q1 : wr &&& 1 = 1 <;> by_cases q2 : wr &&& 2 = 2 <;> simp only [q1, q2, s_X10_next_0, s_X10_next_1, s_X10_next_2, s_X10_next_5, s_X10_next_8, s_X10_next_9, s_X10_next_12, s_X10_next_13, s_X10_next_14, s_X10_next_17, s_X10_next_18, s_X10_next_19, s_X10_next_20, s_X10_next_21, s_X10_next_24, s_X10_next_25, s_X10_next_26, s_X10_next_27, s_X10_next_30, s_X10_next_31, s_X10_next_34, s_X10_next_35, s_X10_next_36, s_X10_next_39, s_X10_next_40, s_X10_next_43, s_X10_next_44, s_X10_next_45, s_X10_next_46, s_X10_next_47, s_X10_next_48, s_X10_next_51, s_X10_next_52, s_X10_next_53, s_X10_next_54, s_X10_next_57, s_X10_next_58, s_X10_next_61, s_X10_next_62, s_X10_next_65, s_X10_next_66, s_X10_next_69, s_X10_next_70, s_X10_next_71, s_X10_next_73, s_X10_next_74, s_X10_next_77, s_X10_next_78, s_X10_next_79, s_X10_next_80, s_X10_next_83, s_X10_next_84, s_X10_next_85, s_X10_next_88, s_X10_next_89, s_X10_next_90, s_X10_next_93, s_X10_next_94, s_X10_next_95, s_X10_next_96, s_X10_next_99, s_X10_next_100, s_X10_next_101, s_X10_next_102, s_X10_next_105, s_X10_next_107, s_X10_next_108, s_X10_next_111, s_X10_next_112, s_X10_next_113, s_X10_next_116, s_X10_next_117, aq_gI, aq_gL, aq_gA, aq_isA, aq_s1, aq_s2, aq_kill, aq_ob, aq_sm, aq_arI, aq_arB, aq_isB, aq_arL, aq_arA, aq_arN, aq_sh, Value.category, List.getElem?_cons_zero, List.getElem?_cons_succ, List.length_cons, List.length_nil, Option.toList_some, Option.toList_none, List.cons_append, List.nil_append, true_and, and_true, List.set_cons_zero, List.set_cons_succ, aq_n1, aq_n2, aq_n3, aq_n4, aq_f1, aq_f2, aq_f3, aq_f4, aq_gs, aq_ty1, aq_ty2, aq_ty3, aq_ty4, aq_ty5, Nat.reduceAdd, Nat.reduceLT, Nat.reduceEqDiff, Nat.reduceSub, if_true, if_false, ne_eq, not_false_eq_true, not_true_eq_false, Option.map_some, Option.map_none, Nat.zero_add, reduceCtorEq, Nat.reduceLeDiff, one_ne_zero_a, zero_ne_one_a, O, hw0, hh0, wp_0 g1.1 g1.2.1 hX, wp_m g1.2.2.1 g1.2.2.2 hY]
          all_goals by_cases p : 0 < Y
          all_goals first
            | exact inn (X) (Y - 1) _ _ hX (by omega) rfl (by first | rw [if_pos p] | rw [cm1 _ p]) (by rw [eN, if_pos p, aY, if_neg (by have := aW p; omega)]; congr 1; have := aW p; omega)
            | exact inn (X) (ht - 1) _ _ hX (by omega) rfl (by rw [if_neg p]) (by
                have := a0 (by omega)
                rw [eN, if_neg p, aH]
                by_cases o : ht = 1
                · have := aE o
                  rw [if_neg (by rintro ⟨_, q⟩; exact q o), if_pos (by omega)]
                · have := a1 o
                  rw [if_pos ⟨g2'.mp q2, o⟩, if_neg (by omega)]; congr 1; omega)
            | exact out _ _ (Or.inr (Or.inr (Or.inl (by rw [show Y = 0 by omega]; decide)))) (by rw [eN, if_neg p, if_neg (by rintro ⟨q, _⟩; exact q2 (g2'.mpr q))])
        · have eN := eN1
          simp only [s_X10_next_0, s_X10_next_1, s_X10_next_2, s_X10_next_5, s_X10_next_8, s_X10_next_9, s_X10_next_12, s_X10_next_13, s_X10_next_14, s_X10_next_17, s_X10_next_18, s_X10_next_19, s_X10_next_20, s_X10_next_21, s_X10_next_24, s_X10_next_25, s_X10_next_26, s_X10_next_27, s_X10_next_30, s_X10_next_31, s_X10_next_34, s_X10_next_35, s_X10_next_36, s_X10_next_39, s_X10_next_40, s_X10_next_43, s_X10_next_44, s_X10_next_45, s_X10_next_46, s_X10_next_47, s_X10_next_48, s_X10_next_51, s_X10_next_52, s_X10_next_53, s_X10_next_54, s_X10_next_57, s_X10_next_58, s_X10_next_61, s_X10_next_62, s_X10_next_65, s_X10_next_66, s_X10_next_69, s_X10_next_70, s_X10_next_71, s_X10_next_73, s_X10_next_74, s_X10_next_77, s_X10_next_78, s_X10_next_79, s_X10_next_80, s_X10_next_83, s_X10_next_84, s_X10_next_85, s_X10_next_88, s_X10_next_89, s_X10_next_90, s_X10_next_93, s_X10_next_94, s_X10_next_95, s_X10_next_96, s_X10_next_99, s_X10_next_100, s_X10_next_101, s_X10_next_102, s_X10_next_105, s_X10_next_107, s_X10_next_108, s_X10_next_111, s_X10_next_112, s_X10_next_113, s_X10_next_116, s_X10_next_117, aq_gI, aq_gL, aq_gA, aq_isA, aq_s1, aq_s2, aq_kill, aq_ob, aq_sm, aq_arI, aq_arB, aq_isB, aq_arL, aq_arA, aq_arN, aq_sh, Value.category, List.getElem?_cons_zero, List.getElem?_cons_succ, List.length_cons, List.length_nil, Option.toList_some, Option.toList_none, List.cons_append, List.nil_append, true_and, and_true, List.set_cons_zero, List.set_cons_succ, aq_n1, aq_n2, aq_n3, aq_n4, aq_f1, aq_f2, aq_f3, aq_f4, aq_gs, aq_ty1, aq_ty2, aq_ty3, aq_ty4, aq_ty5, Nat.reduceAdd, Nat.reduceLT, Nat.reduceEqDiff, Nat.reduceSub, if_true, if_false, ne_eq, not_false_eq_true, not_true_eq_false, Option.map_some, Option.map_none, Nat.zero_add, reduceCtorEq, Nat.reduceLeDiff, one_ne_zero_a, zero_ne_one_a, O, hw0, hh0, er, er2, ed, n11, n12, n10, n0a, nI_1]
          by_cases q1 : wr &&& 1 = 1 <;> by_cases q2 : wr &&& 2 = 2 <;> simp only [q1, q2, s_X10_next_0, s_X10_next_1, s_X10_next_2, s_X10_next_5, s_X10_next_8, s_X10_next_9, s_X10_next_12, s_X10_next_13, s_X10_next_14, s_X10_next_17, s_X10_next_18, s_X10_next_19, s_X10_next_20, s_X10_next_21, s_X10_next_24, s_X10_next_25, s_X10_next_26, s_X10_next_27, s_X10_next_30, s_X10_next_31, s_X10_next_34, s_X10_next_35, s_X10_next_36, s_X10_next_39, s_X10_next_40, s_X10_next_43, s_X10_next_44, s_X10_next_45, s_X10_next_46, s_X10_next_47, s_X10_next_48, s_X10_next_51, s_X10_next_52, s_X10_next_53, s_X10_next_54, s_X10_next_57, s_X10_next_58, s_X10_next_61, s_X10_next_62, s_X10_next_65, s_X10_next_66, s_X10_next_69, s_X10_next_70, s_X10_next_71, s_X10_next_73, s_X10_next_74, s_X10_next_77, s_X10_next_78, s_X10_next_79, s_X10_next_80, s_X10_next_83, s_X10_next_84, s_X10_next_85, s_X10_next_88, s_X10_next_89, s_X10_next_90, s_X10_next_93, s_X10_next_94, s_X10_next_95, s_X10_next_96, s_X10_next_99, s_X10_next_100, s_X10_next_101, s_X10_next_102, s_X10_next_105, s_X10_next_107, s_X10_next_108, s_X10_next_111, s_X10_next_112, s_X10_next_113, s_X10_next_116, s_X10_next_117, aq_gI, aq_gL, aq_gA, aq_isA, aq_s1, aq_s2, aq_kill, aq_ob, aq_sm, aq_arI, aq_arB, aq_isB, aq_arL, aq_arA, aq_arN, aq_sh, Value.category, List.getElem?_cons_zero, List.getElem?_cons_succ, List.length_cons, List.length_nil, Option.toList_some, Option.toList_none, List.cons_append, List.nil_append, true_and, and_true, List.set_cons_zero, List.set_cons_succ, aq_n1, aq_n2, aq_n3, aq_n4, aq_f1, aq_f2, aq_f3, aq_f4, aq_gs, aq_ty1, aq_ty2, aq_ty3, aq_ty4, aq_ty5, Nat.reduceAdd, Nat.reduceLT, Nat.reduceEqDiff, Nat.reduceSub, if_true, if_false, ne_eq, not_false_eq_true, not_true_eq_false, Option.map_some, Option.map_none, Nat.zero_add, reduceCtorEq, Nat.reduceLeDiff, one_ne_zero_a, zero_ne_one_a, O, hw0, hh0, wp_0 g1.2.2.1 g1.2.2.2 hY, wp_p g1.1 g1.2.1 hX]
          all_goals by_cases p : X + 1 < w
          all_goals first
            | exact inn (X + 1) (Y) _ _ p hY (by first | rw [if_pos p] | rfl) rfl (by rw [eN, if_pos p, if_neg (by omega)]; congr 1; omega)
            | exact inn 0 (Y) _ _ g1.1 hY (by rw [if_neg p]) rfl (by
                rw [eN, if_neg p]
                by_cases o : w = 1
                · rw [if_neg (by rintro ⟨_, q⟩; exact q o), if_pos (by omega)]
                · rw [if_pos ⟨g2.mp q1, o⟩, if_neg (by omega)]; congr 1; omega)
            | exact out _ _ (Or.inr (Or.inl (by rw [show X + 1 = w by omega]; exact nI_le (Nat.le_refl _) (by omega)))) (by rw [eN, if_neg p, if_neg (by rintro ⟨q, _⟩; exact q1 (g2.mpr q))])
        · have eN := eN2
          simp only [s_X10_next_0, s_X10_next_1, s_X10_next_2, s_X10_next_5, s_X10_next_8, s_X10_next_9, s_X10_next_12, s_X10_next_13, s_X10_next_14, s_X10_next_17, s_X10_next_18, s_X10_next_19, s_X10_next_20, s_X10_next_21, s_X10_next_24, s_X10_next_25, s_X10_next_26, s_X10_next_27, s_X10_next_30, s_X10_next_31, s_X10_next_34, s_X10_next_35, s_X10_next_36, s_X10_next_39, s_X10_next_40, s_X10_next_43, s_X10_next_44, s_X10_next_45, s_X10_next_46, s_X10_next_47, s_X10_next_48, s_X10_next_51, s_X10_next_52, s_X10_next_53, s_X10_next_54, s_X10_next_57, s_X10_next_58, s_X10_next_61, s_X10_next_62, s_X10_next_65, s_X10_next_66, s_X10_next_69, s_X10_next_70, s_X10_next_71, s_X10_next_73, s_X10_next_74, s_X10_next_77, s_X10_next_78, s_X10_next_79, s_X10_next_80, s_X10_next_83, s_X10_next_84, s_X10_next_85, s_X10_next_88, s_X10_next_89, s_X10_next_90, s_X10_next_93, s_X10_next_94, s_X10_next_95, s_X10_next_96, s_X10_next_99, s_X10_next_100, s_X10_next_101, s_X10_next_102, s_X10_next_105, s_X10_next_107, s_X10_next_108, s_X10_next_111, s_X10_next_112, s_X10_next_113, s_X10_next_116, s_X10_next_117, aq_gI, aq_gL, aq_gA, aq_isA, aq_s1, aq_s2, aq_kill, aq_ob, aq_sm, aq_arI, aq_arB, aq_isB, aq_arL, aq_arA, aq_arN, aq_sh, Value.category, List.getElem?_cons_zero, List.getElem?_cons_succ, List.length_cons, List.length_nil, Option.toList_some, Option.toList_none, List.cons_append, List.nil_append, true_and, and_true, List.set_cons_zero, List.set_cons_succ, aq_n1, aq_n2, aq_n3, aq_n4, aq_f1, aq_f2, aq_f3, aq_f4, aq_gs, aq_ty1, aq_ty2, aq_ty3, aq_ty4, aq_ty5, Nat.reduceAdd, Nat.reduceLT, Nat.reduceEqDiff, Nat.reduceSub, if_true, if_false, ne_eq, not_false_eq_true, not_true_eq_false, Option.map_some, Option.map_none, Nat.zero_add, reduceCtorEq, Nat.reduceLeDiff, one_ne_zero_a, zero_ne_one_a, O, hw0, hh0, er, er2, ed, n21, n23, n22, n0a, nI_1]
          by_cases q1 : wr &&& 1 = 1 <;> by_cases q2 : wr &&& 2 = 2 <;> simp only [q1, q2, s_X10_next_0, s_X10_next_1, s_X10_next_2, s_X10_next_5, s_X10_next_8, s_X10_next_9, s_X10_next_12, s_X10_next_13, s_X10_next_14, s_X10_next_17, s_X10_next_18, s_X10_next_19, s_X10_next_20, s_X10_next_21, s_X10_next_24, s_X10_next_25, s_X10_next_26, s_X10_next_27, s_X10_next_30, s_X10_next_31, s_X10_next_34, s_X10_next_35, s_X10_next_36, s_X10_next_39, s_X10_next_40, s_X10_next_43, s_X10_next_44, s_X10_next_45, s_X10_next_46, s_X10_next_47, s_X10_next_48, s_X10_next_51, s_X10_next_52, s_X10_next_53, s_X10_next_54, s_X10_next_57, s_X10_next_58, s_X10_next_61, s_X10_next_62, s_X10_next_65, s_X10_next_66, s_X10_next_69, s_X10_next_70, s_X10_next_71, s_X10_next_73, s_X10_next_74, s_X10_next_77, s_X10_next_78, s_X10_next_79, s_X10_next_80, s_X10_next_83, s_X10_next_84, s_X10_next_85, s_X10_next_88, s_X10_next_89, s_X10_next_90, s_X10_next_93, s_X10_next_94, s_X10_next_95, s_X10_next_96, s_X10_next_99, s_X10_next_100, s_X10_next_101, s_X10_next_102, s_X10_next_105, s_X10_next_107, s_X10_next_108, s_X10_next_111, s_X10_next_112, s_X10_next_113, s_X10_next_116, s_X10_next_117, aq_gI, aq_gL, aq_gA, aq_isA, aq_s1, aq_s2, aq_kill, aq_ob, aq_sm, aq_arI, aq_arB, aq_isB, aq_arL, aq_arA, aq_arN, aq_sh, Value.category, List.getElem?_cons_zero, List.getElem?_cons_succ, List.length_cons, List.length_nil, Option.toList_some, Option.toList_none, List.cons_append, List.nil_append, true_and, and_true, List.set_cons_zero, List.set_cons_succ, aq_n1, aq_n2, aq_n3, aq_n4, aq_f1, aq_f2, aq_f3, aq_f4, aq_gs, aq_ty1, aq_ty2, aq_ty3, aq_ty4, aq_ty5, Nat.reduceAdd, Nat.reduceLT, Nat.reduceEqDiff, Nat.reduceSub, if_true, if_false, ne_eq, not_false_eq_true, not_true_eq_false, Option.map_some, Option.map_none, Nat.zero_add, reduceCtorEq, Nat.reduceLeDiff, one_ne_zero_a, zero_ne_one_a, O, hw0, hh0, wp_0 g1.1 g1.2.1 hX, wp_p g1.2.2.1 g1.2.2.2 hY]
          all_goals by_cases p : Y + 1 < ht
          all_goals first
            | exact inn (X) (Y + 1) _ _ hX p rfl (by first | rw [if_pos p] | rfl) (by rw [eN, if_pos p, aS, if_neg (by omega)]; congr 1; omega)
            | exact inn (X) 0 _ _ hX g1.2.2.1 rfl (by rw [if_neg p]) (by
                have := aF p
                rw [eN, if_neg p, Nat.zero_mul]
                by_cases o : ht = 1
                · have := aE o
                  rw [if_neg (by rintro ⟨_, q⟩; exact q o), if_pos (by omega)]
                · have := a1 o
                  rw [if_pos ⟨g2'.mp q2, o⟩, if_neg (by omega)]; congr 1; omega)
            | exact out _ _ (Or.inr (Or.inr (Or.inr (by rw [show Y + 1 = ht by omega]; exact nI_le (Nat.le_refl _) (by omega))))) (by rw [eN, if_neg p, if_neg (by rintro ⟨q, _⟩; exact q2 (g2'.mpr q))])
        · have eN := eN3
          simp only [s_X10_next_0, s_X10_next_1, s_X10_next_2, s_X10_next_5, s_X10_next_8, s_X10_next_9, s_X10_next_12, s_X10_next_13, s_X10_next_14, s_X10_next_17, s_X10_next_18, s_X10_next_19, s_X10_next_20, s_X10_next_21, s_X10_next_24, s_X10_next_25, s_X10_next_26, s_X10_next_27, s_X10_next_30, s_X10_next_31, s_X10_next_34, s_X10_next_35, s_X10_next_36, s_X10_next_39, s_X10_next_40, s_X10_next_43, s_X10_next_44, s_X10_next_45, s_X10_next_46, s_X10_next_47, s_X10_next_48, s_X10_next_51, s_X10_next_52, s_X10_next_53, s_X10_next_54, s_X10_next_57, s_X10_next_58, s_X10_next_61, s_X10_next_62, s_X10_next_65, s_X10_next_66, s_X10_next_69, s_X10_next_70, s_X10_next_71, s_X10_next_73, s_X10_next_74, s_X10_next_77, s_X10_next_78, s_X10_next_79, s_X10_next_80, s_X10_next_83, s_X10_next_84, s_X10_next_85, s_X10_next_88, s_X10_next_89, s_X10_next_90, s_X10_next_93, s_X10_next_94, s_X10_next_95, s_X10_next_96, s_X10_next_99, s_X10_next_100, s_X10_next_101, s_X10_next_102, s_X10_next_105, s_X10_next_107, s_X10_next_108, s_X10_next_111, s_X10_next_112, s_X10_next_113, s_X10_next_116, s_X10_next_117, aq_gI, aq_gL, aq_gA, aq_isA, aq_s1, aq_s2, aq_kill, aq_ob, aq_sm, aq_arI, aq_arB, aq_isB, aq_arL, aq_arA, aq_arN, aq_sh, Value.category, List.getElem?_cons_zero, List.getElem?_cons_succ, List.length_cons, List.length_nil, Option.toList_some, Option.toList_none, List.cons_append, List.nil_append, true_and, and_true, List.set_cons_zero, List.set_cons_succ, aq_n1, aq_n2, aq_n3, aq_n4, aq_f1, aq_f2, aq_f3, aq_f4, aq_gs, aq_ty1, aq_ty2, aq_ty3, aq_ty4, aq_ty5, Nat.reduceAdd, Nat.reduceLT, Nat.reduceEqDiff, Nat.reduceSub, if_true, if_false, ne_eq, not_false_eq_true, not_true_eq_false, Option.map_some, Option.map_none, Nat.zero_add, reduceCtorEq, Nat.reduceLeDiff, one_ne_zero_a, zero_ne_one_a, O, hw0, hh0, er, er2, ed, n31, n33, n32, n30, n0a]
          by_cases q1 : wr &&& 1 = 1 <;> by_cases q2 : wr &&& 2 = 2 <;> simp only [q1, q2, s_X10_next_0, s_X10_next_1, s_X10_next_2, s_X10_next_5, s_X10_next_8, s_X10_next_9, s_X10_next_12, s_X10_next_13, s_X10_next_14, s_X10_next_17, s_X10_next_18, s_X10_next_19, s_X10_next_20, s_X10_next_21, s_X10_next_24, s_X10_next_25, s_X10_next_26, s_X10_next_27, s_X10_next_30, s_X10_next_31, s_X10_next_34, s_X10_next_35, s_X10_next_36, s_X10_next_39, s_X10_next_40, s_X10_next_43, s_X10_next_44, s_X10_next_45, s_X10_next_46, s_X10_next_47, s_X10_next_48, s_X10_next_51, s_X10_next_52, s_X10_next_53, s_X10_next_54, s_X10_next_57, s_X10_next_58, s_X10_next_61, s_X10_next_62, s_X10_next_65, s_X10_next_66, s_X10_next_69, s_X10_next_70, s_X10_next_71, s_X10_next_73, s_X10_next_74, s_X10_next_77, s_X10_next_78, s_X10_next_79, s_X10_next_80, s_X10_next_83, s_X10_next_84, s_X10_next_85, s_X10_next_88, s_X10_next_89, s_X10_next_90, s_X10_next_93, s_X10_next_94, s_X10_next_95, s_X10_next_96, s_X10_next_99, s_X10_next_100, s_X10_next_101, s_X10_next_102, s_X10_next_105, s_X10_next_107, s_X10_next_108, s_X10_next_111, s_X10_next_112, s_X10_next_113, s_X10_next_116, s_X10_next_117, aq_gI, aq_gL, aq_gA, aq_isA, aq_s1, aq_s2, aq_kill, aq_ob, aq_sm, aq_arI, aq_arB, aq_isB, aq_arL, aq_arA, aq_arN, aq_sh, Value.category, List.getElem?_cons_zero, List.getElem?_cons_succ, List.length_cons, List.length_nil, Option.toList_some, Option.toList_none, List.cons_append, List.nil_append, true_and, and_true, List.set_cons_zero, List.set_cons_succ, aq_n1, aq_n2, aq_n3, aq_n4, aq_f1, aq_f2, aq_f3, aq_f4, aq_gs, aq_ty1, aq_ty2, aq_ty3, aq_ty4, aq_ty5, Nat.reduceAdd, Nat.reduceLT, Nat.reduceEqDiff, Nat.reduceSub, if_true, if_false, ne_eq, not_false_eq_true, not_true_eq_false, Option.map_some, Option.map_none, Nat.zero_add, reduceCtorEq, Nat.reduceLeDiff, one_ne_zero_a, zero_ne_one_a, O, hw0, hh0, wp_0 g1.2.2.1 g1.2.2.2 hY, wp_m g1.1 g1.2.1 hX]
          all_goals by_cases p : 0 < X
          all_goals first
            | exact inn (X - 1) (Y) _ _ (by omega) hY (by first | rw [if_pos p] | rw [cm1 _ p]) rfl (by rw [eN, if_pos p, if_neg (by omega)]; congr 1; omega)
            | exact inn (w - 1) (Y) _ _ (by omega) hY (by rw [if_neg p]) rfl (by
                rw [eN, if_neg p]
                by_cases o : w = 1
                · rw [if_neg (by rintro ⟨_, q⟩; exact q o), if_pos (by omega)]
                · rw [if_pos ⟨g2.mp q1, o⟩, if_neg (by omega)]; congr 1; omega)
            | exact out _ _ (Or.inl (by rw [show X = 0 by omega]; decide)) (by rw [eN, if_neg p, if_neg (by rintro ⟨q, _⟩; exact q1 (g2.mpr q))])
end MD
