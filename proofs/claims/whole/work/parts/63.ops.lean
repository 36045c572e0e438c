/-! the desk's public methods that change little -/
def PO (w ht : Nat) (wx wy : Bool) (cb : Nat → Bool) (c d : Int32) : Option Nat := if (inC (w * ht) c && inC 4 d) = true then (nx w ht wx wy cb c.toNatClampNeg d.toNatClampNeg).map (pn c.toNatClampNeg d.toNatClampNeg) else none
theorem PNX_PO (w ht : Nat) (wx wy : Bool) (cb : Nat → Bool) (c d : Int32) : PNX w ht wx wy cb c d = oI (PO w ht wx wy cb c d) := by
  unfold PNX PO
  split <;> rfl
theorem PO_some {w ht : Nat} {wx wy : Bool} {cb : Nat → Bool} {c d : Int32} {p : Nat} (hn : w * ht < 2 ^ 31) (e : PO w ht wx wy cb c d = some p) : ∃ j k m, j < w * ht ∧ k < 4 ∧ c = nI j ∧ d = nI k ∧ nx w ht wx wy cb j k = some m ∧ p = pn j k m := by
  unfold PO at e
  split at e
  · rename_i h1
    obtain ⟨h2, h3⟩ := Bool.and_eq_true_iff.mp h1
    rcases inC_cs (w * ht) c hn with q | ⟨j, hj, rfl⟩
    · rw [q] at h2; cases h2
    · rcases inC_cs 4 d (by decide) with q | ⟨k, hk, rfl⟩
      · rw [q] at h3; cases h3
      · rw [nI_clamp (by omega), nI_clamp (by omega)] at e
        cases hx : nx w ht wx wy cb j k with
        | none => rw [hx] at e; cases e
        | some m => rw [hx] at e; cases e; exact ⟨j, k, m, hj, hk, rfl, rfl, hx, rfl⟩
  · cases e
theorem PO_lt {w ht : Nat} {wx wy : Bool} {cb : Nat → Bool} {c d : Int32} {p : Nat} (G : 0 < w ∧ w < 13 ∧ 0 < ht ∧ ht < 13) (e : PO w ht wx wy cb c d = some p) : p < w * ht * 2 := by
  have hn := wh_lt G
  obtain ⟨j, k, m, hj, hk, -, -, hx, rfl⟩ := PO_some (by omega) e
  exact pn_lt hj (nx_lt G hj hk hx)
def kmm (ky : Nat → Option Nat) (c : Nat) : Nat := km (fun k => oI (ky k)) (nI c)
theorem km_kmm {kc : Nat → Int32} {ky : Nat → Option Nat} (hk : ∀ k, k < 4 → kc k = oI (ky k)) (c : Nat) : km kc (nI c) = kmm ky c := by
  unfold kmm km
  rw [hk 0 (by decide), hk 1 (by decide), hk 2 (by decide), hk 3 (by decide)]
theorem kmm_lt (ky : Nat → Option Nat) (c : Nat) : kmm ky c < 16 := km_lt _ _
theorem nI_or16 : ∀ a, a < 16 → ∀ b, b < 16 → nI a ||| nI b = nI (a ||| b) := by decide +kernel
theorem or16 : ∀ a, a < 16 → ∀ b, b < 16 → a ||| b < 16 := by decide +kernel
/-- an int that is -1 or a number -/
def oN (c : Int32) : Option Nat := if c = -1 then none else some c.toNatClampNeg
theorem oN_m : oN (-1) = none := rfl
theorem oN_n {j : Nat} (h : j < 2 ^ 31) : oN (nI j) = some j := by unfold oN; rw [if_neg (nI_ne_m1 h), nI_clamp h]
section OPS
variable {V : mzT → Int32 → (Nat → Int32) → (Nat → Int32) → Int32 → Prop} {h h' : aq_H} {w ht ch : Nat} {wx wy hm : Bool} {cb : Nat → Bool} {D : drT} {Z : mzT} {P : plT}
theorem x_passage (C : CLS V h w ht wx wy cb ch hm D Z P) (c d : Int32) : aq_T e_X9_passage 4 0 0 [.ref 0, .int c, .int d] h (rd (if hm = true then (match PO w ht wx wy cb c d with | none => -1 | some p => bB (Z.1 p)) else -1) h) := by
  obtain ⟨⟨cut, bes, lead, pas, fr, B, G⟩, c2, -, -, ⟨op, dk, od, kc, st, ex, M, gM⟩, -⟩ := C
  have hn := wh_lt G.1
  have k0 := c2
  unfold iDk at c2
  refine ⟨Nat.le_of_ble_eq_true rfl, ?_⟩
  show aq_W _ _ 0 [some (.ref 0), some (.int c), some (.int d), none] [] _ _ _
  cases hm with
  | false =>
    simp only [s_X9_passage_0, s_X9_passage_1, s_X9_passage_2, s_X9_passage_3, s_X9_passage_6, s_X9_passage_7, s_X9_passage_8, s_X9_passage_9, s_X9_passage_12, s_X9_passage_13, s_X9_passage_14, s_X9_passage_15, s_X9_passage_18, s_X9_passage_19, s_X9_passage_22, s_X9_passage_25, s_X9_passage_26, s_X9_passage_29, s_X9_passage_30, aq_gI, aq_gL, aq_gA, aq_isA, aq_s1, aq_s2, aq_kill, aq_ob, aq_sm, aq_arI, aq_arB, aq_isB, aq_arL, aq_arA, aq_arN, aq_sh, Value.category, List.getElem?_cons_zero, List.getElem?_cons_succ, List.length_cons, List.length_nil, Option.toList_some, Option.toList_none, List.cons_append, List.nil_append, true_and, and_true, List.set_cons_zero, List.set_cons_succ, aq_n1, aq_n2, aq_n3, aq_n4, aq_f1, aq_f2, aq_f3, aq_f4, aq_gs, aq_ty1, aq_ty2, aq_ty3, aq_ty4, aq_ty5, Nat.reduceAdd, Nat.reduceLT, Nat.reduceEqDiff, Nat.reduceSub, if_true, if_false, ne_eq, not_false_eq_true, not_true_eq_false, Option.map_some, Option.map_none, Nat.zero_add, reduceCtorEq, Nat.reduceLeDiff, one_ne_zero_a, zero_ne_one_a, c2]
    refine (t_mazePassage0 k0 c d).use ?_
    rintro _ _ ⟨rfl, rfl⟩
    simp only [s_X9_passage_0, s_X9_passage_1, s_X9_passage_2, s_X9_passage_3, s_X9_passage_6, s_X9_passage_7, s_X9_passage_8, s_X9_passage_9, s_X9_passage_12, s_X9_passage_13, s_X9_passage_14, s_X9_passage_15, s_X9_passage_18, s_X9_passage_19, s_X9_passage_22, s_X9_passage_25, s_X9_passage_26, s_X9_passage_29, s_X9_passage_30, aq_gI, aq_gL, aq_gA, aq_isA, aq_s1, aq_s2, aq_kill, aq_ob, aq_sm, aq_arI, aq_arB, aq_isB, aq_arL, aq_arA, aq_arN, aq_sh, Value.category, List.getElem?_cons_zero, List.getElem?_cons_succ, List.length_cons, List.length_nil, Option.toList_some, Option.toList_none, List.cons_append, List.nil_append, true_and, and_true, List.set_cons_zero, List.set_cons_succ, aq_n1, aq_n2, aq_n3, aq_n4, aq_f1, aq_f2, aq_f3, aq_f4, aq_gs, aq_ty1, aq_ty2, aq_ty3, aq_ty4, aq_ty5, Nat.reduceAdd, Nat.reduceLT, Nat.reduceEqDiff, Nat.reduceSub, if_true, if_false, ne_eq, not_false_eq_true, not_true_eq_false, Option.map_some, Option.map_none, Nat.zero_add, reduceCtorEq, Nat.reduceLeDiff, one_ne_zero_a, zero_ne_one_a, rd, Bool.false_eq_true]
  | true =>
    simp only [s_X9_passage_0, s_X9_passage_1, s_X9_passage_2, s_X9_passage_3, s_X9_passage_6, s_X9_passage_7, s_X9_passage_8, s_X9_passage_9, s_X9_passage_12, s_X9_passage_13, s_X9_passage_14, s_X9_passage_15, s_X9_passage_18, s_X9_passage_19, s_X9_passage_22, s_X9_passage_25, s_X9_passage_26, s_X9_passage_29, s_X9_passage_30, aq_gI, aq_gL, aq_gA, aq_isA, aq_s1, aq_s2, aq_kill, aq_ob, aq_sm, aq_arI, aq_arB, aq_isB, aq_arL, aq_arA, aq_arN, aq_sh, Value.category, List.getElem?_cons_zero, List.getElem?_cons_succ, List.length_cons, List.length_nil, Option.toList_some, Option.toList_none, List.cons_append, List.nil_append, true_and, and_true, List.set_cons_zero, List.set_cons_succ, aq_n1, aq_n2, aq_n3, aq_n4, aq_f1, aq_f2, aq_f3, aq_f4, aq_gs, aq_ty1, aq_ty2, aq_ty3, aq_ty4, aq_ty5, Nat.reduceAdd, Nat.reduceLT, Nat.reduceEqDiff, Nat.reduceSub, if_true, if_false, ne_eq, not_false_eq_true, not_true_eq_false, Option.map_some, Option.map_none, Nat.zero_add, reduceCtorEq, Nat.reduceLeDiff, one_ne_zero_a, zero_ne_one_a, c2]
    refine (t_mazePassage k0 B G c d).use ?_
    rintro _ _ ⟨rfl, rfl⟩
    rw [PNX_PO]
    cases hp : PO w ht wx wy cb c d with
    | none => simp only [oI, s_X9_passage_0, s_X9_passage_1, s_X9_passage_2, s_X9_passage_3, s_X9_passage_6, s_X9_passage_7, s_X9_passage_8, s_X9_passage_9, s_X9_passage_12, s_X9_passage_13, s_X9_passage_14, s_X9_passage_15, s_X9_passage_18, s_X9_passage_19, s_X9_passage_22, s_X9_passage_25, s_X9_passage_26, s_X9_passage_29, s_X9_passage_30, aq_gI, aq_gL, aq_gA, aq_isA, aq_s1, aq_s2, aq_kill, aq_ob, aq_sm, aq_arI, aq_arB, aq_isB, aq_arL, aq_arA, aq_arN, aq_sh, Value.category, List.getElem?_cons_zero, List.getElem?_cons_succ, List.length_cons, List.length_nil, Option.toList_some, Option.toList_none, List.cons_append, List.nil_append, true_and, and_true, List.set_cons_zero, List.set_cons_succ, aq_n1, aq_n2, aq_n3, aq_n4, aq_f1, aq_f2, aq_f3, aq_f4, aq_gs, aq_ty1, aq_ty2, aq_ty3, aq_ty4, aq_ty5, Nat.reduceAdd, Nat.reduceLT, Nat.reduceEqDiff, Nat.reduceSub, if_true, if_false, ne_eq, not_false_eq_true, not_true_eq_false, Option.map_some, Option.map_none, Nat.zero_add, reduceCtorEq, Nat.reduceLeDiff, one_ne_zero_a, zero_ne_one_a, rd]
    | some p =>
      have hl := PO_lt G.1 hp
      have ho := (gM rfl).1.1 p hl
      simp only [oI, s_X9_passage_0, s_X9_passage_1, s_X9_passage_2, s_X9_passage_3, s_X9_passage_6, s_X9_passage_7, s_X9_passage_8, s_X9_passage_9, s_X9_passage_12, s_X9_passage_13, s_X9_passage_14, s_X9_passage_15, s_X9_passage_18, s_X9_passage_19, s_X9_passage_22, s_X9_passage_25, s_X9_passage_26, s_X9_passage_29, s_X9_passage_30, aq_gI, aq_gL, aq_gA, aq_isA, aq_s1, aq_s2, aq_kill, aq_ob, aq_sm, aq_arI, aq_arB, aq_isB, aq_arL, aq_arA, aq_arN, aq_sh, Value.category, List.getElem?_cons_zero, List.getElem?_cons_succ, List.length_cons, List.length_nil, Option.toList_some, Option.toList_none, List.cons_append, List.nil_append, true_and, and_true, List.set_cons_zero, List.set_cons_succ, aq_n1, aq_n2, aq_n3, aq_n4, aq_f1, aq_f2, aq_f3, aq_f4, aq_gs, aq_ty1, aq_ty2, aq_ty3, aq_ty4, aq_ty5, Nat.reduceAdd, Nat.reduceLT, Nat.reduceEqDiff, Nat.reduceSub, if_true, if_false, ne_eq, not_false_eq_true, not_true_eq_false, Option.map_some, Option.map_none, Nat.zero_add, reduceCtorEq, Nat.reduceLeDiff, one_ne_zero_a, zero_ne_one_a, nI_ne_m1 (show p < 2 ^ 31 by omega), c2, M.1]
      refine (t_isOpen M hl (by omega) ⟨_, ho⟩).use ?_
      rintro _ _ ⟨rfl, rfl⟩
      rw [ho]
      cases Z.1 p
      · simp only [bB_f, s_X9_passage_0, s_X9_passage_1, s_X9_passage_2, s_X9_passage_3, s_X9_passage_6, s_X9_passage_7, s_X9_passage_8, s_X9_passage_9, s_X9_passage_12, s_X9_passage_13, s_X9_passage_14, s_X9_passage_15, s_X9_passage_18, s_X9_passage_19, s_X9_passage_22, s_X9_passage_25, s_X9_passage_26, s_X9_passage_29, s_X9_passage_30, aq_gI, aq_gL, aq_gA, aq_isA, aq_s1, aq_s2, aq_kill, aq_ob, aq_sm, aq_arI, aq_arB, aq_isB, aq_arL, aq_arA, aq_arN, aq_sh, Value.category, List.getElem?_cons_zero, List.getElem?_cons_succ, List.length_cons, List.length_nil, Option.toList_some, Option.toList_none, List.cons_append, List.nil_append, true_and, and_true, List.set_cons_zero, List.set_cons_succ, aq_n1, aq_n2, aq_n3, aq_n4, aq_f1, aq_f2, aq_f3, aq_f4, aq_gs, aq_ty1, aq_ty2, aq_ty3, aq_ty4, aq_ty5, Nat.reduceAdd, Nat.reduceLT, Nat.reduceEqDiff, Nat.reduceSub, if_true, if_false, ne_eq, not_false_eq_true, not_true_eq_false, Option.map_some, Option.map_none, Nat.zero_add, reduceCtorEq, Nat.reduceLeDiff, one_ne_zero_a, zero_ne_one_a, rd]
      · simp only [bB_t, s_X9_passage_0, s_X9_passage_1, s_X9_passage_2, s_X9_passage_3, s_X9_passage_6, s_X9_passage_7, s_X9_passage_8, s_X9_passage_9, s_X9_passage_12, s_X9_passage_13, s_X9_passage_14, s_X9_passage_15, s_X9_passage_18, s_X9_passage_19, s_X9_passage_22, s_X9_passage_25, s_X9_passage_26, s_X9_passage_29, s_X9_passage_30, aq_gI, aq_gL, aq_gA, aq_isA, aq_s1, aq_s2, aq_kill, aq_ob, aq_sm, aq_arI, aq_arB, aq_isB, aq_arL, aq_arA, aq_arN, aq_sh, Value.category, List.getElem?_cons_zero, List.getElem?_cons_succ, List.length_cons, List.length_nil, Option.toList_some, Option.toList_none, List.cons_append, List.nil_append, true_and, and_true, List.set_cons_zero, List.set_cons_succ, aq_n1, aq_n2, aq_n3, aq_n4, aq_f1, aq_f2, aq_f3, aq_f4, aq_gs, aq_ty1, aq_ty2, aq_ty3, aq_ty4, aq_ty5, Nat.reduceAdd, Nat.reduceLT, Nat.reduceEqDiff, Nat.reduceSub, if_true, if_false, ne_eq, not_false_eq_true, not_true_eq_false, Option.map_some, Option.map_none, Nat.zero_add, reduceCtorEq, Nat.reduceLeDiff, one_ne_zero_a, zero_ne_one_a, rd]
theorem x_open (C : CLS V h w ht wx wy cb ch hm D Z P) (c d : Int32) (v : Bool) : aq_T e_X9_open 5 0 0 [.ref 0, .int c, .int d, .int (bB v)] h (fun r h' => match (if hm = true then PO w ht wx wy cb c d else none) with
    | none => r = some (.int 0) ∧ h' = h
    | some p => if Z.1 p = v then r = some (.int 0) ∧ h' = h else r = some (.int 1) ∧ sm 0 46 h h' ∧ CLS V h' w ht wx wy cb (ch + 1) true D (fs Z.1 p v, fs Z.2.1 p none, fs Z.2.2.1 p none, Z.2.2.2) P) := by
  have hC := C
  obtain ⟨⟨cut, bes, lead, pas, fr, B, G⟩, c2, -, -, ⟨op, dk, od, kc, st, ex, M, gM⟩, -, -, -, -, -, hW⟩ := C
  have hn := wh_lt G.1
  have k0 := c2
  unfold iDk at c2
  refine ⟨Nat.le_of_ble_eq_true rfl, ?_⟩
  show aq_W _ _ 0 [some (.ref 0), some (.int c), some (.int d), some (.int (bB v)), none] [] _ _ _
  cases hm with
  | false =>
    simp only [s_X9_open_0, s_X9_open_1, s_X9_open_2, s_X9_open_3, s_X9_open_6, s_X9_open_8, s_X9_open_10, s_X9_open_11, s_X9_open_14, s_X9_open_15, s_X9_open_18, s_X9_open_20, s_X9_open_23, s_X9_open_24, s_X9_open_27, s_X9_open_28, s_X9_open_29, s_X9_open_30, s_X9_open_33, s_X9_open_35, s_X9_open_36, s_X9_open_39, s_X9_open_40, aq_gI, aq_gL, aq_gA, aq_isA, aq_s1, aq_s2, aq_kill, aq_ob, aq_sm, aq_arI, aq_arB, aq_isB, aq_arL, aq_arA, aq_arN, aq_sh, Value.category, List.getElem?_cons_zero, List.getElem?_cons_succ, List.length_cons, List.length_nil, Option.toList_some, Option.toList_none, List.cons_append, List.nil_append, true_and, and_true, List.set_cons_zero, List.set_cons_succ, aq_n1, aq_n2, aq_n3, aq_n4, aq_f1, aq_f2, aq_f3, aq_f4, aq_gs, aq_ty1, aq_ty2, aq_ty3, aq_ty4, aq_ty5, Nat.reduceAdd, Nat.reduceLT, Nat.reduceEqDiff, Nat.reduceSub, if_true, if_false, ne_eq, not_false_eq_true, not_true_eq_false, Option.map_some, Option.map_none, Nat.zero_add, reduceCtorEq, Nat.reduceLeDiff, one_ne_zero_a, zero_ne_one_a, c2]
    refine (t_mazePassage0 k0 c d).use ?_
    rintro _ _ ⟨rfl, rfl⟩
    simp only [s_X9_open_0, s_X9_open_1, s_X9_open_2, s_X9_open_3, s_X9_open_6, s_X9_open_8, s_X9_open_10, s_X9_open_11, s_X9_open_14, s_X9_open_15, s_X9_open_18, s_X9_open_20, s_X9_open_23, s_X9_open_24, s_X9_open_27, s_X9_open_28, s_X9_open_29, s_X9_open_30, s_X9_open_33, s_X9_open_35, s_X9_open_36, s_X9_open_39, s_X9_open_40, aq_gI, aq_gL, aq_gA, aq_isA, aq_s1, aq_s2, aq_kill, aq_ob, aq_sm, aq_arI, aq_arB, aq_isB, aq_arL, aq_arA, aq_arN, aq_sh, Value.category, List.getElem?_cons_zero, List.getElem?_cons_succ, List.length_cons, List.length_nil, Option.toList_some, Option.toList_none, List.cons_append, List.nil_append, true_and, and_true, List.set_cons_zero, List.set_cons_succ, aq_n1, aq_n2, aq_n3, aq_n4, aq_f1, aq_f2, aq_f3, aq_f4, aq_gs, aq_ty1, aq_ty2, aq_ty3, aq_ty4, aq_ty5, Nat.reduceAdd, Nat.reduceLT, Nat.reduceEqDiff, Nat.reduceSub, if_true, if_false, ne_eq, not_false_eq_true, not_true_eq_false, Option.map_some, Option.map_none, Nat.zero_add, reduceCtorEq, Nat.reduceLeDiff, one_ne_zero_a, zero_ne_one_a, Bool.false_eq_true]
    (first | trivial | exact ⟨rfl, rfl⟩ | exact ⟨rfl, trivial⟩ | exact ⟨rfl, rfl, trivial⟩ | rfl)
  | true =>
    simp only [s_X9_open_0, s_X9_open_1, s_X9_open_2, s_X9_open_3, s_X9_open_6, s_X9_open_8, s_X9_open_10, s_X9_open_11, s_X9_open_14, s_X9_open_15, s_X9_open_18, s_X9_open_20, s_X9_open_23, s_X9_open_24, s_X9_open_27, s_X9_open_28, s_X9_open_29, s_X9_open_30, s_X9_open_33, s_X9_open_35, s_X9_open_36, s_X9_open_39, s_X9_open_40, aq_gI, aq_gL, aq_gA, aq_isA, aq_s1, aq_s2, aq_kill, aq_ob, aq_sm, aq_arI, aq_arB, aq_isB, aq_arL, aq_arA, aq_arN, aq_sh, Value.category, List.getElem?_cons_zero, List.getElem?_cons_succ, List.length_cons, List.length_nil, Option.toList_some, Option.toList_none, List.cons_append, List.nil_append, true_and, and_true, List.set_cons_zero, List.set_cons_succ, aq_n1, aq_n2, aq_n3, aq_n4, aq_f1, aq_f2, aq_f3, aq_f4, aq_gs, aq_ty1, aq_ty2, aq_ty3, aq_ty4, aq_ty5, Nat.reduceAdd, Nat.reduceLT, Nat.reduceEqDiff, Nat.reduceSub, if_true, if_false, ne_eq, not_false_eq_true, not_true_eq_false, Option.map_some, Option.map_none, Nat.zero_add, reduceCtorEq, Nat.reduceLeDiff, one_ne_zero_a, zero_ne_one_a, c2]
    refine (t_mazePassage k0 B G c d).use ?_
    rintro _ _ ⟨rfl, rfl⟩
    rw [PNX_PO]
    cases hp : PO w ht wx wy cb c d with
    | none => simp only [oI, s_X9_open_0, s_X9_open_1, s_X9_open_2, s_X9_open_3, s_X9_open_6, s_X9_open_8, s_X9_open_10, s_X9_open_11, s_X9_open_14, s_X9_open_15, s_X9_open_18, s_X9_open_20, s_X9_open_23, s_X9_open_24, s_X9_open_27, s_X9_open_28, s_X9_open_29, s_X9_open_30, s_X9_open_33, s_X9_open_35, s_X9_open_36, s_X9_open_39, s_X9_open_40, aq_gI, aq_gL, aq_gA, aq_isA, aq_s1, aq_s2, aq_kill, aq_ob, aq_sm, aq_arI, aq_arB, aq_isB, aq_arL, aq_arA, aq_arN, aq_sh, Value.category, List.getElem?_cons_zero, List.getElem?_cons_succ, List.length_cons, List.length_nil, Option.toList_some, Option.toList_none, List.cons_append, List.nil_append, true_and, and_true, List.set_cons_zero, List.set_cons_succ, aq_n1, aq_n2, aq_n3, aq_n4, aq_f1, aq_f2, aq_f3, aq_f4, aq_gs, aq_ty1, aq_ty2, aq_ty3, aq_ty4, aq_ty5, Nat.reduceAdd, Nat.reduceLT, Nat.reduceEqDiff, Nat.reduceSub, if_true, if_false, ne_eq, not_false_eq_true, not_true_eq_false, Option.map_some, Option.map_none, Nat.zero_add, reduceCtorEq, Nat.reduceLeDiff, one_ne_zero_a, zero_ne_one_a]; (first | trivial | exact ⟨rfl, rfl⟩ | exact ⟨rfl, trivial⟩ | exact ⟨rfl, rfl, trivial⟩ | rfl)
    | some p =>
      have hl := PO_lt G.1 hp
      obtain ⟨gz, g2, g3⟩ := gM rfl
      have ho := gz.1 p hl
      simp only [oI, s_X9_open_0, s_X9_open_1, s_X9_open_2, s_X9_open_3, s_X9_open_6, s_X9_open_8, s_X9_open_10, s_X9_open_11, s_X9_open_14, s_X9_open_15, s_X9_open_18, s_X9_open_20, s_X9_open_23, s_X9_open_24, s_X9_open_27, s_X9_open_28, s_X9_open_29, s_X9_open_30, s_X9_open_33, s_X9_open_35, s_X9_open_36, s_X9_open_39, s_X9_open_40, aq_gI, aq_gL, aq_gA, aq_isA, aq_s1, aq_s2, aq_kill, aq_ob, aq_sm, aq_arI, aq_arB, aq_isB, aq_arL, aq_arA, aq_arN, aq_sh, Value.category, List.getElem?_cons_zero, List.getElem?_cons_succ, List.length_cons, List.length_nil, Option.toList_some, Option.toList_none, List.cons_append, List.nil_append, true_and, and_true, List.set_cons_zero, List.set_cons_succ, aq_n1, aq_n2, aq_n3, aq_n4, aq_f1, aq_f2, aq_f3, aq_f4, aq_gs, aq_ty1, aq_ty2, aq_ty3, aq_ty4, aq_ty5, Nat.reduceAdd, Nat.reduceLT, Nat.reduceEqDiff, Nat.reduceSub, if_true, if_false, ne_eq, not_false_eq_true, not_true_eq_false, Option.map_some, Option.map_none, Nat.zero_add, reduceCtorEq, Nat.reduceLeDiff, one_ne_zero_a, zero_ne_one_a, nI_ne_m1 (show p < 2 ^ 31 by omega), c2, M.1]
      refine (t_isOpen M hl (by omega) ⟨_, ho⟩).use ?_
      rintro _ _ ⟨rfl, rfl⟩
      rw [ho]
      by_cases e : Z.1 p = v
      · simp only [e, s_X9_open_0, s_X9_open_1, s_X9_open_2, s_X9_open_3, s_X9_open_6, s_X9_open_8, s_X9_open_10, s_X9_open_11, s_X9_open_14, s_X9_open_15, s_X9_open_18, s_X9_open_20, s_X9_open_23, s_X9_open_24, s_X9_open_27, s_X9_open_28, s_X9_open_29, s_X9_open_30, s_X9_open_33, s_X9_open_35, s_X9_open_36, s_X9_open_39, s_X9_open_40, aq_gI, aq_gL, aq_gA, aq_isA, aq_s1, aq_s2, aq_kill, aq_ob, aq_sm, aq_arI, aq_arB, aq_isB, aq_arL, aq_arA, aq_arN, aq_sh, Value.category, List.getElem?_cons_zero, List.getElem?_cons_succ, List.length_cons, List.length_nil, Option.toList_some, Option.toList_none, List.cons_append, List.nil_append, true_and, and_true, List.set_cons_zero, List.set_cons_succ, aq_n1, aq_n2, aq_n3, aq_n4, aq_f1, aq_f2, aq_f3, aq_f4, aq_gs, aq_ty1, aq_ty2, aq_ty3, aq_ty4, aq_ty5, Nat.reduceAdd, Nat.reduceLT, Nat.reduceEqDiff, Nat.reduceSub, if_true, if_false, ne_eq, not_false_eq_true, not_true_eq_false, Option.map_some, Option.map_none, Nat.zero_add, reduceCtorEq, Nat.reduceLeDiff, one_ne_zero_a, zero_ne_one_a]; (first | trivial | exact ⟨rfl, rfl⟩ | exact ⟨rfl, trivial⟩ | exact ⟨rfl, rfl, trivial⟩ | rfl)
      · have e2 : ¬ bB (Z.1 p) = bB v := fun q => e ((bB_eq _ _).mp q)
        simp only [e, e2, s_X9_open_0, s_X9_open_1, s_X9_open_2, s_X9_open_3, s_X9_open_6, s_X9_open_8, s_X9_open_10, s_X9_open_11, s_X9_open_14, s_X9_open_15, s_X9_open_18, s_X9_open_20, s_X9_open_23, s_X9_open_24, s_X9_open_27, s_X9_open_28, s_X9_open_29, s_X9_open_30, s_X9_open_33, s_X9_open_35, s_X9_open_36, s_X9_open_39, s_X9_open_40, aq_gI, aq_gL, aq_gA, aq_isA, aq_s1, aq_s2, aq_kill, aq_ob, aq_sm, aq_arI, aq_arB, aq_isB, aq_arL, aq_arA, aq_arN, aq_sh, Value.category, List.getElem?_cons_zero, List.getElem?_cons_succ, List.length_cons, List.length_nil, Option.toList_some, Option.toList_none, List.cons_append, List.nil_append, true_and, and_true, List.set_cons_zero, List.set_cons_succ, aq_n1, aq_n2, aq_n3, aq_n4, aq_f1, aq_f2, aq_f3, aq_f4, aq_gs, aq_ty1, aq_ty2, aq_ty3, aq_ty4, aq_ty5, Nat.reduceAdd, Nat.reduceLT, Nat.reduceEqDiff, Nat.reduceSub, if_true, if_false, ne_eq, not_false_eq_true, not_true_eq_false, Option.map_some, Option.map_none, Nat.zero_add, reduceCtorEq, Nat.reduceLeDiff, one_ne_zero_a, zero_ne_one_a, c2, M.1]
        refine (t_setOpen M hl (by omega) v).use ?_
        rintro _ h2 ⟨rfl, M2, S2⟩
        simp only [s_X9_open_0, s_X9_open_1, s_X9_open_2, s_X9_open_3, s_X9_open_6, s_X9_open_8, s_X9_open_10, s_X9_open_11, s_X9_open_14, s_X9_open_15, s_X9_open_18, s_X9_open_20, s_X9_open_23, s_X9_open_24, s_X9_open_27, s_X9_open_28, s_X9_open_29, s_X9_open_30, s_X9_open_33, s_X9_open_35, s_X9_open_36, s_X9_open_39, s_X9_open_40, aq_gI, aq_gL, aq_gA, aq_isA, aq_s1, aq_s2, aq_kill, aq_ob, aq_sm, aq_arI, aq_arB, aq_isB, aq_arL, aq_arA, aq_arN, aq_sh, Value.category, List.getElem?_cons_zero, List.getElem?_cons_succ, List.length_cons, List.length_nil, Option.toList_some, Option.toList_none, List.cons_append, List.nil_append, true_and, and_true, List.set_cons_zero, List.set_cons_succ, aq_n1, aq_n2, aq_n3, aq_n4, aq_f1, aq_f2, aq_f3, aq_f4, aq_gs, aq_ty1, aq_ty2, aq_ty3, aq_ty4, aq_ty5, Nat.reduceAdd, Nat.reduceLT, Nat.reduceEqDiff, Nat.reduceSub, if_true, if_false, ne_eq, not_false_eq_true, not_true_eq_false, Option.map_some, Option.map_none, Nat.zero_add, reduceCtorEq, Nat.reduceLeDiff, one_ne_zero_a, zero_ne_one_a]
        refine ⟨rfl, S2.mo (by decide) (by decide), CLS_mz hC S2 (Nat.lt_succ_self ch) ⟨_, _, _, _, _, _, by rw [← nI_1]; exact M2, fun _ => ⟨gMz_open gz v, g2, g3⟩⟩ (hW rfl)⟩
theorem gMz_door {N : Nat} {op dk od kc : Nat → Int32} {ob : Nat → Bool} {dr on ky : Nat → Option Nat} (H : gMz N ob dr on ky op dk od kc) (p : Nat) {k : Int32} {o : Option Nat} (hk : k = oI o) (ho : ∀ j, o = some j → j < 4) : gMz N ob (fs dr p o) on ky op (upd dk p k) od kc := by
  obtain ⟨h1, h2, h3, h4⟩ := H
  refine ⟨h1, fun q hq => ?_, h3, h4⟩
  by_cases e : q = p
  · rw [e, upd_s, fs_s]; exact ⟨hk, ho⟩
  · rw [upd_n _ _ e, fs_n _ _ e]; exact h2 q hq
theorem gMz_one {N : Nat} {op dk od kc : Nat → Int32} {ob : Nat → Bool} {dr on ky : Nat → Option Nat} (H : gMz N ob dr on ky op dk od kc) (p : Nat) {k : Int32} {o : Option Nat} (hk : k = oI o) (ho : ∀ j, o = some j → j < 4) : gMz N ob dr (fs on p o) ky op dk (upd od p k) kc := by
  obtain ⟨h1, h2, h3, h4⟩ := H
  refine ⟨h1, h2, fun q hq => ?_, h4⟩
  by_cases e : q = p
  · rw [e, upd_s, fs_s]; exact ⟨hk, ho⟩
  · rw [upd_n _ _ e, fs_n _ _ e]; exact h3 q hq
theorem gMz_key {N : Nat} {op dk od kc : Nat → Int32} {ob : Nat → Bool} {dr on ky : Nat → Option Nat} (H : gMz N ob dr on ky op dk od kc) (p : Nat) {k : Int32} {o : Option Nat} (hk : k = oI o) (ho : ∀ j, o = some j → j < 144) : gMz N ob dr on (fs ky p o) op dk od (upd kc p k) := by
  obtain ⟨h1, h2, h3, h4⟩ := H
  refine ⟨h1, h2, h3, fun q hq => ?_⟩
  by_cases e : q = p
  · rw [e, upd_s, fs_s]; exact ⟨hk, ho⟩
  · rw [upd_n _ _ e, fs_n _ _ e]; exact h4 q hq
/-- is it a key, or -1 -/
def isK (k : Int32) : Bool := inC 4 k || decide (k = -1)
theorem isK_o {k : Int32} (h : isK k = true) : k = oI (oN k) ∧ ∀ j, oN k = some j → j < 4 := by
  unfold isK at h
  rcases inC_cs 4 k (by decide) with q | ⟨j, hj, rfl⟩
  · rw [q] at h
    have e : k = -1 := by simpa using h
    subst e
    exact ⟨rfl, fun j hj => by cases hj⟩
  · rw [oN_n (by omega)]
    exact ⟨rfl, fun i hi => by cases hi; exact hj⟩
theorem x_door (C : CLS V h w ht wx wy cb ch hm D Z P) (k c d : Int32) : aq_T e_X9_door 5 0 0 [.ref 0, .int k, .int c, .int d] h (fun r h' => match (if hm = true then PO w ht wx wy cb c d else none) with
    | none => r = some (.int 0) ∧ h' = h
    | some p => if (isK k && Z.1 p) = false then r = some (.int 0) ∧ h' = h else r = some (.int 1) ∧ sm 0 46 h h' ∧ CLS V h' w ht wx wy cb (ch + 1) true D (Z.1, fs Z.2.1 p (oN k), Z.2.2) P) := by
  have hC := C
  obtain ⟨⟨cut, bes, lead, pas, fr, B, G⟩, c2, -, -, ⟨op, dk, od, kc, st, ex, M, gM⟩, -, -, -, -, -, hW⟩ := C
  have hn := wh_lt G.1
  have k0 := c2
  unfold iDk at c2
  refine ⟨Nat.le_of_ble_eq_true rfl, ?_⟩
  show aq_W _ _ 0 [some (.ref 0), some (.int k), some (.int c), some (.int d), none] [] _ _ _
  simp only [s_X9_door_0, s_X9_door_1, s_X9_door_4, s_X9_door_7, s_X9_door_8, s_X9_door_9, s_X9_door_12, s_X9_door_13, s_X9_door_14, s_X9_door_15, s_X9_door_16, s_X9_door_17, s_X9_door_20, s_X9_door_22, s_X9_door_24, s_X9_door_25, s_X9_door_28, s_X9_door_29, s_X9_door_32, s_X9_door_34, s_X9_door_37, s_X9_door_40, s_X9_door_41, s_X9_door_42, s_X9_door_43, s_X9_door_46, s_X9_door_48, s_X9_door_49, s_X9_door_52, s_X9_door_53, aq_gI, aq_gL, aq_gA, aq_isA, aq_s1, aq_s2, aq_kill, aq_ob, aq_sm, aq_arI, aq_arB, aq_isB, aq_arL, aq_arA, aq_arN, aq_sh, Value.category, List.getElem?_cons_zero, List.getElem?_cons_succ, List.length_cons, List.length_nil, Option.toList_some, Option.toList_none, List.cons_append, List.nil_append, true_and, and_true, List.set_cons_zero, List.set_cons_succ, aq_n1, aq_n2, aq_n3, aq_n4, aq_f1, aq_f2, aq_f3, aq_f4, aq_gs, aq_ty1, aq_ty2, aq_ty3, aq_ty4, aq_ty5, Nat.reduceAdd, Nat.reduceLT, Nat.reduceEqDiff, Nat.reduceSub, if_true, if_false, ne_eq, not_false_eq_true, not_true_eq_false, Option.map_some, Option.map_none, Nat.zero_add, reduceCtorEq, Nat.reduceLeDiff, one_ne_zero_a, zero_ne_one_a]
  refine (t_isKey k).use ?_
  rintro _ h ⟨rfl, rfl⟩
  have main : isK k = true → ∃ r' h', aq_R e_X9_mazePassage 3 0 0 [.ref 0, .int c, .int d] h r' h' ∧ aq_W e_X9_door (fun r h' => match (if hm = true then PO w ht wx wy cb c d else none) with
    | none => r = some (.int 0) ∧ h' = h
    | some p => if (isK k && Z.1 p) = false then r = some (.int 0) ∧ h' = h else r = some (.int 1) ∧ sm 0 46 h h' ∧ CLS V h' w ht wx wy cb (ch + 1) true D (Z.1, fs Z.2.1 p (oN k), Z.2.2) P) 20 [some (.ref 0), some (.int k), some (.int c), some (.int d), none] (r'.toList ++ []) h' 0 0 := by
    intro hk
    obtain ⟨hk1, hk2⟩ := isK_o hk
    cases hm with
    | false =>
      refine (t_mazePassage0 k0 c d).use ?_
      rintro _ _ ⟨rfl, rfl⟩
      simp only [s_X9_door_0, s_X9_door_1, s_X9_door_4, s_X9_door_7, s_X9_door_8, s_X9_door_9, s_X9_door_12, s_X9_door_13, s_X9_door_14, s_X9_door_15, s_X9_door_16, s_X9_door_17, s_X9_door_20, s_X9_door_22, s_X9_door_24, s_X9_door_25, s_X9_door_28, s_X9_door_29, s_X9_door_32, s_X9_door_34, s_X9_door_37, s_X9_door_40, s_X9_door_41, s_X9_door_42, s_X9_door_43, s_X9_door_46, s_X9_door_48, s_X9_door_49, s_X9_door_52, s_X9_door_53, aq_gI, aq_gL, aq_gA, aq_isA, aq_s1, aq_s2, aq_kill, aq_ob, aq_sm, aq_arI, aq_arB, aq_isB, aq_arL, aq_arA, aq_arN, aq_sh, Value.category, List.getElem?_cons_zero, List.getElem?_cons_succ, List.length_cons, List.length_nil, Option.toList_some, Option.toList_none, List.cons_append, List.nil_append, true_and, and_true, List.set_cons_zero, List.set_cons_succ, aq_n1, aq_n2, aq_n3, aq_n4, aq_f1, aq_f2, aq_f3, aq_f4, aq_gs, aq_ty1, aq_ty2, aq_ty3, aq_ty4, aq_ty5, Nat.reduceAdd, Nat.reduceLT, Nat.reduceEqDiff, Nat.reduceSub, if_true, if_false, ne_eq, not_false_eq_true, not_true_eq_false, Option.map_some, Option.map_none, Nat.zero_add, reduceCtorEq, Nat.reduceLeDiff, one_ne_zero_a, zero_ne_one_a, Bool.false_eq_true]
      (first | trivial | exact ⟨rfl, rfl⟩ | exact ⟨rfl, trivial⟩ | exact ⟨rfl, rfl, trivial⟩ | rfl)
    | true =>
      refine (t_mazePassage k0 B G c d).use ?_
      rintro _ _ ⟨rfl, rfl⟩
      rw [PNX_PO]
      cases hp : PO w ht wx wy cb c d with
      | none => simp only [oI, s_X9_door_0, s_X9_door_1, s_X9_door_4, s_X9_door_7, s_X9_door_8, s_X9_door_9, s_X9_door_12, s_X9_door_13, s_X9_door_14, s_X9_door_15, s_X9_door_16, s_X9_door_17, s_X9_door_20, s_X9_door_22, s_X9_door_24, s_X9_door_25, s_X9_door_28, s_X9_door_29, s_X9_door_32, s_X9_door_34, s_X9_door_37, s_X9_door_40, s_X9_door_41, s_X9_door_42, s_X9_door_43, s_X9_door_46, s_X9_door_48, s_X9_door_49, s_X9_door_52, s_X9_door_53, aq_gI, aq_gL, aq_gA, aq_isA, aq_s1, aq_s2, aq_kill, aq_ob, aq_sm, aq_arI, aq_arB, aq_isB, aq_arL, aq_arA, aq_arN, aq_sh, Value.category, List.getElem?_cons_zero, List.getElem?_cons_succ, List.length_cons, List.length_nil, Option.toList_some, Option.toList_none, List.cons_append, List.nil_append, true_and, and_true, List.set_cons_zero, List.set_cons_succ, aq_n1, aq_n2, aq_n3, aq_n4, aq_f1, aq_f2, aq_f3, aq_f4, aq_gs, aq_ty1, aq_ty2, aq_ty3, aq_ty4, aq_ty5, Nat.reduceAdd, Nat.reduceLT, Nat.reduceEqDiff, Nat.reduceSub, if_true, if_false, ne_eq, not_false_eq_true, not_true_eq_false, Option.map_some, Option.map_none, Nat.zero_add, reduceCtorEq, Nat.reduceLeDiff, one_ne_zero_a, zero_ne_one_a]; (first | trivial | exact ⟨rfl, rfl⟩ | exact ⟨rfl, trivial⟩ | exact ⟨rfl, rfl, trivial⟩ | rfl)
      | some p =>
        have hl := PO_lt G.1 hp
        obtain ⟨gz, g2, g3⟩ := gM rfl
        have ho := gz.1 p hl
        simp only [oI, s_X9_door_0, s_X9_door_1, s_X9_door_4, s_X9_door_7, s_X9_door_8, s_X9_door_9, s_X9_door_12, s_X9_door_13, s_X9_door_14, s_X9_door_15, s_X9_door_16, s_X9_door_17, s_X9_door_20, s_X9_door_22, s_X9_door_24, s_X9_door_25, s_X9_door_28, s_X9_door_29, s_X9_door_32, s_X9_door_34, s_X9_door_37, s_X9_door_40, s_X9_door_41, s_X9_door_42, s_X9_door_43, s_X9_door_46, s_X9_door_48, s_X9_door_49, s_X9_door_52, s_X9_door_53, aq_gI, aq_gL, aq_gA, aq_isA, aq_s1, aq_s2, aq_kill, aq_ob, aq_sm, aq_arI, aq_arB, aq_isB, aq_arL, aq_arA, aq_arN, aq_sh, Value.category, List.getElem?_cons_zero, List.getElem?_cons_succ, List.length_cons, List.length_nil, Option.toList_some, Option.toList_none, List.cons_append, List.nil_append, true_and, and_true, List.set_cons_zero, List.set_cons_succ, aq_n1, aq_n2, aq_n3, aq_n4, aq_f1, aq_f2, aq_f3, aq_f4, aq_gs, aq_ty1, aq_ty2, aq_ty3, aq_ty4, aq_ty5, Nat.reduceAdd, Nat.reduceLT, Nat.reduceEqDiff, Nat.reduceSub, if_true, if_false, ne_eq, not_false_eq_true, not_true_eq_false, Option.map_some, Option.map_none, Nat.zero_add, reduceCtorEq, Nat.reduceLeDiff, one_ne_zero_a, zero_ne_one_a, nI_ne_m1 (show p < 2 ^ 31 by omega), c2, M.1, hk, Bool.true_and]
        refine (t_isOpen M hl (by omega) ⟨_, ho⟩).use ?_
        rintro _ _ ⟨rfl, rfl⟩
        rw [ho]
        cases e : Z.1 p with
        | false => simp only [bB_f, s_X9_door_0, s_X9_door_1, s_X9_door_4, s_X9_door_7, s_X9_door_8, s_X9_door_9, s_X9_door_12, s_X9_door_13, s_X9_door_14, s_X9_door_15, s_X9_door_16, s_X9_door_17, s_X9_door_20, s_X9_door_22, s_X9_door_24, s_X9_door_25, s_X9_door_28, s_X9_door_29, s_X9_door_32, s_X9_door_34, s_X9_door_37, s_X9_door_40, s_X9_door_41, s_X9_door_42, s_X9_door_43, s_X9_door_46, s_X9_door_48, s_X9_door_49, s_X9_door_52, s_X9_door_53, aq_gI, aq_gL, aq_gA, aq_isA, aq_s1, aq_s2, aq_kill, aq_ob, aq_sm, aq_arI, aq_arB, aq_isB, aq_arL, aq_arA, aq_arN, aq_sh, Value.category, List.getElem?_cons_zero, List.getElem?_cons_succ, List.length_cons, List.length_nil, Option.toList_some, Option.toList_none, List.cons_append, List.nil_append, true_and, and_true, List.set_cons_zero, List.set_cons_succ, aq_n1, aq_n2, aq_n3, aq_n4, aq_f1, aq_f2, aq_f3, aq_f4, aq_gs, aq_ty1, aq_ty2, aq_ty3, aq_ty4, aq_ty5, Nat.reduceAdd, Nat.reduceLT, Nat.reduceEqDiff, Nat.reduceSub, if_true, if_false, ne_eq, not_false_eq_true, not_true_eq_false, Option.map_some, Option.map_none, Nat.zero_add, reduceCtorEq, Nat.reduceLeDiff, one_ne_zero_a, zero_ne_one_a]; (first | trivial | exact ⟨rfl, rfl⟩ | exact ⟨rfl, trivial⟩ | exact ⟨rfl, rfl, trivial⟩ | rfl)
        | true =>
          simp only [bB_t, s_X9_door_0, s_X9_door_1, s_X9_door_4, s_X9_door_7, s_X9_door_8, s_X9_door_9, s_X9_door_12, s_X9_door_13, s_X9_door_14, s_X9_door_15, s_X9_door_16, s_X9_door_17, s_X9_door_20, s_X9_door_22, s_X9_door_24, s_X9_door_25, s_X9_door_28, s_X9_door_29, s_X9_door_32, s_X9_door_34, s_X9_door_37, s_X9_door_40, s_X9_door_41, s_X9_door_42, s_X9_door_43, s_X9_door_46, s_X9_door_48, s_X9_door_49, s_X9_door_52, s_X9_door_53, aq_gI, aq_gL, aq_gA, aq_isA, aq_s1, aq_s2, aq_kill, aq_ob, aq_sm, aq_arI, aq_arB, aq_isB, aq_arL, aq_arA, aq_arN, aq_sh, Value.category, List.getElem?_cons_zero, List.getElem?_cons_succ, List.length_cons, List.length_nil, Option.toList_some, Option.toList_none, List.cons_append, List.nil_append, true_and, and_true, List.set_cons_zero, List.set_cons_succ, aq_n1, aq_n2, aq_n3, aq_n4, aq_f1, aq_f2, aq_f3, aq_f4, aq_gs, aq_ty1, aq_ty2, aq_ty3, aq_ty4, aq_ty5, Nat.reduceAdd, Nat.reduceLT, Nat.reduceEqDiff, Nat.reduceSub, if_true, if_false, ne_eq, not_false_eq_true, not_true_eq_false, Option.map_some, Option.map_none, Nat.zero_add, reduceCtorEq, Nat.reduceLeDiff, one_ne_zero_a, zero_ne_one_a, c2, M.1, Bool.true_eq_false]
          refine (t_setDoor M hl (by omega) k).use ?_
          rintro _ h2 ⟨rfl, M2, S2⟩
          simp only [s_X9_door_0, s_X9_door_1, s_X9_door_4, s_X9_door_7, s_X9_door_8, s_X9_door_9, s_X9_door_12, s_X9_door_13, s_X9_door_14, s_X9_door_15, s_X9_door_16, s_X9_door_17, s_X9_door_20, s_X9_door_22, s_X9_door_24, s_X9_door_25, s_X9_door_28, s_X9_door_29, s_X9_door_32, s_X9_door_34, s_X9_door_37, s_X9_door_40, s_X9_door_41, s_X9_door_42, s_X9_door_43, s_X9_door_46, s_X9_door_48, s_X9_door_49, s_X9_door_52, s_X9_door_53, aq_gI, aq_gL, aq_gA, aq_isA, aq_s1, aq_s2, aq_kill, aq_ob, aq_sm, aq_arI, aq_arB, aq_isB, aq_arL, aq_arA, aq_arN, aq_sh, Value.category, List.getElem?_cons_zero, List.getElem?_cons_succ, List.length_cons, List.length_nil, Option.toList_some, Option.toList_none, List.cons_append, List.nil_append, true_and, and_true, List.set_cons_zero, List.set_cons_succ, aq_n1, aq_n2, aq_n3, aq_n4, aq_f1, aq_f2, aq_f3, aq_f4, aq_gs, aq_ty1, aq_ty2, aq_ty3, aq_ty4, aq_ty5, Nat.reduceAdd, Nat.reduceLT, Nat.reduceEqDiff, Nat.reduceSub, if_true, if_false, ne_eq, not_false_eq_true, not_true_eq_false, Option.map_some, Option.map_none, Nat.zero_add, reduceCtorEq, Nat.reduceLeDiff, one_ne_zero_a, zero_ne_one_a]
          refine ⟨rfl, S2.mo (by decide) (by decide), CLS_mz hC S2 (Nat.lt_succ_self ch) ⟨_, _, _, _, _, _, by rw [← nI_1]; exact M2, fun _ => ⟨gMz_door gz p hk1 hk2, g2, g3⟩⟩ (hW rfl)⟩
  have bad : isK k = false → (match (if hm = true then PO w ht wx wy cb c d else none) with
    | none => some (Value.int 0) = some (.int 0) ∧ h = h
    | some p => if (isK k && Z.1 p) = false then some (Value.int 0) = some (.int 0) ∧ h = h else some (Value.int 0) = some (.int 1) ∧ sm 0 46 h h ∧ CLS V h w ht wx wy cb (ch + 1) true D (Z.1, fs Z.2.1 p (oN k), Z.2.2) P) := by
    intro hk
    split
    · exact ⟨rfl, rfl⟩
    · rw [hk, Bool.false_and, if_pos rfl]; exact ⟨rfl, rfl⟩
  cases hi : inC 4 k with
  | true =>
    simp only [bB_t, s_X9_door_0, s_X9_door_1, s_X9_door_4, s_X9_door_7, s_X9_door_8, s_X9_door_9, s_X9_door_12, s_X9_door_13, s_X9_door_14, s_X9_door_15, s_X9_door_16, s_X9_door_17, s_X9_door_20, s_X9_door_22, s_X9_door_24, s_X9_door_25, s_X9_door_28, s_X9_door_29, s_X9_door_32, s_X9_door_34, s_X9_door_37, s_X9_door_40, s_X9_door_41, s_X9_door_42, s_X9_door_43, s_X9_door_46, s_X9_door_48, s_X9_door_49, s_X9_door_52, s_X9_door_53, aq_gI, aq_gL, aq_gA, aq_isA, aq_s1, aq_s2, aq_kill, aq_ob, aq_sm, aq_arI, aq_arB, aq_isB, aq_arL, aq_arA, aq_arN, aq_sh, Value.category, List.getElem?_cons_zero, List.getElem?_cons_succ, List.length_cons, List.length_nil, Option.toList_some, Option.toList_none, List.cons_append, List.nil_append, true_and, and_true, List.set_cons_zero, List.set_cons_succ, aq_n1, aq_n2, aq_n3, aq_n4, aq_f1, aq_f2, aq_f3, aq_f4, aq_gs, aq_ty1, aq_ty2, aq_ty3, aq_ty4, aq_ty5, Nat.reduceAdd, Nat.reduceLT, Nat.reduceEqDiff, Nat.reduceSub, if_true, if_false, ne_eq, not_false_eq_true, not_true_eq_false, Option.map_some, Option.map_none, Nat.zero_add, reduceCtorEq, Nat.reduceLeDiff, one_ne_zero_a, zero_ne_one_a, c2]
    exact main (by unfold isK; rw [hi]; rfl)
  | false =>
    by_cases e : k = -1
    · simp only [bB_f, e, s_X9_door_0, s_X9_door_1, s_X9_door_4, s_X9_door_7, s_X9_door_8, s_X9_door_9, s_X9_door_12, s_X9_door_13, s_X9_door_14, s_X9_door_15, s_X9_door_16, s_X9_door_17, s_X9_door_20, s_X9_door_22, s_X9_door_24, s_X9_door_25, s_X9_door_28, s_X9_door_29, s_X9_door_32, s_X9_door_34, s_X9_door_37, s_X9_door_40, s_X9_door_41, s_X9_door_42, s_X9_door_43, s_X9_door_46, s_X9_door_48, s_X9_door_49, s_X9_door_52, s_X9_door_53, aq_gI, aq_gL, aq_gA, aq_isA, aq_s1, aq_s2, aq_kill, aq_ob, aq_sm, aq_arI, aq_arB, aq_isB, aq_arL, aq_arA, aq_arN, aq_sh, Value.category, List.getElem?_cons_zero, List.getElem?_cons_succ, List.length_cons, List.length_nil, Option.toList_some, Option.toList_none, List.cons_append, List.nil_append, true_and, and_true, List.set_cons_zero, List.set_cons_succ, aq_n1, aq_n2, aq_n3, aq_n4, aq_f1, aq_f2, aq_f3, aq_f4, aq_gs, aq_ty1, aq_ty2, aq_ty3, aq_ty4, aq_ty5, Nat.reduceAdd, Nat.reduceLT, Nat.reduceEqDiff, Nat.reduceSub, if_true, if_false, ne_eq, not_false_eq_true, not_true_eq_false, Option.map_some, Option.map_none, Nat.zero_add, reduceCtorEq, Nat.reduceLeDiff, one_ne_zero_a, zero_ne_one_a, c2] at main ⊢
      exact main (by decide)
    · have hb := bad (by unfold isK; rw [hi]; simpa using e)
      simp only [bB_f, e, s_X9_door_0, s_X9_door_1, s_X9_door_4, s_X9_door_7, s_X9_door_8, s_X9_door_9, s_X9_door_12, s_X9_door_13, s_X9_door_14, s_X9_door_15, s_X9_door_16, s_X9_door_17, s_X9_door_20, s_X9_door_22, s_X9_door_24, s_X9_door_25, s_X9_door_28, s_X9_door_29, s_X9_door_32, s_X9_door_34, s_X9_door_37, s_X9_door_40, s_X9_door_41, s_X9_door_42, s_X9_door_43, s_X9_door_46, s_X9_door_48, s_X9_door_49, s_X9_door_52, s_X9_door_53, aq_gI, aq_gL, aq_gA, aq_isA, aq_s1, aq_s2, aq_kill, aq_ob, aq_sm, aq_arI, aq_arB, aq_isB, aq_arL, aq_arA, aq_arN, aq_sh, Value.category, List.getElem?_cons_zero, List.getElem?_cons_succ, List.length_cons, List.length_nil, Option.toList_some, Option.toList_none, List.cons_append, List.nil_append, true_and, and_true, List.set_cons_zero, List.set_cons_succ, aq_n1, aq_n2, aq_n3, aq_n4, aq_f1, aq_f2, aq_f3, aq_f4, aq_gs, aq_ty1, aq_ty2, aq_ty3, aq_ty4, aq_ty5, Nat.reduceAdd, Nat.reduceLT, Nat.reduceEqDiff, Nat.reduceSub, if_true, if_false, ne_eq, not_false_eq_true, not_true_eq_false, Option.map_some, Option.map_none, Nat.zero_add, reduceCtorEq, Nat.reduceLeDiff, one_ne_zero_a, zero_ne_one_a] at hb ⊢
      exact ⟨rfl, hb⟩
theorem x_oneWay (C : CLS V h w ht wx wy cb ch hm D Z P) (c d : Int32) : aq_T e_X9_oneWay 4 0 0 [.ref 0, .int c, .int d] h (fun r h' => match (if hm = true then PO w ht wx wy cb c d else none) with
    | none => r = some (.int 0) ∧ h' = h
    | some p => if Z.1 p = false then r = some (.int 0) ∧ h' = h else r = some (.int 1) ∧ sm 0 46 h h' ∧ CLS V h' w ht wx wy cb (ch + 1) true D (Z.1, Z.2.1, fs Z.2.2.1 p (if Z.2.2.1 p = some d.toNatClampNeg then none else some d.toNatClampNeg), Z.2.2.2) P) := by
  have hC := C
  obtain ⟨⟨cut, bes, lead, pas, fr, B, G⟩, c2, -, -, ⟨op, dk, od, kc, st, ex, M, gM⟩, -, -, -, -, -, hW⟩ := C
  have hn := wh_lt G.1
  have k0 := c2
  unfold iDk at c2
  refine ⟨Nat.le_of_ble_eq_true rfl, ?_⟩
  show aq_W _ _ 0 [some (.ref 0), some (.int c), some (.int d), none] [] _ _ _
  cases hm with
  | false =>
    simp only [s_X9_oneWay_0, s_X9_oneWay_1, s_X9_oneWay_2, s_X9_oneWay_3, s_X9_oneWay_6, s_X9_oneWay_7, s_X9_oneWay_8, s_X9_oneWay_9, s_X9_oneWay_12, s_X9_oneWay_13, s_X9_oneWay_16, s_X9_oneWay_17, s_X9_oneWay_20, s_X9_oneWay_23, s_X9_oneWay_24, s_X9_oneWay_25, s_X9_oneWay_26, s_X9_oneWay_29, s_X9_oneWay_30, s_X9_oneWay_31, s_X9_oneWay_34, s_X9_oneWay_35, aq_gI, aq_gL, aq_gA, aq_isA, aq_s1, aq_s2, aq_kill, aq_ob, aq_sm, aq_arI, aq_arB, aq_isB, aq_arL, aq_arA, aq_arN, aq_sh, Value.category, List.getElem?_cons_zero, List.getElem?_cons_succ, List.length_cons, List.length_nil, Option.toList_some, Option.toList_none, List.cons_append, List.nil_append, true_and, and_true, List.set_cons_zero, List.set_cons_succ, aq_n1, aq_n2, aq_n3, aq_n4, aq_f1, aq_f2, aq_f3, aq_f4, aq_gs, aq_ty1, aq_ty2, aq_ty3, aq_ty4, aq_ty5, Nat.reduceAdd, Nat.reduceLT, Nat.reduceEqDiff, Nat.reduceSub, if_true, if_false, ne_eq, not_false_eq_true, not_true_eq_false, Option.map_some, Option.map_none, Nat.zero_add, reduceCtorEq, Nat.reduceLeDiff, one_ne_zero_a, zero_ne_one_a, c2]
    refine (t_mazePassage0 k0 c d).use ?_
    rintro _ _ ⟨rfl, rfl⟩
    simp only [s_X9_oneWay_0, s_X9_oneWay_1, s_X9_oneWay_2, s_X9_oneWay_3, s_X9_oneWay_6, s_X9_oneWay_7, s_X9_oneWay_8, s_X9_oneWay_9, s_X9_oneWay_12, s_X9_oneWay_13, s_X9_oneWay_16, s_X9_oneWay_17, s_X9_oneWay_20, s_X9_oneWay_23, s_X9_oneWay_24, s_X9_oneWay_25, s_X9_oneWay_26, s_X9_oneWay_29, s_X9_oneWay_30, s_X9_oneWay_31, s_X9_oneWay_34, s_X9_oneWay_35, aq_gI, aq_gL, aq_gA, aq_isA, aq_s1, aq_s2, aq_kill, aq_ob, aq_sm, aq_arI, aq_arB, aq_isB, aq_arL, aq_arA, aq_arN, aq_sh, Value.category, List.getElem?_cons_zero, List.getElem?_cons_succ, List.length_cons, List.length_nil, Option.toList_some, Option.toList_none, List.cons_append, List.nil_append, true_and, and_true, List.set_cons_zero, List.set_cons_succ, aq_n1, aq_n2, aq_n3, aq_n4, aq_f1, aq_f2, aq_f3, aq_f4, aq_gs, aq_ty1, aq_ty2, aq_ty3, aq_ty4, aq_ty5, Nat.reduceAdd, Nat.reduceLT, Nat.reduceEqDiff, Nat.reduceSub, if_true, if_false, ne_eq, not_false_eq_true, not_true_eq_false, Option.map_some, Option.map_none, Nat.zero_add, reduceCtorEq, Nat.reduceLeDiff, one_ne_zero_a, zero_ne_one_a, Bool.false_eq_true]
    (first | trivial | exact ⟨rfl, rfl⟩ | exact ⟨rfl, trivial⟩ | exact ⟨rfl, rfl, trivial⟩ | rfl)
  | true =>
    simp only [s_X9_oneWay_0, s_X9_oneWay_1, s_X9_oneWay_2, s_X9_oneWay_3, s_X9_oneWay_6, s_X9_oneWay_7, s_X9_oneWay_8, s_X9_oneWay_9, s_X9_oneWay_12, s_X9_oneWay_13, s_X9_oneWay_16, s_X9_oneWay_17, s_X9_oneWay_20, s_X9_oneWay_23, s_X9_oneWay_24, s_X9_oneWay_25, s_X9_oneWay_26, s_X9_oneWay_29, s_X9_oneWay_30, s_X9_oneWay_31, s_X9_oneWay_34, s_X9_oneWay_35, aq_gI, aq_gL, aq_gA, aq_isA, aq_s1, aq_s2, aq_kill, aq_ob, aq_sm, aq_arI, aq_arB, aq_isB, aq_arL, aq_arA, aq_arN, aq_sh, Value.category, List.getElem?_cons_zero, List.getElem?_cons_succ, List.length_cons, List.length_nil, Option.toList_some, Option.toList_none, List.cons_append, List.nil_append, true_and, and_true, List.set_cons_zero, List.set_cons_succ, aq_n1, aq_n2, aq_n3, aq_n4, aq_f1, aq_f2, aq_f3, aq_f4, aq_gs, aq_ty1, aq_ty2, aq_ty3, aq_ty4, aq_ty5, Nat.reduceAdd, Nat.reduceLT, Nat.reduceEqDiff, Nat.reduceSub, if_true, if_false, ne_eq, not_false_eq_true, not_true_eq_false, Option.map_some, Option.map_none, Nat.zero_add, reduceCtorEq, Nat.reduceLeDiff, one_ne_zero_a, zero_ne_one_a, c2]
    refine (t_mazePassage k0 B G c d).use ?_
    rintro _ _ ⟨rfl, rfl⟩
    rw [PNX_PO]
    cases hp : PO w ht wx wy cb c d with
    | none => simp only [oI, s_X9_oneWay_0, s_X9_oneWay_1, s_X9_oneWay_2, s_X9_oneWay_3, s_X9_oneWay_6, s_X9_oneWay_7, s_X9_oneWay_8, s_X9_oneWay_9, s_X9_oneWay_12, s_X9_oneWay_13, s_X9_oneWay_16, s_X9_oneWay_17, s_X9_oneWay_20, s_X9_oneWay_23, s_X9_oneWay_24, s_X9_oneWay_25, s_X9_oneWay_26, s_X9_oneWay_29, s_X9_oneWay_30, s_X9_oneWay_31, s_X9_oneWay_34, s_X9_oneWay_35, aq_gI, aq_gL, aq_gA, aq_isA, aq_s1, aq_s2, aq_kill, aq_ob, aq_sm, aq_arI, aq_arB, aq_isB, aq_arL, aq_arA, aq_arN, aq_sh, Value.category, List.getElem?_cons_zero, List.getElem?_cons_succ, List.length_cons, List.length_nil, Option.toList_some, Option.toList_none, List.cons_append, List.nil_append, true_and, and_true, List.set_cons_zero, List.set_cons_succ, aq_n1, aq_n2, aq_n3, aq_n4, aq_f1, aq_f2, aq_f3, aq_f4, aq_gs, aq_ty1, aq_ty2, aq_ty3, aq_ty4, aq_ty5, Nat.reduceAdd, Nat.reduceLT, Nat.reduceEqDiff, Nat.reduceSub, if_true, if_false, ne_eq, not_false_eq_true, not_true_eq_false, Option.map_some, Option.map_none, Nat.zero_add, reduceCtorEq, Nat.reduceLeDiff, one_ne_zero_a, zero_ne_one_a]; (first | trivial | exact ⟨rfl, rfl⟩ | exact ⟨rfl, trivial⟩ | exact ⟨rfl, rfl, trivial⟩ | rfl)
    | some p =>
      have hl := PO_lt G.1 hp
      obtain ⟨j, k, m, hj, hk, rfl, rfl, hx, hpn⟩ := PO_some (by omega) hp
      obtain ⟨gz, g2, g3⟩ := gM rfl
      have ho := gz.1 p hl
      simp only [oI, s_X9_oneWay_0, s_X9_oneWay_1, s_X9_oneWay_2, s_X9_oneWay_3, s_X9_oneWay_6, s_X9_oneWay_7, s_X9_oneWay_8, s_X9_oneWay_9, s_X9_oneWay_12, s_X9_oneWay_13, s_X9_oneWay_16, s_X9_oneWay_17, s_X9_oneWay_20, s_X9_oneWay_23, s_X9_oneWay_24, s_X9_oneWay_25, s_X9_oneWay_26, s_X9_oneWay_29, s_X9_oneWay_30, s_X9_oneWay_31, s_X9_oneWay_34, s_X9_oneWay_35, aq_gI, aq_gL, aq_gA, aq_isA, aq_s1, aq_s2, aq_kill, aq_ob, aq_sm, aq_arI, aq_arB, aq_isB, aq_arL, aq_arA, aq_arN, aq_sh, Value.category, List.getElem?_cons_zero, List.getElem?_cons_succ, List.length_cons, List.length_nil, Option.toList_some, Option.toList_none, List.cons_append, List.nil_append, true_and, and_true, List.set_cons_zero, List.set_cons_succ, aq_n1, aq_n2, aq_n3, aq_n4, aq_f1, aq_f2, aq_f3, aq_f4, aq_gs, aq_ty1, aq_ty2, aq_ty3, aq_ty4, aq_ty5, Nat.reduceAdd, Nat.reduceLT, Nat.reduceEqDiff, Nat.reduceSub, if_true, if_false, ne_eq, not_false_eq_true, not_true_eq_false, Option.map_some, Option.map_none, Nat.zero_add, reduceCtorEq, Nat.reduceLeDiff, one_ne_zero_a, zero_ne_one_a, nI_ne_m1 (show p < 2 ^ 31 by omega), c2, M.1]
      refine (t_isOpen M hl (by omega) ⟨_, ho⟩).use ?_
      rintro _ _ ⟨rfl, rfl⟩
      rw [ho]
      cases e : Z.1 p with
      | false => simp only [bB_f, s_X9_oneWay_0, s_X9_oneWay_1, s_X9_oneWay_2, s_X9_oneWay_3, s_X9_oneWay_6, s_X9_oneWay_7, s_X9_oneWay_8, s_X9_oneWay_9, s_X9_oneWay_12, s_X9_oneWay_13, s_X9_oneWay_16, s_X9_oneWay_17, s_X9_oneWay_20, s_X9_oneWay_23, s_X9_oneWay_24, s_X9_oneWay_25, s_X9_oneWay_26, s_X9_oneWay_29, s_X9_oneWay_30, s_X9_oneWay_31, s_X9_oneWay_34, s_X9_oneWay_35, aq_gI, aq_gL, aq_gA, aq_isA, aq_s1, aq_s2, aq_kill, aq_ob, aq_sm, aq_arI, aq_arB, aq_isB, aq_arL, aq_arA, aq_arN, aq_sh, Value.category, List.getElem?_cons_zero, List.getElem?_cons_succ, List.length_cons, List.length_nil, Option.toList_some, Option.toList_none, List.cons_append, List.nil_append, true_and, and_true, List.set_cons_zero, List.set_cons_succ, aq_n1, aq_n2, aq_n3, aq_n4, aq_f1, aq_f2, aq_f3, aq_f4, aq_gs, aq_ty1, aq_ty2, aq_ty3, aq_ty4, aq_ty5, Nat.reduceAdd, Nat.reduceLT, Nat.reduceEqDiff, Nat.reduceSub, if_true, if_false, ne_eq, not_false_eq_true, not_true_eq_false, Option.map_some, Option.map_none, Nat.zero_add, reduceCtorEq, Nat.reduceLeDiff, one_ne_zero_a, zero_ne_one_a]; (first | trivial | exact ⟨rfl, rfl⟩ | exact ⟨rfl, trivial⟩ | exact ⟨rfl, rfl, trivial⟩ | rfl)
      | true =>
        simp only [bB_t, s_X9_oneWay_0, s_X9_oneWay_1, s_X9_oneWay_2, s_X9_oneWay_3, s_X9_oneWay_6, s_X9_oneWay_7, s_X9_oneWay_8, s_X9_oneWay_9, s_X9_oneWay_12, s_X9_oneWay_13, s_X9_oneWay_16, s_X9_oneWay_17, s_X9_oneWay_20, s_X9_oneWay_23, s_X9_oneWay_24, s_X9_oneWay_25, s_X9_oneWay_26, s_X9_oneWay_29, s_X9_oneWay_30, s_X9_oneWay_31, s_X9_oneWay_34, s_X9_oneWay_35, aq_gI, aq_gL, aq_gA, aq_isA, aq_s1, aq_s2, aq_kill, aq_ob, aq_sm, aq_arI, aq_arB, aq_isB, aq_arL, aq_arA, aq_arN, aq_sh, Value.category, List.getElem?_cons_zero, List.getElem?_cons_succ, List.length_cons, List.length_nil, Option.toList_some, Option.toList_none, List.cons_append, List.nil_append, true_and, and_true, List.set_cons_zero, List.set_cons_succ, aq_n1, aq_n2, aq_n3, aq_n4, aq_f1, aq_f2, aq_f3, aq_f4, aq_gs, aq_ty1, aq_ty2, aq_ty3, aq_ty4, aq_ty5, Nat.reduceAdd, Nat.reduceLT, Nat.reduceEqDiff, Nat.reduceSub, if_true, if_false, ne_eq, not_false_eq_true, not_true_eq_false, Option.map_some, Option.map_none, Nat.zero_add, reduceCtorEq, Nat.reduceLeDiff, one_ne_zero_a, zero_ne_one_a, c2, M.1, Bool.true_eq_false]
        refine (t_turnOneWay M hl (by omega) (nI k)).use ?_
        rintro _ h2 ⟨rfl, M2, S2⟩
        simp only [s_X9_oneWay_0, s_X9_oneWay_1, s_X9_oneWay_2, s_X9_oneWay_3, s_X9_oneWay_6, s_X9_oneWay_7, s_X9_oneWay_8, s_X9_oneWay_9, s_X9_oneWay_12, s_X9_oneWay_13, s_X9_oneWay_16, s_X9_oneWay_17, s_X9_oneWay_20, s_X9_oneWay_23, s_X9_oneWay_24, s_X9_oneWay_25, s_X9_oneWay_26, s_X9_oneWay_29, s_X9_oneWay_30, s_X9_oneWay_31, s_X9_oneWay_34, s_X9_oneWay_35, aq_gI, aq_gL, aq_gA, aq_isA, aq_s1, aq_s2, aq_kill, aq_ob, aq_sm, aq_arI, aq_arB, aq_isB, aq_arL, aq_arA, aq_arN, aq_sh, Value.category, List.getElem?_cons_zero, List.getElem?_cons_succ, List.length_cons, List.length_nil, Option.toList_some, Option.toList_none, List.cons_append, List.nil_append, true_and, and_true, List.set_cons_zero, List.set_cons_succ, aq_n1, aq_n2, aq_n3, aq_n4, aq_f1, aq_f2, aq_f3, aq_f4, aq_gs, aq_ty1, aq_ty2, aq_ty3, aq_ty4, aq_ty5, Nat.reduceAdd, Nat.reduceLT, Nat.reduceEqDiff, Nat.reduceSub, if_true, if_false, ne_eq, not_false_eq_true, not_true_eq_false, Option.map_some, Option.map_none, Nat.zero_add, reduceCtorEq, Nat.reduceLeDiff, one_ne_zero_a, zero_ne_one_a, nI_clamp (show k < 2 ^ 31 by omega)]
        have h1 := gz.2.2.1 p hl
        have h3 : od p = nI k ↔ Z.2.2.1 p = some k := by
          rw [h1.1]
          exact oI_inj (b := some k) (fun m hm => by have := h1.2 m hm; omega) (fun m hm => by cases hm; omega)
        refine ⟨rfl, S2.mo (by decide) (by decide), CLS_mz hC S2 (Nat.lt_succ_self ch) ⟨_, _, _, _, _, _, by rw [← nI_1]; exact M2, fun _ => ⟨gMz_one gz p ?_ ?_, g2, g3⟩⟩ (hW rfl)⟩
        · by_cases q : Z.2.2.1 p = some k
          · rw [if_pos q, if_pos (h3.mpr q)]; rfl
          · rw [if_neg q, if_neg (fun z => q (h3.mp z))]; rfl
        · intro i hi
          split at hi
          · cases hi
          · cases hi; exact hk
theorem wfZ_P {n : Nat} {P' : plT} (W : wfZ n cb Z P) (h1 : P'.1 < n ∧ cb P'.1 = false) (h2 : P'.2.1 < 16) : wfZ n cb Z P' := ⟨W.1, W.2.1, W.2.2.1, h1, h2⟩
theorem x_start (C : CLS V h w ht wx wy cb ch hm D Z P) (c : Int32) : aq_T e_X9_start 2 0 0 [.ref 0, .int c] h (fun r h' => if (hm && (inC (w * ht) c && !cb c.toNatClampNeg)) = false then r = some (.int 0) ∧ h' = h else r = some (.int 1) ∧ sm 0 46 h h' ∧ CLS V h' w ht wx wy cb (ch + 1) true D (Z.1, Z.2.1, Z.2.2.1, Z.2.2.2.1, c.toNatClampNeg, Z.2.2.2.2.2) (c.toNatClampNeg, kmm Z.2.2.2.1 c.toNatClampNeg, 0)) := by
  have hC := C
  obtain ⟨⟨cut, bes, lead, pas, fr, B, G⟩, c2, -, -, ⟨op, dk, od, kc, st, ex, M, gM⟩, -, -, -, ⟨p1, p2, p3, A, gA⟩, -, hW⟩ := C
  have hn := wh_lt G.1
  have k0 := c2
  unfold iDk at c2
  have a1 := A
  unfold iWk at a1
  refine ⟨Nat.le_of_ble_eq_true rfl, ?_⟩
  show aq_W _ _ 0 [some (.ref 0), some (.int c)] [] _ _ _
  cases hm with
  | false =>
    simp only [s_X9_start_0, s_X9_start_1, s_X9_start_2, s_X9_start_5, s_X9_start_8, s_X9_start_9, s_X9_start_10, s_X9_start_11, s_X9_start_14, s_X9_start_15, s_X9_start_18, s_X9_start_19, s_X9_start_22, s_X9_start_25, s_X9_start_26, aq_gI, aq_gL, aq_gA, aq_isA, aq_s1, aq_s2, aq_kill, aq_ob, aq_sm, aq_arI, aq_arB, aq_isB, aq_arL, aq_arA, aq_arN, aq_sh, Value.category, List.getElem?_cons_zero, List.getElem?_cons_succ, List.length_cons, List.length_nil, Option.toList_some, Option.toList_none, List.cons_append, List.nil_append, true_and, and_true, List.set_cons_zero, List.set_cons_succ, aq_n1, aq_n2, aq_n3, aq_n4, aq_f1, aq_f2, aq_f3, aq_f4, aq_gs, aq_ty1, aq_ty2, aq_ty3, aq_ty4, aq_ty5, Nat.reduceAdd, Nat.reduceLT, Nat.reduceEqDiff, Nat.reduceSub, if_true, if_false, ne_eq, not_false_eq_true, not_true_eq_false, Option.map_some, Option.map_none, Nat.zero_add, reduceCtorEq, Nat.reduceLeDiff, one_ne_zero_a, zero_ne_one_a, c2]
    refine (t_mazeHas0 k0 c).use ?_
    rintro _ _ ⟨rfl, rfl⟩
    simp only [s_X9_start_0, s_X9_start_1, s_X9_start_2, s_X9_start_5, s_X9_start_8, s_X9_start_9, s_X9_start_10, s_X9_start_11, s_X9_start_14, s_X9_start_15, s_X9_start_18, s_X9_start_19, s_X9_start_22, s_X9_start_25, s_X9_start_26, aq_gI, aq_gL, aq_gA, aq_isA, aq_s1, aq_s2, aq_kill, aq_ob, aq_sm, aq_arI, aq_arB, aq_isB, aq_arL, aq_arA, aq_arN, aq_sh, Value.category, List.getElem?_cons_zero, List.getElem?_cons_succ, List.length_cons, List.length_nil, Option.toList_some, Option.toList_none, List.cons_append, List.nil_append, true_and, and_true, List.set_cons_zero, List.set_cons_succ, aq_n1, aq_n2, aq_n3, aq_n4, aq_f1, aq_f2, aq_f3, aq_f4, aq_gs, aq_ty1, aq_ty2, aq_ty3, aq_ty4, aq_ty5, Nat.reduceAdd, Nat.reduceLT, Nat.reduceEqDiff, Nat.reduceSub, if_true, if_false, ne_eq, not_false_eq_true, not_true_eq_false, Option.map_some, Option.map_none, Nat.zero_add, reduceCtorEq, Nat.reduceLeDiff, one_ne_zero_a, zero_ne_one_a, Bool.false_and]
    (first | trivial | exact ⟨rfl, rfl⟩ | exact ⟨rfl, trivial⟩ | exact ⟨rfl, rfl, trivial⟩ | rfl)
  | true =>
    simp only [s_X9_start_0, s_X9_start_1, s_X9_start_2, s_X9_start_5, s_X9_start_8, s_X9_start_9, s_X9_start_10, s_X9_start_11, s_X9_start_14, s_X9_start_15, s_X9_start_18, s_X9_start_19, s_X9_start_22, s_X9_start_25, s_X9_start_26, aq_gI, aq_gL, aq_gA, aq_isA, aq_s1, aq_s2, aq_kill, aq_ob, aq_sm, aq_arI, aq_arB, aq_isB, aq_arL, aq_arA, aq_arN, aq_sh, Value.category, List.getElem?_cons_zero, List.getElem?_cons_succ, List.length_cons, List.length_nil, Option.toList_some, Option.toList_none, List.cons_append, List.nil_append, true_and, and_true, List.set_cons_zero, List.set_cons_succ, aq_n1, aq_n2, aq_n3, aq_n4, aq_f1, aq_f2, aq_f3, aq_f4, aq_gs, aq_ty1, aq_ty2, aq_ty3, aq_ty4, aq_ty5, Nat.reduceAdd, Nat.reduceLT, Nat.reduceEqDiff, Nat.reduceSub, if_true, if_false, ne_eq, not_false_eq_true, not_true_eq_false, Option.map_some, Option.map_none, Nat.zero_add, reduceCtorEq, Nat.reduceLeDiff, one_ne_zero_a, zero_ne_one_a, c2]
    refine (t_mazeHas k0 B G c).use ?_
    rintro _ _ ⟨rfl, rfl⟩
    simp only [Bool.true_and]
    by_cases e : (inC (w * ht) c && !cb c.toNatClampNeg) = true
    · obtain ⟨e1, e2⟩ := Bool.and_eq_true_iff.mp e
      rcases inC_cs (w * ht) c (by omega) with q | ⟨j, hj, rfl⟩
      · rw [q] at e1; cases e1
      · rw [nI_clamp (by omega)] at e e2 ⊢
        have e3 : cb j = false := by simpa using e2
        obtain ⟨gz, g2, g3⟩ := gM rfl
        simp only [e, bB_t, s_X9_start_0, s_X9_start_1, s_X9_start_2, s_X9_start_5, s_X9_start_8, s_X9_start_9, s_X9_start_10, s_X9_start_11, s_X9_start_14, s_X9_start_15, s_X9_start_18, s_X9_start_19, s_X9_start_22, s_X9_start_25, s_X9_start_26, aq_gI, aq_gL, aq_gA, aq_isA, aq_s1, aq_s2, aq_kill, aq_ob, aq_sm, aq_arI, aq_arB, aq_isB, aq_arL, aq_arA, aq_arN, aq_sh, Value.category, List.getElem?_cons_zero, List.getElem?_cons_succ, List.length_cons, List.length_nil, Option.toList_some, Option.toList_none, List.cons_append, List.nil_append, true_and, and_true, List.set_cons_zero, List.set_cons_succ, aq_n1, aq_n2, aq_n3, aq_n4, aq_f1, aq_f2, aq_f3, aq_f4, aq_gs, aq_ty1, aq_ty2, aq_ty3, aq_ty4, aq_ty5, Nat.reduceAdd, Nat.reduceLT, Nat.reduceEqDiff, Nat.reduceSub, if_true, if_false, ne_eq, not_false_eq_true, not_true_eq_false, Option.map_some, Option.map_none, Nat.zero_add, reduceCtorEq, Nat.reduceLeDiff, one_ne_zero_a, zero_ne_one_a, c2, M.1, Bool.true_eq_false]
        refine (t_setStart M (nI j)).use ?_
        rintro _ h2 ⟨rfl, M2, S2⟩
        have c2' : h2[0]? = _ := (S2 0 (by decide)).trans c2
        have a2 : h2[45]? = _ := (S2 45 (by decide)).trans a1
        simp only [s_X9_start_0, s_X9_start_1, s_X9_start_2, s_X9_start_5, s_X9_start_8, s_X9_start_9, s_X9_start_10, s_X9_start_11, s_X9_start_14, s_X9_start_15, s_X9_start_18, s_X9_start_19, s_X9_start_22, s_X9_start_25, s_X9_start_26, aq_gI, aq_gL, aq_gA, aq_isA, aq_s1, aq_s2, aq_kill, aq_ob, aq_sm, aq_arI, aq_arB, aq_isB, aq_arL, aq_arA, aq_arN, aq_sh, Value.category, List.getElem?_cons_zero, List.getElem?_cons_succ, List.length_cons, List.length_nil, Option.toList_some, Option.toList_none, List.cons_append, List.nil_append, true_and, and_true, List.set_cons_zero, List.set_cons_succ, aq_n1, aq_n2, aq_n3, aq_n4, aq_f1, aq_f2, aq_f3, aq_f4, aq_gs, aq_ty1, aq_ty2, aq_ty3, aq_ty4, aq_ty5, Nat.reduceAdd, Nat.reduceLT, Nat.reduceEqDiff, Nat.reduceSub, if_true, if_false, ne_eq, not_false_eq_true, not_true_eq_false, Option.map_some, Option.map_none, Nat.zero_add, reduceCtorEq, Nat.reduceLeDiff, one_ne_zero_a, zero_ne_one_a, c2', a2]
        refine (t_begin M2 a2).use ?_
        rintro _ h3 ⟨rfl, rfl⟩
        simp only [s_X9_start_0, s_X9_start_1, s_X9_start_2, s_X9_start_5, s_X9_start_8, s_X9_start_9, s_X9_start_10, s_X9_start_11, s_X9_start_14, s_X9_start_15, s_X9_start_18, s_X9_start_19, s_X9_start_22, s_X9_start_25, s_X9_start_26, aq_gI, aq_gL, aq_gA, aq_isA, aq_s1, aq_s2, aq_kill, aq_ob, aq_sm, aq_arI, aq_arB, aq_isB, aq_arL, aq_arA, aq_arN, aq_sh, Value.category, List.getElem?_cons_zero, List.getElem?_cons_succ, List.length_cons, List.length_nil, Option.toList_some, Option.toList_none, List.cons_append, List.nil_append, true_and, and_true, List.set_cons_zero, List.set_cons_succ, aq_n1, aq_n2, aq_n3, aq_n4, aq_f1, aq_f2, aq_f3, aq_f4, aq_gs, aq_ty1, aq_ty2, aq_ty3, aq_ty4, aq_ty5, Nat.reduceAdd, Nat.reduceLT, Nat.reduceEqDiff, Nat.reduceSub, if_true, if_false, ne_eq, not_false_eq_true, not_true_eq_false, Option.map_some, Option.map_none, Nat.zero_add, reduceCtorEq, Nat.reduceLeDiff, one_ne_zero_a, zero_ne_one_a]
        have W := hW rfl
        have W2 : wfZ (w * ht) cb (Z.1, Z.2.1, Z.2.2.1, Z.2.2.2.1, j, Z.2.2.2.2.2) P := ⟨⟨hj, e3⟩, W.2.1, W.2.2.1, W.2.2.2.1, W.2.2.2.2⟩
        have C2 := CLS_mz (Z' := (Z.1, Z.2.1, Z.2.2.1, Z.2.2.2.1, j, Z.2.2.2.2.2)) hC S2 (Nat.lt_succ_self ch) ⟨_, _, _, _, _, _, by rw [← nI_1]; exact M2, fun _ => ⟨gz, rfl, g3⟩⟩ W2
        have S3 : sm 45 45 h2 (h2.set 45 (.inr (8, [.ref 32, .int (nI j), .int (nI (km kc (nI j))), .int 0]))) := (sm.rf _ _ _).st (by decide) (by decide)
        refine ⟨rfl, (S2.mo (by decide) (by decide)).tr (S3.mo (by decide) (by decide)), CLS_wk C2 S3 ⟨nI j, nI (km kc (nI j)), 0, by unfold iWk; simp only [aq_gI, aq_gL, aq_gA, aq_isA, aq_s1, aq_s2, aq_kill, aq_ob, aq_sm, aq_arI, aq_arB, aq_isB, aq_arL, aq_arA, aq_arN, aq_sh, Value.category, List.getElem?_cons_zero, List.getElem?_cons_succ, List.length_cons, List.length_nil, Option.toList_some, Option.toList_none, List.cons_append, List.nil_append, true_and, and_true, List.set_cons_zero, List.set_cons_succ, aq_n1, aq_n2, aq_n3, aq_n4, aq_f1, aq_f2, aq_f3, aq_f4, aq_gs, aq_ty1, aq_ty2, aq_ty3, aq_ty4, aq_ty5, Nat.reduceAdd, Nat.reduceLT, Nat.reduceEqDiff, Nat.reduceSub, if_true, if_false, ne_eq, not_false_eq_true, not_true_eq_false, Option.map_some, Option.map_none, Nat.zero_add, reduceCtorEq, Nat.reduceLeDiff, one_ne_zero_a, zero_ne_one_a, a2], fun _ => ⟨rfl, by rw [km_kmm (fun k hk => (gz.2.2.2 k hk).1)], rfl⟩⟩ (wfZ_P W2 ⟨hj, e3⟩ (kmm_lt _ _))⟩
    · have e' : (inC (w * ht) c && !cb c.toNatClampNeg) = false := by simpa using e
      simp only [e', bB_f, s_X9_start_0, s_X9_start_1, s_X9_start_2, s_X9_start_5, s_X9_start_8, s_X9_start_9, s_X9_start_10, s_X9_start_11, s_X9_start_14, s_X9_start_15, s_X9_start_18, s_X9_start_19, s_X9_start_22, s_X9_start_25, s_X9_start_26, aq_gI, aq_gL, aq_gA, aq_isA, aq_s1, aq_s2, aq_kill, aq_ob, aq_sm, aq_arI, aq_arB, aq_isB, aq_arL, aq_arA, aq_arN, aq_sh, Value.category, List.getElem?_cons_zero, List.getElem?_cons_succ, List.length_cons, List.length_nil, Option.toList_some, Option.toList_none, List.cons_append, List.nil_append, true_and, and_true, List.set_cons_zero, List.set_cons_succ, aq_n1, aq_n2, aq_n3, aq_n4, aq_f1, aq_f2, aq_f3, aq_f4, aq_gs, aq_ty1, aq_ty2, aq_ty3, aq_ty4, aq_ty5, Nat.reduceAdd, Nat.reduceLT, Nat.reduceEqDiff, Nat.reduceSub, if_true, if_false, ne_eq, not_false_eq_true, not_true_eq_false, Option.map_some, Option.map_none, Nat.zero_add, reduceCtorEq, Nat.reduceLeDiff, one_ne_zero_a, zero_ne_one_a]
      (first | trivial | exact ⟨rfl, rfl⟩ | exact ⟨rfl, trivial⟩ | exact ⟨rfl, rfl, trivial⟩ | rfl)
theorem x_again (C : CLS V h w ht wx wy cb ch hm D Z P) : aq_T e_X9_again 1 0 0 [.ref 0] h (fun r h' => if hm = false then r = some (.int 0) ∧ h' = h else r = some (.int 1) ∧ sm 0 46 h h' ∧ CLS V h' w ht wx wy cb ch true D Z (Z.2.2.2.2.1, kmm Z.2.2.2.1 Z.2.2.2.2.1, 0)) := by
  have hC := C
  obtain ⟨-, c2, -, -, ⟨op, dk, od, kc, st, ex, M, gM⟩, -, -, -, ⟨p1, p2, p3, A, gA⟩, -, hW⟩ := C
  unfold iDk at c2
  have a1 := A
  unfold iWk at a1
  refine ⟨Nat.le_of_ble_eq_true rfl, ?_⟩
  show aq_W _ _ 0 [some (.ref 0)] [] _ _ _
  cases hm with
  | false =>
    simp only [s_X9_again_0, s_X9_again_1, s_X9_again_4, s_X9_again_7, s_X9_again_8, s_X9_again_9, s_X9_again_10, s_X9_again_13, s_X9_again_16, s_X9_again_17, aq_gI, aq_gL, aq_gA, aq_isA, aq_s1, aq_s2, aq_kill, aq_ob, aq_sm, aq_arI, aq_arB, aq_isB, aq_arL, aq_arA, aq_arN, aq_sh, Value.category, List.getElem?_cons_zero, List.getElem?_cons_succ, List.length_cons, List.length_nil, Option.toList_some, Option.toList_none, List.cons_append, List.nil_append, true_and, and_true, List.set_cons_zero, List.set_cons_succ, aq_n1, aq_n2, aq_n3, aq_n4, aq_f1, aq_f2, aq_f3, aq_f4, aq_gs, aq_ty1, aq_ty2, aq_ty3, aq_ty4, aq_ty5, Nat.reduceAdd, Nat.reduceLT, Nat.reduceEqDiff, Nat.reduceSub, if_true, if_false, ne_eq, not_false_eq_true, not_true_eq_false, Option.map_some, Option.map_none, Nat.zero_add, reduceCtorEq, Nat.reduceLeDiff, one_ne_zero_a, zero_ne_one_a, c2, bB_f]
    (first | trivial | exact ⟨rfl, rfl⟩ | exact ⟨rfl, trivial⟩ | exact ⟨rfl, rfl, trivial⟩ | rfl)
  | true =>
    obtain ⟨gz, g2, g3⟩ := gM rfl
    simp only [s_X9_again_0, s_X9_again_1, s_X9_again_4, s_X9_again_7, s_X9_again_8, s_X9_again_9, s_X9_again_10, s_X9_again_13, s_X9_again_16, s_X9_again_17, aq_gI, aq_gL, aq_gA, aq_isA, aq_s1, aq_s2, aq_kill, aq_ob, aq_sm, aq_arI, aq_arB, aq_isB, aq_arL, aq_arA, aq_arN, aq_sh, Value.category, List.getElem?_cons_zero, List.getElem?_cons_succ, List.length_cons, List.length_nil, Option.toList_some, Option.toList_none, List.cons_append, List.nil_append, true_and, and_true, List.set_cons_zero, List.set_cons_succ, aq_n1, aq_n2, aq_n3, aq_n4, aq_f1, aq_f2, aq_f3, aq_f4, aq_gs, aq_ty1, aq_ty2, aq_ty3, aq_ty4, aq_ty5, Nat.reduceAdd, Nat.reduceLT, Nat.reduceEqDiff, Nat.reduceSub, if_true, if_false, ne_eq, not_false_eq_true, not_true_eq_false, Option.map_some, Option.map_none, Nat.zero_add, reduceCtorEq, Nat.reduceLeDiff, one_ne_zero_a, zero_ne_one_a, c2, bB_t, a1, Bool.true_eq_false]
    refine (t_begin M A).use ?_
    rintro _ h3 ⟨rfl, rfl⟩
    simp only [s_X9_again_0, s_X9_again_1, s_X9_again_4, s_X9_again_7, s_X9_again_8, s_X9_again_9, s_X9_again_10, s_X9_again_13, s_X9_again_16, s_X9_again_17, aq_gI, aq_gL, aq_gA, aq_isA, aq_s1, aq_s2, aq_kill, aq_ob, aq_sm, aq_arI, aq_arB, aq_isB, aq_arL, aq_arA, aq_arN, aq_sh, Value.category, List.getElem?_cons_zero, List.getElem?_cons_succ, List.length_cons, List.length_nil, Option.toList_some, Option.toList_none, List.cons_append, List.nil_append, true_and, and_true, List.set_cons_zero, List.set_cons_succ, aq_n1, aq_n2, aq_n3, aq_n4, aq_f1, aq_f2, aq_f3, aq_f4, aq_gs, aq_ty1, aq_ty2, aq_ty3, aq_ty4, aq_ty5, Nat.reduceAdd, Nat.reduceLT, Nat.reduceEqDiff, Nat.reduceSub, if_true, if_false, ne_eq, not_false_eq_true, not_true_eq_false, Option.map_some, Option.map_none, Nat.zero_add, reduceCtorEq, Nat.reduceLeDiff, one_ne_zero_a, zero_ne_one_a]
    have W := hW rfl
    have S3 : sm 45 45 h (h.set 45 (.inr (8, [.ref 32, .int st, .int (nI (km kc st)), .int 0]))) := (sm.rf _ _ _).st (by decide) (by decide)
    refine ⟨rfl, S3.mo (by decide) (by decide), CLS_wk hC S3 ⟨st, nI (km kc st), 0, by unfold iWk; simp only [aq_gI, aq_gL, aq_gA, aq_isA, aq_s1, aq_s2, aq_kill, aq_ob, aq_sm, aq_arI, aq_arB, aq_isB, aq_arL, aq_arA, aq_arN, aq_sh, Value.category, List.getElem?_cons_zero, List.getElem?_cons_succ, List.length_cons, List.length_nil, Option.toList_some, Option.toList_none, List.cons_append, List.nil_append, true_and, and_true, List.set_cons_zero, List.set_cons_succ, aq_n1, aq_n2, aq_n3, aq_n4, aq_f1, aq_f2, aq_f3, aq_f4, aq_gs, aq_ty1, aq_ty2, aq_ty3, aq_ty4, aq_ty5, Nat.reduceAdd, Nat.reduceLT, Nat.reduceEqDiff, Nat.reduceSub, if_true, if_false, ne_eq, not_false_eq_true, not_true_eq_false, Option.map_some, Option.map_none, Nat.zero_add, reduceCtorEq, Nat.reduceLeDiff, one_ne_zero_a, zero_ne_one_a, a1], fun _ => ⟨g2, by rw [g2, km_kmm (fun k hk => (gz.2.2.2 k hk).1)], rfl⟩⟩ (wfZ_P W W.1 (kmm_lt _ _))⟩
theorem x_walk (C : CLS V h w ht wx wy cb ch hm D Z P) (d : Int32) : aq_T e_X9_walk 2 0 0 [.ref 0, .int d] h (fun r h' => match (if (hm && inC 4 d) = true then stf w ht wx wy cb Z.1 Z.2.1 Z.2.2.1 P.1 d.toNatClampNeg (nI P.2.1) else none) with
    | none => r = some (.int 0) ∧ h' = h
    | some m => r = some (.int 1) ∧ sm 0 46 h h' ∧ CLS V h' w ht wx wy cb ch true D Z (m, P.2.1 ||| kmm Z.2.2.2.1 m, P.2.2 + 1)) := by
  have hC := C
  obtain ⟨⟨cut, bes, lead, pas, fr, B, G⟩, c2, -, -, ⟨op, dk, od, kc, st, ex, M, gM⟩, -, -, -, ⟨p1, p2, p3, A, gA⟩, -, hW⟩ := C
  have hn := wh_lt G.1
  unfold iDk at c2
  have a1 := A
  unfold iWk at a1
  refine ⟨Nat.le_of_ble_eq_true rfl, ?_⟩
  show aq_W _ _ 0 [some (.ref 0), some (.int d)] [] _ _ _
  cases hm with
  | false =>
    simp only [s_X9_walk_0, s_X9_walk_1, s_X9_walk_4, s_X9_walk_7, s_X9_walk_8, s_X9_walk_11, s_X9_walk_12, s_X9_walk_15, s_X9_walk_18, s_X9_walk_19, s_X9_walk_22, s_X9_walk_23, aq_gI, aq_gL, aq_gA, aq_isA, aq_s1, aq_s2, aq_kill, aq_ob, aq_sm, aq_arI, aq_arB, aq_isB, aq_arL, aq_arA, aq_arN, aq_sh, Value.category, List.getElem?_cons_zero, List.getElem?_cons_succ, List.length_cons, List.length_nil, Option.toList_some, Option.toList_none, List.cons_append, List.nil_append, true_and, and_true, List.set_cons_zero, List.set_cons_succ, aq_n1, aq_n2, aq_n3, aq_n4, aq_f1, aq_f2, aq_f3, aq_f4, aq_gs, aq_ty1, aq_ty2, aq_ty3, aq_ty4, aq_ty5, Nat.reduceAdd, Nat.reduceLT, Nat.reduceEqDiff, Nat.reduceSub, if_true, if_false, ne_eq, not_false_eq_true, not_true_eq_false, Option.map_some, Option.map_none, Nat.zero_add, reduceCtorEq, Nat.reduceLeDiff, one_ne_zero_a, zero_ne_one_a, c2, bB_f, Bool.false_and, Bool.false_eq_true]
    (first | trivial | exact ⟨rfl, rfl⟩ | exact ⟨rfl, trivial⟩ | exact ⟨rfl, rfl, trivial⟩ | rfl)
  | true =>
    obtain ⟨gz, g2, g3⟩ := gM rfl
    obtain ⟨rfl, rfl, rfl⟩ := gA rfl
    have W := hW rfl
    simp only [s_X9_walk_0, s_X9_walk_1, s_X9_walk_4, s_X9_walk_7, s_X9_walk_8, s_X9_walk_11, s_X9_walk_12, s_X9_walk_15, s_X9_walk_18, s_X9_walk_19, s_X9_walk_22, s_X9_walk_23, aq_gI, aq_gL, aq_gA, aq_isA, aq_s1, aq_s2, aq_kill, aq_ob, aq_sm, aq_arI, aq_arB, aq_isB, aq_arL, aq_arA, aq_arN, aq_sh, Value.category, List.getElem?_cons_zero, List.getElem?_cons_succ, List.length_cons, List.length_nil, Option.toList_some, Option.toList_none, List.cons_append, List.nil_append, true_and, and_true, List.set_cons_zero, List.set_cons_succ, aq_n1, aq_n2, aq_n3, aq_n4, aq_f1, aq_f2, aq_f3, aq_f4, aq_gs, aq_ty1, aq_ty2, aq_ty3, aq_ty4, aq_ty5, Nat.reduceAdd, Nat.reduceLT, Nat.reduceEqDiff, Nat.reduceSub, if_true, if_false, ne_eq, not_false_eq_true, not_true_eq_false, Option.map_some, Option.map_none, Nat.zero_add, reduceCtorEq, Nat.reduceLeDiff, one_ne_zero_a, zero_ne_one_a, c2, bB_t, a1, Bool.true_and]
    refine (t_go B G M gz W.2.2.2.1.1 A d).use ?_
    have hfree : ∀ m, (if inC 4 d = true then stf w ht wx wy cb Z.1 Z.2.1 Z.2.2.1 P.1 d.toNatClampNeg (nI P.2.1) else none) = some m → m < w * ht ∧ cb m = false := by
      intro m hm
      split at hm
      · rename_i hi
        rcases inC_cs 4 d (by decide) with q | ⟨k, hk, rfl⟩
        · rw [q] at hi; cases hi
        · rw [nI_clamp (by omega)] at hm
          have key : ∀ m, nx w ht wx wy cb P.1 k = some m → m < w * ht ∧ cb m = false := fun m q => by have := nx_ok G.1.2.1 G.1.2.2.2 W.2.2.2.1.1 hk q; exact ⟨this.1, this.2.2.2.1⟩
          unfold stf at hm
          split at hm
          · cases hm
          · split at hm
            · exact key m hm
            · split at hm
              · exact key m hm
              · cases hm
      · cases hm
    generalize (if inC 4 d = true then stf w ht wx wy cb Z.1 Z.2.1 Z.2.2.1 P.1 d.toNatClampNeg (nI P.2.1) else none) = o at hfree ⊢
    cases o with
    | none =>
      rintro _ _ ⟨rfl, rfl⟩
      simp only [s_X9_walk_0, s_X9_walk_1, s_X9_walk_4, s_X9_walk_7, s_X9_walk_8, s_X9_walk_11, s_X9_walk_12, s_X9_walk_15, s_X9_walk_18, s_X9_walk_19, s_X9_walk_22, s_X9_walk_23, aq_gI, aq_gL, aq_gA, aq_isA, aq_s1, aq_s2, aq_kill, aq_ob, aq_sm, aq_arI, aq_arB, aq_isB, aq_arL, aq_arA, aq_arN, aq_sh, Value.category, List.getElem?_cons_zero, List.getElem?_cons_succ, List.length_cons, List.length_nil, Option.toList_some, Option.toList_none, List.cons_append, List.nil_append, true_and, and_true, List.set_cons_zero, List.set_cons_succ, aq_n1, aq_n2, aq_n3, aq_n4, aq_f1, aq_f2, aq_f3, aq_f4, aq_gs, aq_ty1, aq_ty2, aq_ty3, aq_ty4, aq_ty5, Nat.reduceAdd, Nat.reduceLT, Nat.reduceEqDiff, Nat.reduceSub, if_true, if_false, ne_eq, not_false_eq_true, not_true_eq_false, Option.map_some, Option.map_none, Nat.zero_add, reduceCtorEq, Nat.reduceLeDiff, one_ne_zero_a, zero_ne_one_a]
      (first | trivial | exact ⟨rfl, rfl⟩ | exact ⟨rfl, trivial⟩ | exact ⟨rfl, rfl, trivial⟩ | rfl)
    | some m =>
      rintro _ _ ⟨rfl, rfl⟩
      simp only [s_X9_walk_0, s_X9_walk_1, s_X9_walk_4, s_X9_walk_7, s_X9_walk_8, s_X9_walk_11, s_X9_walk_12, s_X9_walk_15, s_X9_walk_18, s_X9_walk_19, s_X9_walk_22, s_X9_walk_23, aq_gI, aq_gL, aq_gA, aq_isA, aq_s1, aq_s2, aq_kill, aq_ob, aq_sm, aq_arI, aq_arB, aq_isB, aq_arL, aq_arA, aq_arN, aq_sh, Value.category, List.getElem?_cons_zero, List.getElem?_cons_succ, List.length_cons, List.length_nil, Option.toList_some, Option.toList_none, List.cons_append, List.nil_append, true_and, and_true, List.set_cons_zero, List.set_cons_succ, aq_n1, aq_n2, aq_n3, aq_n4, aq_f1, aq_f2, aq_f3, aq_f4, aq_gs, aq_ty1, aq_ty2, aq_ty3, aq_ty4, aq_ty5, Nat.reduceAdd, Nat.reduceLT, Nat.reduceEqDiff, Nat.reduceSub, if_true, if_false, ne_eq, not_false_eq_true, not_true_eq_false, Option.map_some, Option.map_none, Nat.zero_add, reduceCtorEq, Nat.reduceLeDiff, one_ne_zero_a, zero_ne_one_a]
      have hk16 := km_lt kc (nI m)
      have S3 : sm 45 45 h (h.set 45 (.inr (8, [.ref 32, .int (nI m), .int (nI P.2.1 ||| nI (km kc (nI m))), .int (nI P.2.2 + 1)]))) := (sm.rf _ _ _).st (by decide) (by decide)
      refine ⟨rfl, S3.mo (by decide) (by decide), CLS_wk hC S3 ⟨nI m, nI P.2.1 ||| nI (km kc (nI m)), nI P.2.2 + 1, by unfold iWk; simp only [aq_gI, aq_gL, aq_gA, aq_isA, aq_s1, aq_s2, aq_kill, aq_ob, aq_sm, aq_arI, aq_arB, aq_isB, aq_arL, aq_arA, aq_arN, aq_sh, Value.category, List.getElem?_cons_zero, List.getElem?_cons_succ, List.length_cons, List.length_nil, Option.toList_some, Option.toList_none, List.cons_append, List.nil_append, true_and, and_true, List.set_cons_zero, List.set_cons_succ, aq_n1, aq_n2, aq_n3, aq_n4, aq_f1, aq_f2, aq_f3, aq_f4, aq_gs, aq_ty1, aq_ty2, aq_ty3, aq_ty4, aq_ty5, Nat.reduceAdd, Nat.reduceLT, Nat.reduceEqDiff, Nat.reduceSub, if_true, if_false, ne_eq, not_false_eq_true, not_true_eq_false, Option.map_some, Option.map_none, Nat.zero_add, reduceCtorEq, Nat.reduceLeDiff, one_ne_zero_a, zero_ne_one_a, a1], fun _ => ⟨rfl, by rw [nI_or16 _ W.2.2.2.2 _ hk16, km_kmm (fun k hk => (gz.2.2.2 k hk).1)], nI_1 _⟩⟩ (wfZ_P W (hfree m rfl) (or16 _ W.2.2.2.2 _ (km_lt _ _)))⟩
end OPS
