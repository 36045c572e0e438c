-- dep 62.base2 63.ops
/-! random numbers, masks of keys -/
def u16 (x : Int32) : Nat := x.toBitVec.toNat / 65536
theorem u16_lt (x : Int32) : u16 x < 65536 := by
  have := x.toBitVec.isLt
  unfold u16
  omega
theorem ushr16 (x : Int32) : (x.toUInt32 >>> ((16 : Int32).toUInt32 &&& Int32.toUInt32 31)).toInt32 = nI (u16 x) := by
  have h := pk_ushr x 16 16 (by decide)
  have h2 := u16_lt x
  apply Int32.toBitVec_inj.mp
  apply BitVec.eq_of_toNat_eq
  rw [h, pk_tn (by omega)]
  rfl
def nxt (x : Int32) : Int32 := x * 1664525 + 1013904223
def chs (x : Int32) (k : Nat) : Nat := if k = 0 then 0 else u16 x % k
theorem chs_lt (x : Int32) {k : Nat} (h : 0 < k) : chs x k < k := by
  unfold chs
  rw [if_neg (by omega)]
  exact Nat.mod_lt _ h
theorem rem16 (x : Int32) {k : Nat} (h0 : 0 < k) (hk : k < 2 ^ 31) : nI (u16 x) - nI (u16 x) / nI k * nI k = nI (chs x k) := by
  have := u16_lt x
  rw [pk_rem (by omega) h0 hk]
  unfold chs
  rw [if_neg (by omega)]
theorem t_nextOf {h : aq_H} (x : Int32) : aq_T e_X9_nextOf 1 0 0 [.int x] h (rd (nxt x) h) := by
  refine ⟨Nat.le_of_ble_eq_true rfl, ?_⟩
  show aq_W _ _ 0 [some (.int x)] [] _ _ _
  simp only [s_X9_nextOf_0, s_X9_nextOf_1, s_X9_nextOf_3, s_X9_nextOf_4, s_X9_nextOf_6, s_X9_nextOf_7, aq_gI, aq_gL, aq_gA, aq_isA, aq_s1, aq_s2, aq_kill, aq_ob, aq_sm, aq_arI, aq_arB, aq_isB, aq_arL, aq_arA, aq_arN, aq_sh, Value.category, List.getElem?_cons_zero, List.getElem?_cons_succ, List.length_cons, List.length_nil, Option.toList_some, Option.toList_none, List.cons_append, List.nil_append, true_and, and_true, List.set_cons_zero, List.set_cons_succ, aq_n1, aq_n2, aq_n3, aq_n4, aq_f1, aq_f2, aq_f3, aq_f4, aq_gs, aq_ty1, aq_ty2, aq_ty3, aq_ty4, aq_ty5, Nat.reduceAdd, Nat.reduceLT, Nat.reduceEqDiff, Nat.reduceSub, if_true, if_false, ne_eq, not_false_eq_true, not_true_eq_false, Option.map_some, Option.map_none, Nat.zero_add, reduceCtorEq, Nat.reduceLeDiff, one_ne_zero_a, zero_ne_one_a, aq_nb, aq_nb1, aq_nb0, aq_fb, aq_fb1, aq_fb0, aq_ofN, bB_t, bB_f, bB_v, vpn_b1, vpn_b0, nI_1, Bool.true_eq_false, Bool.false_eq_true, Bool.true_and, Bool.false_and, Bool.and_true, Bool.and_false, rd, nxt]
theorem t_chosenBy {h : aq_H} (x : Int32) {k : Nat} (hk : k < 2 ^ 31) : aq_T e_X9_chosenBy 2 0 0 [.int x, .int (nI k)] h (rd (nI (chs x k)) h) := by
  refine ⟨Nat.le_of_ble_eq_true rfl, ?_⟩
  show aq_W _ _ 0 [some (.int x), some (.int (nI k))] [] _ _ _
  by_cases e : k = 0
  · subst e
    have h0 : (0 : Int32) ≤ 0 := by decide
    simp only [s_X9_chosenBy_0, s_X9_chosenBy_1, s_X9_chosenBy_4, s_X9_chosenBy_5, s_X9_chosenBy_7, s_X9_chosenBy_8, s_X9_chosenBy_9, s_X9_chosenBy_10, s_X9_chosenBy_13, s_X9_chosenBy_14, aq_gI, aq_gL, aq_gA, aq_isA, aq_s1, aq_s2, aq_kill, aq_ob, aq_sm, aq_arI, aq_arB, aq_isB, aq_arL, aq_arA, aq_arN, aq_sh, Value.category, List.getElem?_cons_zero, List.getElem?_cons_succ, List.length_cons, List.length_nil, Option.toList_some, Option.toList_none, List.cons_append, List.nil_append, true_and, and_true, List.set_cons_zero, List.set_cons_succ, aq_n1, aq_n2, aq_n3, aq_n4, aq_f1, aq_f2, aq_f3, aq_f4, aq_gs, aq_ty1, aq_ty2, aq_ty3, aq_ty4, aq_ty5, Nat.reduceAdd, Nat.reduceLT, Nat.reduceEqDiff, Nat.reduceSub, if_true, if_false, ne_eq, not_false_eq_true, not_true_eq_false, Option.map_some, Option.map_none, Nat.zero_add, reduceCtorEq, Nat.reduceLeDiff, one_ne_zero_a, zero_ne_one_a, aq_nb, aq_nb1, aq_nb0, aq_fb, aq_fb1, aq_fb0, aq_ofN, bB_t, bB_f, bB_v, vpn_b1, vpn_b0, nI_1, Bool.true_eq_false, Bool.false_eq_true, Bool.true_and, Bool.false_and, Bool.and_true, Bool.and_false, h0, rd, chs, nI_0]
  · have h0 := nI_nle (show 0 < k by omega) hk
    simp only [s_X9_chosenBy_0, s_X9_chosenBy_1, s_X9_chosenBy_4, s_X9_chosenBy_5, s_X9_chosenBy_7, s_X9_chosenBy_8, s_X9_chosenBy_9, s_X9_chosenBy_10, s_X9_chosenBy_13, s_X9_chosenBy_14, aq_gI, aq_gL, aq_gA, aq_isA, aq_s1, aq_s2, aq_kill, aq_ob, aq_sm, aq_arI, aq_arB, aq_isB, aq_arL, aq_arA, aq_arN, aq_sh, Value.category, List.getElem?_cons_zero, List.getElem?_cons_succ, List.length_cons, List.length_nil, Option.toList_some, Option.toList_none, List.cons_append, List.nil_append, true_and, and_true, List.set_cons_zero, List.set_cons_succ, aq_n1, aq_n2, aq_n3, aq_n4, aq_f1, aq_f2, aq_f3, aq_f4, aq_gs, aq_ty1, aq_ty2, aq_ty3, aq_ty4, aq_ty5, Nat.reduceAdd, Nat.reduceLT, Nat.reduceEqDiff, Nat.reduceSub, if_true, if_false, ne_eq, not_false_eq_true, not_true_eq_false, Option.map_some, Option.map_none, Nat.zero_add, reduceCtorEq, Nat.reduceLeDiff, one_ne_zero_a, zero_ne_one_a, aq_nb, aq_nb1, aq_nb0, aq_fb, aq_fb1, aq_fb0, aq_ofN, bB_t, bB_f, bB_v, vpn_b1, vpn_b0, nI_1, Bool.true_eq_false, Bool.false_eq_true, Bool.true_and, Bool.false_and, Bool.and_true, Bool.and_false, h0, ushr16, nI_ne0 (show 0 < k by omega) hk, rem16 x (show 0 < k by omega) hk, rd]
theorem hks_bit : ∀ a, a < 16 → ∀ k, k < 4 → hks (nI a) k = a.testBit k := by decide +kernel
theorem shl_bit : ∀ k, k < 4 → (1 : Int32) <<< (nI k &&& 31) = nI (1 <<< k) := by decide +kernel
theorem bit_lt : ∀ k, k < 4 → 1 <<< k < 16 := by decide +kernel
theorem bit_eq : ∀ k, k < 4 → ∀ j, j < 4 → (1 <<< k).testBit j = decide (j = k) := by decide +kernel
def anb (a b : Nat) : Nat := a &&& (15 - b)
theorem anb_I : ∀ a, a < 16 → ∀ b, b < 16 → nI a &&& (nI b ^^^ -1) = nI (anb a b) := by decide +kernel
theorem anb_lt : ∀ a, a < 16 → ∀ b, b < 16 → anb a b < 16 := by decide +kernel
theorem anb_b : ∀ a, a < 16 → ∀ b, b < 16 → ∀ k, k < 4 → (anb a b).testBit k = (a.testBit k && !b.testBit k) := by decide +kernel
/-- the lowest bit -/
def lob (a : Nat) : Nat → Nat → Option Nat
  | 0, _ => none
  | n + 1, k => if a.testBit k = true then some k else lob a n (k + 1)
theorem lob_none {a : Nat} : ∀ (n k : Nat), lob a n k = none → ∀ j, k ≤ j → j < k + n → a.testBit j = false
  | 0, k, _, j, h1, h2 => by omega
  | n + 1, k, h, j, h1, h2 => by
    unfold lob at h
    by_cases e : a.testBit k = true
    · rw [if_pos e] at h; cases h
    · rw [if_neg e] at h
      by_cases q : j = k
      · rw [q]; simpa using e
      · exact lob_none n (k + 1) h j (by omega) (by omega)
theorem lob_some {a : Nat} : ∀ (n k : Nat) {m : Nat}, lob a n k = some m → k ≤ m ∧ m < k + n ∧ a.testBit m = true ∧ ∀ j, k ≤ j → j < m → a.testBit j = false
  | 0, k, m, h => by cases h
  | n + 1, k, m, h => by
    unfold lob at h
    by_cases e : a.testBit k = true
    · rw [if_pos e] at h; cases h
      exact ⟨Nat.le_refl _, by omega, e, fun j h1 h2 => by omega⟩
    · rw [if_neg e] at h
      obtain ⟨p1, p2, p3, p4⟩ := lob_some n (k + 1) h
      refine ⟨by omega, by omega, p3, fun j h1 h2 => ?_⟩
      by_cases q : j = k
      · rw [q]; simpa using e
      · exact p4 j (by omega) h2
theorem t_lowestKey {h : aq_H} {a : Nat} (ha : a < 16) : aq_T e_X9_lowestKey 2 0 0 [.int (nI a)] h (rd (oI (lob a 4 0)) h) := by
  refine ⟨Nat.le_of_ble_eq_true rfl, ?_⟩
  show aq_W _ _ 0 [some (.int (nI a)), none] [] _ _ _
  have one : ∀ (k d : Nat), d + k = 4 → aq_W e_X9_lowestKey (rd (oI (lob a k d)) h) 2 [some (.int (nI a)), some (.int (nI d))] [] h 0 0 := by
    intro k
    induction k with
    | zero =>
      intro d hd
      have e : d = 4 := by omega
      subst e
      have h4 : (4 : Int32) ≤ nI 4 := by decide
      rw [s_X9_lowestKey_2]
      simp only [s_X9_lowestKey_0, s_X9_lowestKey_1, s_X9_lowestKey_3, s_X9_lowestKey_4, s_X9_lowestKey_7, s_X9_lowestKey_8, s_X9_lowestKey_9, s_X9_lowestKey_12, s_X9_lowestKey_15, s_X9_lowestKey_16, s_X9_lowestKey_17, s_X9_lowestKey_20, s_X9_lowestKey_23, s_X9_lowestKey_24, aq_gI, aq_gL, aq_gA, aq_isA, aq_s1, aq_s2, aq_kill, aq_ob, aq_sm, aq_arI, aq_arB, aq_isB, aq_arL, aq_arA, aq_arN, aq_sh, Value.category, List.getElem?_cons_zero, List.getElem?_cons_succ, List.length_cons, List.length_nil, Option.toList_some, Option.toList_none, List.cons_append, List.nil_append, true_and, and_true, List.set_cons_zero, List.set_cons_succ, aq_n1, aq_n2, aq_n3, aq_n4, aq_f1, aq_f2, aq_f3, aq_f4, aq_gs, aq_ty1, aq_ty2, aq_ty3, aq_ty4, aq_ty5, Nat.reduceAdd, Nat.reduceLT, Nat.reduceEqDiff, Nat.reduceSub, if_true, if_false, ne_eq, not_false_eq_true, not_true_eq_false, Option.map_some, Option.map_none, Nat.zero_add, reduceCtorEq, Nat.reduceLeDiff, one_ne_zero_a, zero_ne_one_a, aq_nb, aq_nb1, aq_nb0, aq_fb, aq_fb1, aq_fb0, aq_ofN, bB_t, bB_f, bB_v, vpn_b1, vpn_b0, nI_1, Bool.true_eq_false, Bool.false_eq_true, Bool.true_and, Bool.false_and, Bool.and_true, Bool.and_false, h4, rd, lob, oI]
    | succ k ih =>
      intro d hd
      have h4 : ¬ (4 : Int32) ≤ nI d := by rw [nI_4]; exact nI_ge (by omega) (by omega)
      have hnext := ih (d + 1) (by omega)
      rw [s_X9_lowestKey_2]
      simp only [s_X9_lowestKey_0, s_X9_lowestKey_1, s_X9_lowestKey_3, s_X9_lowestKey_4, s_X9_lowestKey_7, s_X9_lowestKey_8, s_X9_lowestKey_9, s_X9_lowestKey_12, s_X9_lowestKey_15, s_X9_lowestKey_16, s_X9_lowestKey_17, s_X9_lowestKey_20, s_X9_lowestKey_23, s_X9_lowestKey_24, aq_gI, aq_gL, aq_gA, aq_isA, aq_s1, aq_s2, aq_kill, aq_ob, aq_sm, aq_arI, aq_arB, aq_isB, aq_arL, aq_arA, aq_arN, aq_sh, Value.category, List.getElem?_cons_zero, List.getElem?_cons_succ, List.length_cons, List.length_nil, Option.toList_some, Option.toList_none, List.cons_append, List.nil_append, true_and, and_true, List.set_cons_zero, List.set_cons_succ, aq_n1, aq_n2, aq_n3, aq_n4, aq_f1, aq_f2, aq_f3, aq_f4, aq_gs, aq_ty1, aq_ty2, aq_ty3, aq_ty4, aq_ty5, Nat.reduceAdd, Nat.reduceLT, Nat.reduceEqDiff, Nat.reduceSub, if_true, if_false, ne_eq, not_false_eq_true, not_true_eq_false, Option.map_some, Option.map_none, Nat.zero_add, reduceCtorEq, Nat.reduceLeDiff, one_ne_zero_a, zero_ne_one_a, aq_nb, aq_nb1, aq_nb0, aq_fb, aq_fb1, aq_fb0, aq_ofN, bB_t, bB_f, bB_v, vpn_b1, vpn_b0, nI_1, Bool.true_eq_false, Bool.false_eq_true, Bool.true_and, Bool.false_and, Bool.and_true, Bool.and_false, h4]
      refine (t_holds (nI a) d).use ?_
      rintro _ h ⟨rfl, rfl⟩
      rw [hks_bit a ha d (by omega)]
      cases e : a.testBit d with
      | true => simp only [s_X9_lowestKey_0, s_X9_lowestKey_1, s_X9_lowestKey_3, s_X9_lowestKey_4, s_X9_lowestKey_7, s_X9_lowestKey_8, s_X9_lowestKey_9, s_X9_lowestKey_12, s_X9_lowestKey_15, s_X9_lowestKey_16, s_X9_lowestKey_17, s_X9_lowestKey_20, s_X9_lowestKey_23, s_X9_lowestKey_24, aq_gI, aq_gL, aq_gA, aq_isA, aq_s1, aq_s2, aq_kill, aq_ob, aq_sm, aq_arI, aq_arB, aq_isB, aq_arL, aq_arA, aq_arN, aq_sh, Value.category, List.getElem?_cons_zero, List.getElem?_cons_succ, List.length_cons, List.length_nil, Option.toList_some, Option.toList_none, List.cons_append, List.nil_append, true_and, and_true, List.set_cons_zero, List.set_cons_succ, aq_n1, aq_n2, aq_n3, aq_n4, aq_f1, aq_f2, aq_f3, aq_f4, aq_gs, aq_ty1, aq_ty2, aq_ty3, aq_ty4, aq_ty5, Nat.reduceAdd, Nat.reduceLT, Nat.reduceEqDiff, Nat.reduceSub, if_true, if_false, ne_eq, not_false_eq_true, not_true_eq_false, Option.map_some, Option.map_none, Nat.zero_add, reduceCtorEq, Nat.reduceLeDiff, one_ne_zero_a, zero_ne_one_a, aq_nb, aq_nb1, aq_nb0, aq_fb, aq_fb1, aq_fb0, aq_ofN, bB_t, bB_f, bB_v, vpn_b1, vpn_b0, nI_1, Bool.true_eq_false, Bool.false_eq_true, Bool.true_and, Bool.false_and, Bool.and_true, Bool.and_false, lob, e, oI, rd]
      | false =>
        simp only [s_X9_lowestKey_0, s_X9_lowestKey_1, s_X9_lowestKey_3, s_X9_lowestKey_4, s_X9_lowestKey_7, s_X9_lowestKey_8, s_X9_lowestKey_9, s_X9_lowestKey_12, s_X9_lowestKey_15, s_X9_lowestKey_16, s_X9_lowestKey_17, s_X9_lowestKey_20, s_X9_lowestKey_23, s_X9_lowestKey_24, aq_gI, aq_gL, aq_gA, aq_isA, aq_s1, aq_s2, aq_kill, aq_ob, aq_sm, aq_arI, aq_arB, aq_isB, aq_arL, aq_arA, aq_arN, aq_sh, Value.category, List.getElem?_cons_zero, List.getElem?_cons_succ, List.length_cons, List.length_nil, Option.toList_some, Option.toList_none, List.cons_append, List.nil_append, true_and, and_true, List.set_cons_zero, List.set_cons_succ, aq_n1, aq_n2, aq_n3, aq_n4, aq_f1, aq_f2, aq_f3, aq_f4, aq_gs, aq_ty1, aq_ty2, aq_ty3, aq_ty4, aq_ty5, Nat.reduceAdd, Nat.reduceLT, Nat.reduceEqDiff, Nat.reduceSub, if_true, if_false, ne_eq, not_false_eq_true, not_true_eq_false, Option.map_some, Option.map_none, Nat.zero_add, reduceCtorEq, Nat.reduceLeDiff, one_ne_zero_a, zero_ne_one_a, aq_nb, aq_nb1, aq_nb0, aq_fb, aq_fb1, aq_fb0, aq_ofN, bB_t, bB_f, bB_v, vpn_b1, vpn_b0, nI_1, Bool.true_eq_false, Bool.false_eq_true, Bool.true_and, Bool.false_and, Bool.and_true, Bool.and_false, lob, e]
        exact hnext
  simp only [s_X9_lowestKey_0, s_X9_lowestKey_1, s_X9_lowestKey_3, s_X9_lowestKey_4, s_X9_lowestKey_7, s_X9_lowestKey_8, s_X9_lowestKey_9, s_X9_lowestKey_12, s_X9_lowestKey_15, s_X9_lowestKey_16, s_X9_lowestKey_17, s_X9_lowestKey_20, s_X9_lowestKey_23, s_X9_lowestKey_24, aq_gI, aq_gL, aq_gA, aq_isA, aq_s1, aq_s2, aq_kill, aq_ob, aq_sm, aq_arI, aq_arB, aq_isB, aq_arL, aq_arA, aq_arN, aq_sh, Value.category, List.getElem?_cons_zero, List.getElem?_cons_succ, List.length_cons, List.length_nil, Option.toList_some, Option.toList_none, List.cons_append, List.nil_append, true_and, and_true, List.set_cons_zero, List.set_cons_succ, aq_n1, aq_n2, aq_n3, aq_n4, aq_f1, aq_f2, aq_f3, aq_f4, aq_gs, aq_ty1, aq_ty2, aq_ty3, aq_ty4, aq_ty5, Nat.reduceAdd, Nat.reduceLT, Nat.reduceEqDiff, Nat.reduceSub, if_true, if_false, ne_eq, not_false_eq_true, not_true_eq_false, Option.map_some, Option.map_none, Nat.zero_add, reduceCtorEq, Nat.reduceLeDiff, one_ne_zero_a, zero_ne_one_a, aq_nb, aq_nb1, aq_nb0, aq_fb, aq_fb1, aq_fb0, aq_ofN, bB_t, bB_f, bB_v, vpn_b1, vpn_b0, nI_1, Bool.true_eq_false, Bool.false_eq_true, Bool.true_and, Bool.false_and, Bool.and_true, Bool.and_false]
  exact one 4 0 rfl
