/-! the desk's escape and step -/
def aEs (o : Option Nat) : Int32 := oI (o.map cl)
def aSt (o : Option Nat) (x : Int32) : Int32 := match o with
  | none => -1
  | some c => if inC (cl c) x = true then nI (dig c x.toNatClampNeg) else -1
section RTF
variable {h h' : aq_H} {w ht ch : Nat} {wx wy hm : Bool} {cb : Nat → Bool} {D : drT} {Z : mzT} {P : plT} {cut bes lead pas : Nat → Int32} {fr : Int32} {op dk od kc : Nat → Int32} {cf cy qu : Nat → Int32} {qd ls sc kn : Int32}
theorem t_rlength (B : iBd h w ht cut bes lead pas fr) (G : gBd w ht wx wy cb cut bes lead pas fr) (M : iMz h (w * ht * 2) op dk od kc (nI Z.2.2.2.2.1) (oI Z.2.2.2.2.2) (nI ch)) (H : gMz (w * ht * 2) Z.1 Z.2.1 Z.2.2.1 Z.2.2.2.1 op dk od kc) (hst : Z.2.2.2.2.1 < w * ht) (hex : ∀ e, Z.2.2.2.2.2 = some e → e < w * ht) (R : iRt h (w * ht) cf cy qu qd ls sc kn) (hch : ch < 2 ^ 31) (hkn : kn = nI ch → VV w ht wx wy cb Z sc cf cy ls) :
    aq_T e_X5_length 1 0 0 [.ref 41] h (fun r h' => sm 41 44 h h' ∧ ∃ cf' cy' qu' qd' ls' v, r = some (.int v) ∧ iRt h' (w * ht) cf' cy' qu' qd' ls' v (nI ch) ∧ VV w ht wx wy cb Z v cf' cy' ls') := by
  have R0 := R
  obtain ⟨r1, r2, r3, r4⟩ := R
  refine ⟨Nat.le_of_ble_eq_true rfl, ?_⟩
  show aq_W _ _ 0 [some (.ref 41)] [] _ _ _
  simp only [s_X5_length_0, s_X5_length_1, s_X5_length_4, s_X5_length_5, s_X5_length_8, aq_gI, aq_gL, aq_gA, aq_isA, aq_s1, aq_s2, aq_kill, aq_ob, aq_sm, aq_arI, aq_arB, aq_isB, aq_arL, aq_arA, aq_arN, aq_sh, Value.category, List.getElem?_cons_zero, List.getElem?_cons_succ, List.length_cons, List.length_nil, Option.toList_some, Option.toList_none, List.cons_append, List.nil_append, true_and, and_true, List.set_cons_zero, List.set_cons_succ, aq_n1, aq_n2, aq_n3, aq_n4, aq_f1, aq_f2, aq_f3, aq_f4, aq_gs, aq_ty1, aq_ty2, aq_ty3, aq_ty4, aq_ty5, Nat.reduceAdd, Nat.reduceLT, Nat.reduceEqDiff, Nat.reduceSub, if_true, if_false, ne_eq, not_false_eq_true, not_true_eq_false, Option.map_some, Option.map_none, Nat.zero_add, reduceCtorEq, Nat.reduceLeDiff, one_ne_zero_a, zero_ne_one_a, aq_nb, aq_nb1, aq_nb0, aq_fb, aq_fb1, aq_fb0, aq_ofN, bB_t, bB_f, bB_v, vpn_b1, vpn_b0, nI_1, Bool.true_eq_false, Bool.false_eq_true, Bool.true_and, Bool.false_and, Bool.and_true, Bool.and_false, r1, M.1]
  refine (t_changeCount M).use ?_
  rintro _ h ⟨rfl, rfl⟩
  by_cases e : kn = nI ch
  · simp only [s_X5_length_11, s_X5_length_33, s_X5_length_34, s_X5_length_37, aq_gI, aq_gL, aq_gA, aq_isA, aq_s1, aq_s2, aq_kill, aq_ob, aq_sm, aq_arI, aq_arB, aq_isB, aq_arL, aq_arA, aq_arN, aq_sh, Value.category, List.getElem?_cons_zero, List.getElem?_cons_succ, List.length_cons, List.length_nil, Option.toList_some, Option.toList_none, List.cons_append, List.nil_append, true_and, and_true, List.set_cons_zero, List.set_cons_succ, aq_n1, aq_n2, aq_n3, aq_n4, aq_f1, aq_f2, aq_f3, aq_f4, aq_gs, aq_ty1, aq_ty2, aq_ty3, aq_ty4, aq_ty5, Nat.reduceAdd, Nat.reduceLT, Nat.reduceEqDiff, Nat.reduceSub, if_true, if_false, ne_eq, not_false_eq_true, not_true_eq_false, Option.map_some, Option.map_none, Nat.zero_add, reduceCtorEq, Nat.reduceLeDiff, one_ne_zero_a, zero_ne_one_a, aq_nb, aq_nb1, aq_nb0, aq_fb, aq_fb1, aq_fb0, aq_ofN, bB_t, bB_f, bB_v, vpn_b1, vpn_b0, nI_1, Bool.true_eq_false, Bool.false_eq_true, Bool.true_and, Bool.false_and, Bool.and_true, Bool.and_false, e, r1]
    refine ⟨sm.rf _ _ _, cf, cy, qu, qd, ls, sc, rfl, ?_, hkn e⟩
    rw [e] at R0
    exact R0
  · simp only [s_X5_length_11, s_X5_length_14, s_X5_length_15, s_X5_length_16, aq_gI, aq_gL, aq_gA, aq_isA, aq_s1, aq_s2, aq_kill, aq_ob, aq_sm, aq_arI, aq_arB, aq_isB, aq_arL, aq_arA, aq_arN, aq_sh, Value.category, List.getElem?_cons_zero, List.getElem?_cons_succ, List.length_cons, List.length_nil, Option.toList_some, Option.toList_none, List.cons_append, List.nil_append, true_and, and_true, List.set_cons_zero, List.set_cons_succ, aq_n1, aq_n2, aq_n3, aq_n4, aq_f1, aq_f2, aq_f3, aq_f4, aq_gs, aq_ty1, aq_ty2, aq_ty3, aq_ty4, aq_ty5, Nat.reduceAdd, Nat.reduceLT, Nat.reduceEqDiff, Nat.reduceSub, if_true, if_false, ne_eq, not_false_eq_true, not_true_eq_false, Option.map_some, Option.map_none, Nat.zero_add, reduceCtorEq, Nat.reduceLeDiff, one_ne_zero_a, zero_ne_one_a, aq_nb, aq_nb1, aq_nb0, aq_fb, aq_fb1, aq_fb0, aq_ofN, bB_t, bB_f, bB_v, vpn_b1, vpn_b0, nI_1, Bool.true_eq_false, Bool.false_eq_true, Bool.true_and, Bool.false_and, Bool.and_true, Bool.and_false, e, r1]
    refine (t_find B G M H hst hex R0).use ?_
    rintro _ h2 ⟨S2, cf', cy', qu', qd', ls', v, rfl, R2, hv⟩
    obtain ⟨b1, b2, b3, b4⟩ := R2
    have M2 := M.sm S2 (by omega)
    simp only [s_X5_length_19, s_X5_length_22, s_X5_length_23, s_X5_length_24, aq_gI, aq_gL, aq_gA, aq_isA, aq_s1, aq_s2, aq_kill, aq_ob, aq_sm, aq_arI, aq_arB, aq_isB, aq_arL, aq_arA, aq_arN, aq_sh, Value.category, List.getElem?_cons_zero, List.getElem?_cons_succ, List.length_cons, List.length_nil, Option.toList_some, Option.toList_none, List.cons_append, List.nil_append, true_and, and_true, List.set_cons_zero, List.set_cons_succ, aq_n1, aq_n2, aq_n3, aq_n4, aq_f1, aq_f2, aq_f3, aq_f4, aq_gs, aq_ty1, aq_ty2, aq_ty3, aq_ty4, aq_ty5, Nat.reduceAdd, Nat.reduceLT, Nat.reduceEqDiff, Nat.reduceSub, if_true, if_false, ne_eq, not_false_eq_true, not_true_eq_false, Option.map_some, Option.map_none, Nat.zero_add, reduceCtorEq, Nat.reduceLeDiff, one_ne_zero_a, zero_ne_one_a, aq_nb, aq_nb1, aq_nb0, aq_fb, aq_fb1, aq_fb0, aq_ofN, bB_t, bB_f, bB_v, vpn_b1, vpn_b0, nI_1, Bool.true_eq_false, Bool.false_eq_true, Bool.true_and, Bool.false_and, Bool.and_true, Bool.and_false, b1]
    have h3e : ∃ h3, h2.set 41 (.inr (5, [.ref 32, .ref 42, .ref 43, .ref 44, .int qd', .int ls', .int v, .int kn])) = h3 := ⟨_, rfl⟩
    obtain ⟨h3, h3e⟩ := h3e
    have S3 : sm 41 44 h h3 := by rw [← h3e]; exact S2.st (by decide) (by decide)
    have R3 : iRt h3 (w * ht) cf' cy' qu' qd' ls' v kn := by
      refine ⟨?_, ?_, ?_, ?_⟩ <;> rw [← h3e] <;> simp only [aq_gI, aq_gL, aq_gA, aq_isA, aq_s1, aq_s2, aq_kill, aq_ob, aq_sm, aq_arI, aq_arB, aq_isB, aq_arL, aq_arA, aq_arN, aq_sh, Value.category, List.getElem?_cons_zero, List.getElem?_cons_succ, List.length_cons, List.length_nil, Option.toList_some, Option.toList_none, List.cons_append, List.nil_append, true_and, and_true, List.set_cons_zero, List.set_cons_succ, aq_n1, aq_n2, aq_n3, aq_n4, aq_f1, aq_f2, aq_f3, aq_f4, aq_gs, aq_ty1, aq_ty2, aq_ty3, aq_ty4, aq_ty5, Nat.reduceAdd, Nat.reduceLT, Nat.reduceEqDiff, Nat.reduceSub, if_true, if_false, ne_eq, not_false_eq_true, not_true_eq_false, Option.map_some, Option.map_none, Nat.zero_add, reduceCtorEq, Nat.reduceLeDiff, one_ne_zero_a, zero_ne_one_a, b1, b2, b3, b4]
    rw [h3e]
    have M3 := M.sm S3 (by omega)
    obtain ⟨d1, d2, d3, d4⟩ := R3
    simp only [s_X5_length_27, aq_gI, aq_gL, aq_gA, aq_isA, aq_s1, aq_s2, aq_kill, aq_ob, aq_sm, aq_arI, aq_arB, aq_isB, aq_arL, aq_arA, aq_arN, aq_sh, Value.category, List.getElem?_cons_zero, List.getElem?_cons_succ, List.length_cons, List.length_nil, Option.toList_some, Option.toList_none, List.cons_append, List.nil_append, true_and, and_true, List.set_cons_zero, List.set_cons_succ, aq_n1, aq_n2, aq_n3, aq_n4, aq_f1, aq_f2, aq_f3, aq_f4, aq_gs, aq_ty1, aq_ty2, aq_ty3, aq_ty4, aq_ty5, Nat.reduceAdd, Nat.reduceLT, Nat.reduceEqDiff, Nat.reduceSub, if_true, if_false, ne_eq, not_false_eq_true, not_true_eq_false, Option.map_some, Option.map_none, Nat.zero_add, reduceCtorEq, Nat.reduceLeDiff, one_ne_zero_a, zero_ne_one_a, aq_nb, aq_nb1, aq_nb0, aq_fb, aq_fb1, aq_fb0, aq_ofN, bB_t, bB_f, bB_v, vpn_b1, vpn_b0, nI_1, Bool.true_eq_false, Bool.false_eq_true, Bool.true_and, Bool.false_and, Bool.and_true, Bool.and_false, d1, M3.1]
    refine (t_changeCount M3).use ?_
    rintro _ h3 ⟨rfl, rfl⟩
    simp only [s_X5_length_30, s_X5_length_33, s_X5_length_34, s_X5_length_37, aq_gI, aq_gL, aq_gA, aq_isA, aq_s1, aq_s2, aq_kill, aq_ob, aq_sm, aq_arI, aq_arB, aq_isB, aq_arL, aq_arA, aq_arN, aq_sh, Value.category, List.getElem?_cons_zero, List.getElem?_cons_succ, List.length_cons, List.length_nil, Option.toList_some, Option.toList_none, List.cons_append, List.nil_append, true_and, and_true, List.set_cons_zero, List.set_cons_succ, aq_n1, aq_n2, aq_n3, aq_n4, aq_f1, aq_f2, aq_f3, aq_f4, aq_gs, aq_ty1, aq_ty2, aq_ty3, aq_ty4, aq_ty5, Nat.reduceAdd, Nat.reduceLT, Nat.reduceEqDiff, Nat.reduceSub, if_true, if_false, ne_eq, not_false_eq_true, not_true_eq_false, Option.map_some, Option.map_none, Nat.zero_add, reduceCtorEq, Nat.reduceLeDiff, one_ne_zero_a, zero_ne_one_a, aq_nb, aq_nb1, aq_nb0, aq_fb, aq_fb1, aq_fb0, aq_ofN, bB_t, bB_f, bB_v, vpn_b1, vpn_b0, nI_1, Bool.true_eq_false, Bool.false_eq_true, Bool.true_and, Bool.false_and, Bool.and_true, Bool.and_false, d1]
    refine ⟨S3.st (by decide) (by decide), cf', cy', qu', qd', ls', v, rfl, ⟨?_, ?_, ?_, ?_⟩, hv⟩ <;> simp only [aq_gI, aq_gL, aq_gA, aq_isA, aq_s1, aq_s2, aq_kill, aq_ob, aq_sm, aq_arI, aq_arB, aq_isB, aq_arL, aq_arA, aq_arN, aq_sh, Value.category, List.getElem?_cons_zero, List.getElem?_cons_succ, List.length_cons, List.length_nil, Option.toList_some, Option.toList_none, List.cons_append, List.nil_append, true_and, and_true, List.set_cons_zero, List.set_cons_succ, aq_n1, aq_n2, aq_n3, aq_n4, aq_f1, aq_f2, aq_f3, aq_f4, aq_gs, aq_ty1, aq_ty2, aq_ty3, aq_ty4, aq_ty5, Nat.reduceAdd, Nat.reduceLT, Nat.reduceEqDiff, Nat.reduceSub, if_true, if_false, ne_eq, not_false_eq_true, not_true_eq_false, Option.map_some, Option.map_none, Nat.zero_add, reduceCtorEq, Nat.reduceLeDiff, one_ne_zero_a, zero_ne_one_a, d1, d2, d3, d4]
theorem w_back {n c j : Nat} {b : Nat → Nat} {Q : Option Value → aq_H → Prop} (R : iRt h n cf cy qu qd ls sc kn) (hn : n * 16 < 2 ^ 31) (hc : cl c ≤ n * 16) (hb : ∀ t, t ≤ cl c → b t < n * 16) (hs : ∀ t, t < cl c → cf (b (t + 1)) = nI (b t) ∧ cy (b (t + 1)) = nI (dig c t)) (hQ : Q (some (.int (nI (dig c j)))) h) :
    ∀ (k t : Nat), t = j + k → t < cl c → aq_W e_X5_directionAt Q 26 [some (.ref 41), some (.int (nI j)), some (.int (nI (b (t + 1)))), some (.int (nI t))] [] h 0 0 := by
  obtain ⟨r1, r2, r3, r4⟩ := R
  intro k
  induction k with
  | zero =>
    intro t ht hlt
    have e : t = j := ht
    rw [e] at hlt ⊢
    have hB := hb (j + 1) hlt
    have hy := (hs j hlt).2
    generalize b (j + 1) = s at hB hy ⊢
    rw [s_X5_directionAt_26]
    simp only [s_X5_directionAt_27, s_X5_directionAt_28, s_X5_directionAt_53, s_X5_directionAt_54, s_X5_directionAt_57, s_X5_directionAt_58, s_X5_directionAt_59, aq_gI, aq_gL, aq_gA, aq_isA, aq_s1, aq_s2, aq_kill, aq_ob, aq_sm, aq_arI, aq_arB, aq_isB, aq_arL, aq_arA, aq_arN, aq_sh, Value.category, List.getElem?_cons_zero, List.getElem?_cons_succ, List.length_cons, List.length_nil, Option.toList_some, Option.toList_none, List.cons_append, List.nil_append, true_and, and_true, List.set_cons_zero, List.set_cons_succ, aq_n1, aq_n2, aq_n3, aq_n4, aq_f1, aq_f2, aq_f3, aq_f4, aq_gs, aq_ty1, aq_ty2, aq_ty3, aq_ty4, aq_ty5, Nat.reduceAdd, Nat.reduceLT, Nat.reduceEqDiff, Nat.reduceSub, if_true, if_false, ne_eq, not_false_eq_true, not_true_eq_false, Option.map_some, Option.map_none, Nat.zero_add, reduceCtorEq, Nat.reduceLeDiff, one_ne_zero_a, zero_ne_one_a, aq_nb, aq_nb1, aq_nb0, aq_fb, aq_fb1, aq_fb0, aq_ofN, bB_t, bB_f, bB_v, vpn_b1, vpn_b0, nI_1, Bool.true_eq_false, Bool.false_eq_true, Bool.true_and, Bool.false_and, Bool.and_true, Bool.and_false, Int32.le_refl, r1, r3, vp_in_nI hB hn, nI_clamp (show s < 2 ^ 31 by omega), hy]
    exact hQ
  | succ k ih =>
    intro t ht hlt
    obtain ⟨u, rfl⟩ : ∃ u, t = u + 1 := ⟨t - 1, by omega⟩
    have hB := hb (u + 1 + 1) hlt
    have hB2 := hb (u + 1) (by omega)
    have hx := (hs (u + 1) hlt).1
    have hi := ih u (by omega) (by omega)
    have hgt : ¬ nI (u + 1) ≤ nI j := nI_ge (show j < u + 1 by omega) (by omega)
    generalize b (u + 1 + 1) = s at hB hx ⊢
    generalize b (u + 1) = s2 at hB2 hx hi ⊢
    rw [s_X5_directionAt_26]
    simp only [s_X5_directionAt_27, s_X5_directionAt_28, s_X5_directionAt_31, s_X5_directionAt_32, s_X5_directionAt_35, s_X5_directionAt_36, s_X5_directionAt_37, s_X5_directionAt_40, s_X5_directionAt_41, s_X5_directionAt_44, s_X5_directionAt_45, s_X5_directionAt_46, s_X5_directionAt_47, s_X5_directionAt_50, aq_gI, aq_gL, aq_gA, aq_isA, aq_s1, aq_s2, aq_kill, aq_ob, aq_sm, aq_arI, aq_arB, aq_isB, aq_arL, aq_arA, aq_arN, aq_sh, Value.category, List.getElem?_cons_zero, List.getElem?_cons_succ, List.length_cons, List.length_nil, Option.toList_some, Option.toList_none, List.cons_append, List.nil_append, true_and, and_true, List.set_cons_zero, List.set_cons_succ, aq_n1, aq_n2, aq_n3, aq_n4, aq_f1, aq_f2, aq_f3, aq_f4, aq_gs, aq_ty1, aq_ty2, aq_ty3, aq_ty4, aq_ty5, Nat.reduceAdd, Nat.reduceLT, Nat.reduceEqDiff, Nat.reduceSub, if_true, if_false, ne_eq, not_false_eq_true, not_true_eq_false, Option.map_some, Option.map_none, Nat.zero_add, reduceCtorEq, Nat.reduceLeDiff, one_ne_zero_a, zero_ne_one_a, aq_nb, aq_nb1, aq_nb0, aq_fb, aq_fb1, aq_fb0, aq_ofN, bB_t, bB_f, bB_v, vpn_b1, vpn_b0, nI_1, Bool.true_eq_false, Bool.false_eq_true, Bool.true_and, Bool.false_and, Bool.and_true, Bool.and_false, hgt, r1, r2, vp_in_nI hB hn, nI_clamp (show s < 2 ^ 31 by omega), hx, nI_pos (show s2 < 2 ^ 31 by omega), nI_am1, nI_sm1]
    exact hi
theorem t_directionAt (B : iBd h w ht cut bes lead pas fr) (G : gBd w ht wx wy cb cut bes lead pas fr) (M : iMz h (w * ht * 2) op dk od kc (nI Z.2.2.2.2.1) (oI Z.2.2.2.2.2) (nI ch)) (H : gMz (w * ht * 2) Z.1 Z.2.1 Z.2.2.1 Z.2.2.2.1 op dk od kc) (hst : Z.2.2.2.2.1 < w * ht) (hex : ∀ e, Z.2.2.2.2.2 = some e → e < w * ht) (R : iRt h (w * ht) cf cy qu qd ls sc kn) (hch : ch < 2 ^ 31) (hkn : kn = nI ch → VV w ht wx wy cb Z sc cf cy ls) (x : Int32) :
    aq_T e_X5_directionAt 4 0 0 [.ref 41, .int x] h (fun r h' => (x < 0 ∧ r = some (.int (-1)) ∧ h' = h) ∨ (sm 41 44 h h' ∧ ∃ cf' cy' qu' qd' ls' v, iRt h' (w * ht) cf' cy' qu' qd' ls' v (nI ch) ∧ VV w ht wx wy cb Z v cf' cy' ls' ∧ ∃ o, ESC (sF w ht wx wy cb Z) (sS Z) (sG Z) o ∧ r = some (.int (aSt o x)))) := by
  have hn := wh_lt G.1
  refine ⟨Nat.le_of_ble_eq_true rfl, ?_⟩
  show aq_W _ _ 0 [some (.ref 41), some (.int x), none, none] [] _ _ _
  by_cases hx : x < 0
  · simp only [s_X5_directionAt_0, s_X5_directionAt_1, s_X5_directionAt_12, s_X5_directionAt_13, aq_gI, aq_gL, aq_gA, aq_isA, aq_s1, aq_s2, aq_kill, aq_ob, aq_sm, aq_arI, aq_arB, aq_isB, aq_arL, aq_arA, aq_arN, aq_sh, Value.category, List.getElem?_cons_zero, List.getElem?_cons_succ, List.length_cons, List.length_nil, Option.toList_some, Option.toList_none, List.cons_append, List.nil_append, true_and, and_true, List.set_cons_zero, List.set_cons_succ, aq_n1, aq_n2, aq_n3, aq_n4, aq_f1, aq_f2, aq_f3, aq_f4, aq_gs, aq_ty1, aq_ty2, aq_ty3, aq_ty4, aq_ty5, Nat.reduceAdd, Nat.reduceLT, Nat.reduceEqDiff, Nat.reduceSub, if_true, if_false, ne_eq, not_false_eq_true, not_true_eq_false, Option.map_some, Option.map_none, Nat.zero_add, reduceCtorEq, Nat.reduceLeDiff, one_ne_zero_a, zero_ne_one_a, aq_nb, aq_nb1, aq_nb0, aq_fb, aq_fb1, aq_fb0, aq_ofN, bB_t, bB_f, bB_v, vpn_b1, vpn_b0, nI_1, Bool.true_eq_false, Bool.false_eq_true, Bool.true_and, Bool.false_and, Bool.and_true, Bool.and_false, hx]
    exact Or.inl trivial
  · simp only [s_X5_directionAt_0, s_X5_directionAt_1, s_X5_directionAt_4, s_X5_directionAt_5, s_X5_directionAt_6, aq_gI, aq_gL, aq_gA, aq_isA, aq_s1, aq_s2, aq_kill, aq_ob, aq_sm, aq_arI, aq_arB, aq_isB, aq_arL, aq_arA, aq_arN, aq_sh, Value.category, List.getElem?_cons_zero, List.getElem?_cons_succ, List.length_cons, List.length_nil, Option.toList_some, Option.toList_none, List.cons_append, List.nil_append, true_and, and_true, List.set_cons_zero, List.set_cons_succ, aq_n1, aq_n2, aq_n3, aq_n4, aq_f1, aq_f2, aq_f3, aq_f4, aq_gs, aq_ty1, aq_ty2, aq_ty3, aq_ty4, aq_ty5, Nat.reduceAdd, Nat.reduceLT, Nat.reduceEqDiff, Nat.reduceSub, if_true, if_false, ne_eq, not_false_eq_true, not_true_eq_false, Option.map_some, Option.map_none, Nat.zero_add, reduceCtorEq, Nat.reduceLeDiff, one_ne_zero_a, zero_ne_one_a, aq_nb, aq_nb1, aq_nb0, aq_fb, aq_fb1, aq_fb0, aq_ofN, bB_t, bB_f, bB_v, vpn_b1, vpn_b0, nI_1, Bool.true_eq_false, Bool.false_eq_true, Bool.true_and, Bool.false_and, Bool.and_true, Bool.and_false, hx, R.1]
    refine (t_rlength B G M H hst hex R hch hkn).use ?_
    rintro _ h2 ⟨S2, cf', cy', qu', qd', ls', v, rfl, R2, hv⟩
    have hv0 := hv
    obtain ⟨o, h1, rfl, h3⟩ := hv
    have b1 := R2.1
    cases o with
    | none =>
      have hle : (-1 : Int32) ≤ x := by
        have := nlt0 hx
        rw [Int32.le_iff_toInt_le] at this ⊢
        have e0 : (0 : Int32).toInt = 0 := by decide
        have e1 : (-1 : Int32).toInt = -1 := by decide
        omega
      simp only [s_X5_directionAt_9, s_X5_directionAt_12, s_X5_directionAt_13, aq_gI, aq_gL, aq_gA, aq_isA, aq_s1, aq_s2, aq_kill, aq_ob, aq_sm, aq_arI, aq_arB, aq_isB, aq_arL, aq_arA, aq_arN, aq_sh, Value.category, List.getElem?_cons_zero, List.getElem?_cons_succ, List.length_cons, List.length_nil, Option.toList_some, Option.toList_none, List.cons_append, List.nil_append, true_and, and_true, List.set_cons_zero, List.set_cons_succ, aq_n1, aq_n2, aq_n3, aq_n4, aq_f1, aq_f2, aq_f3, aq_f4, aq_gs, aq_ty1, aq_ty2, aq_ty3, aq_ty4, aq_ty5, Nat.reduceAdd, Nat.reduceLT, Nat.reduceEqDiff, Nat.reduceSub, if_true, if_false, ne_eq, not_false_eq_true, not_true_eq_false, Option.map_some, Option.map_none, Nat.zero_add, reduceCtorEq, Nat.reduceLeDiff, one_ne_zero_a, zero_ne_one_a, aq_nb, aq_nb1, aq_nb0, aq_fb, aq_fb1, aq_fb0, aq_ofN, bB_t, bB_f, bB_v, vpn_b1, vpn_b0, nI_1, Bool.true_eq_false, Bool.false_eq_true, Bool.true_and, Bool.false_and, Bool.and_true, Bool.and_false, oI, Option.map_none, Int32.not_lt.mpr hle]
      exact Or.inr ⟨S2, cf', cy', qu', qd', ls', _, R2, hv0, none, h1, rfl⟩
    | some c =>
      obtain ⟨q1, q2⟩ := h3 c rfl
      rcases inC_cs (cl c) x (by omega) with hk | ⟨j, hj, rfl⟩
      · have hle : nI (cl c) ≤ x := by
          rcases inC_out hk with z | ⟨z1, z2⟩
          · exact absurd z hx
          · exact z2
        simp only [s_X5_directionAt_9, s_X5_directionAt_12, s_X5_directionAt_13, aq_gI, aq_gL, aq_gA, aq_isA, aq_s1, aq_s2, aq_kill, aq_ob, aq_sm, aq_arI, aq_arB, aq_isB, aq_arL, aq_arA, aq_arN, aq_sh, Value.category, List.getElem?_cons_zero, List.getElem?_cons_succ, List.length_cons, List.length_nil, Option.toList_some, Option.toList_none, List.cons_append, List.nil_append, true_and, and_true, List.set_cons_zero, List.set_cons_succ, aq_n1, aq_n2, aq_n3, aq_n4, aq_f1, aq_f2, aq_f3, aq_f4, aq_gs, aq_ty1, aq_ty2, aq_ty3, aq_ty4, aq_ty5, Nat.reduceAdd, Nat.reduceLT, Nat.reduceEqDiff, Nat.reduceSub, if_true, if_false, ne_eq, not_false_eq_true, not_true_eq_false, Option.map_some, Option.map_none, Nat.zero_add, reduceCtorEq, Nat.reduceLeDiff, one_ne_zero_a, zero_ne_one_a, aq_nb, aq_nb1, aq_nb0, aq_fb, aq_fb1, aq_fb0, aq_ofN, bB_t, bB_f, bB_v, vpn_b1, vpn_b0, nI_1, Bool.true_eq_false, Bool.false_eq_true, Bool.true_and, Bool.false_and, Bool.and_true, Bool.and_false, oI, Option.map_some, Int32.not_lt.mpr hle]
        refine Or.inr ⟨S2, cf', cy', qu', qd', ls', _, R2, hv0, some c, h1, ?_⟩
        unfold aSt
        simp only [hk, Bool.false_eq_true, if_false]
      · obtain ⟨b, y1, y2, y3⟩ := q2
        obtain ⟨m, hm⟩ : ∃ m, cl c = m + 1 := ⟨cl c - 1, by omega⟩
        have e1 : nI (cl c) - 1 = nI m := by rw [hm, nI_sm1]
        have e2 : ls' = nI (b (m + 1)) := by rw [y1, hm]
        have fin : some (Value.int (nI (dig c j))) = some (.int (aSt (some c) (nI j))) := by
          unfold aSt
          simp only [inC_nI hj (show cl c < 2 ^ 31 by omega), if_true, nI_clamp (show j < 2 ^ 31 by omega)]
        simp only [s_X5_directionAt_9, s_X5_directionAt_14, s_X5_directionAt_15, s_X5_directionAt_18, s_X5_directionAt_19, s_X5_directionAt_20, s_X5_directionAt_23, s_X5_directionAt_24, s_X5_directionAt_25, aq_gI, aq_gL, aq_gA, aq_isA, aq_s1, aq_s2, aq_kill, aq_ob, aq_sm, aq_arI, aq_arB, aq_isB, aq_arL, aq_arA, aq_arN, aq_sh, Value.category, List.getElem?_cons_zero, List.getElem?_cons_succ, List.length_cons, List.length_nil, Option.toList_some, Option.toList_none, List.cons_append, List.nil_append, true_and, and_true, List.set_cons_zero, List.set_cons_succ, aq_n1, aq_n2, aq_n3, aq_n4, aq_f1, aq_f2, aq_f3, aq_f4, aq_gs, aq_ty1, aq_ty2, aq_ty3, aq_ty4, aq_ty5, Nat.reduceAdd, Nat.reduceLT, Nat.reduceEqDiff, Nat.reduceSub, if_true, if_false, ne_eq, not_false_eq_true, not_true_eq_false, Option.map_some, Option.map_none, Nat.zero_add, reduceCtorEq, Nat.reduceLeDiff, one_ne_zero_a, zero_ne_one_a, aq_nb, aq_nb1, aq_nb0, aq_fb, aq_fb1, aq_fb0, aq_ofN, bB_t, bB_f, bB_v, vpn_b1, vpn_b0, nI_1, Bool.true_eq_false, Bool.false_eq_true, Bool.true_and, Bool.false_and, Bool.and_true, Bool.and_false, oI, Option.map_some, Int32.not_le.mp (nI_ge hj (show cl c < 2 ^ 31 by omega)), b1, e1, e2]
        exact w_back (j := j) R2 (show w * ht * 16 < 2 ^ 31 by omega) q1 y2 y3 (Or.inr ⟨S2, cf', cy', qu', qd', ls', _, R2, hv0, some c, h1, fin⟩) (m - j) m (by omega) (by omega)
theorem CLS_rt (C : CLS (VV w ht wx wy cb) h w ht wx wy cb ch hm D Z P) (S : sm 41 44 h h') (R : cRt h' (w * ht) ch hm (VV w ht wx wy cb Z)) : CLS (VV w ht wx wy cb) h' w ht wx wy cb ch hm D Z P := by
  obtain ⟨c1, c2, c3, c4, c5, c6, c7, c8, c9, c10, c11⟩ := C
  exact ⟨c1.sm S (by omega), c2.sm S (by omega), c3.sm S (by omega), c4.sm S (by omega), c5.sm S (by omega), c6.sm S (by omega), c7.sm S (by omega), R, c9.sm S (by omega), c10.sm S (by omega), c11⟩
theorem CLS_V {V V' : mzT → Int32 → (Nat → Int32) → (Nat → Int32) → Int32 → Prop} (C : CLS V h w ht wx wy cb ch false D Z P) : CLS V' h w ht wx wy cb ch false D Z P := by
  obtain ⟨c1, c2, c3, c4, c5, c6, c7, c8, c9, c10, c11⟩ := C
  exact ⟨c1, c2, c3, c4, c5, c6, c7, c8.off, c9, c10, c11⟩
theorem kn_ok (hch : ch < 2 ^ 31) {V : Int32 → (Nat → Int32) → (Nat → Int32) → Int32 → Prop} (g : kn = -1 ∨ ∃ k, k ≤ ch ∧ kn = nI k ∧ (k = ch → true = true → V sc cf cy ls)) : kn = nI ch → V sc cf cy ls := by
  intro e
  rcases g with g | ⟨k, g1, g2, g3⟩
  · exact absurd (g.symm.trans e).symm (nI_ne_m1 hch)
  · exact g3 ((nI_eq (by omega) hch).mp (g2.symm.trans e)) rfl
theorem ESC_ex (f : Nat → Nat → Option Nat) (s0 : Nat) (g : Nat → Prop) : ∃ o, ESC f s0 g o := by
  by_cases e : ∃ c, ∃ s, wC f s0 c = some s ∧ g s
  · obtain ⟨c, h1, h2⟩ := least_ex e
    exact ⟨some c, h1, fun c' hc s hs hg => h2 c' hc ⟨s, hs, hg⟩⟩
  · exact ⟨none, fun c s hs hg => e ⟨c, s, hs, hg⟩⟩
def pEs (w ht : Nat) (wx wy : Bool) (cb : Nat → Bool) (ch : Nat) (hm : Bool) (D : drT) (Z : mzT) (P : plT) (h : aq_H) (A : Option Nat → Int32) : Option Value → aq_H → Prop := fun r h' =>
  sm 0 46 h h' ∧ CLS (VV w ht wx wy cb) h' w ht wx wy cb ch hm D Z P ∧ (hm = false → r = some (.int (-1))) ∧ (hm = true → ∃ o, ESC (sF w ht wx wy cb Z) (sS Z) (sG Z) o ∧ r = some (.int (A o)))
theorem x_escape (C : CLS (VV w ht wx wy cb) h w ht wx wy cb ch hm D Z P) (hch : ch < 2 ^ 31) : aq_T e_X9_escape 1 0 0 [.ref 0] h (pEs w ht wx wy cb ch hm D Z P h aEs) := by
  have hC := C
  obtain ⟨⟨cut, bes, lead, pas, fr, B, G⟩, c2, -, -, ⟨op, dk, od, kc, st, ex, M, gM⟩, -, -, ⟨cf, cy, qu, qd, ls, sc, kn, R, gR⟩, -, -, hW⟩ := C
  unfold iDk at c2
  refine ⟨Nat.le_of_ble_eq_true rfl, ?_⟩
  show aq_W _ _ 0 [some (.ref 0)] [] _ _ _
  cases hm with
  | false =>
    simp only [s_X9_escape_0, s_X9_escape_1, s_X9_escape_4, s_X9_escape_7, s_X9_escape_8, s_X9_escape_11, s_X9_escape_14, s_X9_escape_17, s_X9_escape_18, aq_gI, aq_gL, aq_gA, aq_isA, aq_s1, aq_s2, aq_kill, aq_ob, aq_sm, aq_arI, aq_arB, aq_isB, aq_arL, aq_arA, aq_arN, aq_sh, Value.category, List.getElem?_cons_zero, List.getElem?_cons_succ, List.length_cons, List.length_nil, Option.toList_some, Option.toList_none, List.cons_append, List.nil_append, true_and, and_true, List.set_cons_zero, List.set_cons_succ, aq_n1, aq_n2, aq_n3, aq_n4, aq_f1, aq_f2, aq_f3, aq_f4, aq_gs, aq_ty1, aq_ty2, aq_ty3, aq_ty4, aq_ty5, Nat.reduceAdd, Nat.reduceLT, Nat.reduceEqDiff, Nat.reduceSub, if_true, if_false, ne_eq, not_false_eq_true, not_true_eq_false, Option.map_some, Option.map_none, Nat.zero_add, reduceCtorEq, Nat.reduceLeDiff, one_ne_zero_a, zero_ne_one_a, aq_nb, aq_nb1, aq_nb0, aq_fb, aq_fb1, aq_fb0, aq_ofN, bB_t, bB_f, bB_v, vpn_b1, vpn_b0, nI_1, Bool.true_eq_false, Bool.false_eq_true, Bool.true_and, Bool.false_and, Bool.and_true, Bool.and_false, c2]
    exact ⟨sm.rf _ _ _, hC, fun _ => rfl, fun z => by cases z⟩
  | true =>
    obtain ⟨gz, g2, g3⟩ := gM rfl
    subst g2
    subst g3
    have W := hW rfl
    simp only [s_X9_escape_0, s_X9_escape_1, s_X9_escape_4, s_X9_escape_7, s_X9_escape_8, s_X9_escape_11, s_X9_escape_14, s_X9_escape_17, s_X9_escape_18, aq_gI, aq_gL, aq_gA, aq_isA, aq_s1, aq_s2, aq_kill, aq_ob, aq_sm, aq_arI, aq_arB, aq_isB, aq_arL, aq_arA, aq_arN, aq_sh, Value.category, List.getElem?_cons_zero, List.getElem?_cons_succ, List.length_cons, List.length_nil, Option.toList_some, Option.toList_none, List.cons_append, List.nil_append, true_and, and_true, List.set_cons_zero, List.set_cons_succ, aq_n1, aq_n2, aq_n3, aq_n4, aq_f1, aq_f2, aq_f3, aq_f4, aq_gs, aq_ty1, aq_ty2, aq_ty3, aq_ty4, aq_ty5, Nat.reduceAdd, Nat.reduceLT, Nat.reduceEqDiff, Nat.reduceSub, if_true, if_false, ne_eq, not_false_eq_true, not_true_eq_false, Option.map_some, Option.map_none, Nat.zero_add, reduceCtorEq, Nat.reduceLeDiff, one_ne_zero_a, zero_ne_one_a, aq_nb, aq_nb1, aq_nb0, aq_fb, aq_fb1, aq_fb0, aq_ofN, bB_t, bB_f, bB_v, vpn_b1, vpn_b0, nI_1, Bool.true_eq_false, Bool.false_eq_true, Bool.true_and, Bool.false_and, Bool.and_true, Bool.and_false, c2, R.1]
    refine (t_rlength B G M gz W.1.1 (fun e he => (W.2.1 e he).1) R hch (kn_ok hch gR)).use ?_
    rintro _ h2 ⟨S2, cf', cy', qu', qd', ls', v, rfl, R2, hv⟩
    simp only [s_X9_escape_0, s_X9_escape_1, s_X9_escape_4, s_X9_escape_7, s_X9_escape_8, s_X9_escape_11, s_X9_escape_14, s_X9_escape_17, s_X9_escape_18, aq_gI, aq_gL, aq_gA, aq_isA, aq_s1, aq_s2, aq_kill, aq_ob, aq_sm, aq_arI, aq_arB, aq_isB, aq_arL, aq_arA, aq_arN, aq_sh, Value.category, List.getElem?_cons_zero, List.getElem?_cons_succ, List.length_cons, List.length_nil, Option.toList_some, Option.toList_none, List.cons_append, List.nil_append, true_and, and_true, List.set_cons_zero, List.set_cons_succ, aq_n1, aq_n2, aq_n3, aq_n4, aq_f1, aq_f2, aq_f3, aq_f4, aq_gs, aq_ty1, aq_ty2, aq_ty3, aq_ty4, aq_ty5, Nat.reduceAdd, Nat.reduceLT, Nat.reduceEqDiff, Nat.reduceSub, if_true, if_false, ne_eq, not_false_eq_true, not_true_eq_false, Option.map_some, Option.map_none, Nat.zero_add, reduceCtorEq, Nat.reduceLeDiff, one_ne_zero_a, zero_ne_one_a, aq_nb, aq_nb1, aq_nb0, aq_fb, aq_fb1, aq_fb0, aq_ofN, bB_t, bB_f, bB_v, vpn_b1, vpn_b0, nI_1, Bool.true_eq_false, Bool.false_eq_true, Bool.true_and, Bool.false_and, Bool.and_true, Bool.and_false]
    refine ⟨S2.mo (by decide) (by decide), CLS_rt hC S2 ⟨cf', cy', qu', qd', ls', v, nI ch, R2, Or.inr ⟨ch, Nat.le_refl _, rfl, fun _ _ => hv⟩⟩, (fun z => by cases z), fun _ => ?_⟩
    obtain ⟨o, h1, rfl, h3⟩ := hv
    exact ⟨o, h1, rfl⟩
theorem x_step (C : CLS (VV w ht wx wy cb) h w ht wx wy cb ch hm D Z P) (hch : ch < 2 ^ 31) (x : Int32) : aq_T e_X9_step 2 0 0 [.ref 0, .int x] h (pEs w ht wx wy cb ch hm D Z P h (fun o => aSt o x)) := by
  have hC := C
  obtain ⟨⟨cut, bes, lead, pas, fr, B, G⟩, c2, -, -, ⟨op, dk, od, kc, st, ex, M, gM⟩, -, -, ⟨cf, cy, qu, qd, ls, sc, kn, R, gR⟩, -, -, hW⟩ := C
  unfold iDk at c2
  refine ⟨Nat.le_of_ble_eq_true rfl, ?_⟩
  show aq_W _ _ 0 [some (.ref 0), some (.int x)] [] _ _ _
  cases hm with
  | false =>
    simp only [s_X9_step_0, s_X9_step_1, s_X9_step_4, s_X9_step_7, s_X9_step_8, s_X9_step_11, s_X9_step_12, s_X9_step_15, s_X9_step_18, s_X9_step_19, aq_gI, aq_gL, aq_gA, aq_isA, aq_s1, aq_s2, aq_kill, aq_ob, aq_sm, aq_arI, aq_arB, aq_isB, aq_arL, aq_arA, aq_arN, aq_sh, Value.category, List.getElem?_cons_zero, List.getElem?_cons_succ, List.length_cons, List.length_nil, Option.toList_some, Option.toList_none, List.cons_append, List.nil_append, true_and, and_true, List.set_cons_zero, List.set_cons_succ, aq_n1, aq_n2, aq_n3, aq_n4, aq_f1, aq_f2, aq_f3, aq_f4, aq_gs, aq_ty1, aq_ty2, aq_ty3, aq_ty4, aq_ty5, Nat.reduceAdd, Nat.reduceLT, Nat.reduceEqDiff, Nat.reduceSub, if_true, if_false, ne_eq, not_false_eq_true, not_true_eq_false, Option.map_some, Option.map_none, Nat.zero_add, reduceCtorEq, Nat.reduceLeDiff, one_ne_zero_a, zero_ne_one_a, aq_nb, aq_nb1, aq_nb0, aq_fb, aq_fb1, aq_fb0, aq_ofN, bB_t, bB_f, bB_v, vpn_b1, vpn_b0, nI_1, Bool.true_eq_false, Bool.false_eq_true, Bool.true_and, Bool.false_and, Bool.and_true, Bool.and_false, c2]
    exact ⟨sm.rf _ _ _, hC, fun _ => rfl, fun z => by cases z⟩
  | true =>
    obtain ⟨gz, g2, g3⟩ := gM rfl
    subst g2
    subst g3
    have W := hW rfl
    simp only [s_X9_step_0, s_X9_step_1, s_X9_step_4, s_X9_step_7, s_X9_step_8, s_X9_step_11, s_X9_step_12, s_X9_step_15, s_X9_step_18, s_X9_step_19, aq_gI, aq_gL, aq_gA, aq_isA, aq_s1, aq_s2, aq_kill, aq_ob, aq_sm, aq_arI, aq_arB, aq_isB, aq_arL, aq_arA, aq_arN, aq_sh, Value.category, List.getElem?_cons_zero, List.getElem?_cons_succ, List.length_cons, List.length_nil, Option.toList_some, Option.toList_none, List.cons_append, List.nil_append, true_and, and_true, List.set_cons_zero, List.set_cons_succ, aq_n1, aq_n2, aq_n3, aq_n4, aq_f1, aq_f2, aq_f3, aq_f4, aq_gs, aq_ty1, aq_ty2, aq_ty3, aq_ty4, aq_ty5, Nat.reduceAdd, Nat.reduceLT, Nat.reduceEqDiff, Nat.reduceSub, if_true, if_false, ne_eq, not_false_eq_true, not_true_eq_false, Option.map_some, Option.map_none, Nat.zero_add, reduceCtorEq, Nat.reduceLeDiff, one_ne_zero_a, zero_ne_one_a, aq_nb, aq_nb1, aq_nb0, aq_fb, aq_fb1, aq_fb0, aq_ofN, bB_t, bB_f, bB_v, vpn_b1, vpn_b0, nI_1, Bool.true_eq_false, Bool.false_eq_true, Bool.true_and, Bool.false_and, Bool.and_true, Bool.and_false, c2, R.1]
    refine (t_directionAt B G M gz W.1.1 (fun e he => (W.2.1 e he).1) R hch (kn_ok hch gR) x).use ?_
    rintro r h2 (⟨hx, rfl, rfl⟩ | ⟨S2, cf', cy', qu', qd', ls', v, R2, hv, o, h1, rfl⟩)
    · simp only [s_X9_step_0, s_X9_step_1, s_X9_step_4, s_X9_step_7, s_X9_step_8, s_X9_step_11, s_X9_step_12, s_X9_step_15, s_X9_step_18, s_X9_step_19, aq_gI, aq_gL, aq_gA, aq_isA, aq_s1, aq_s2, aq_kill, aq_ob, aq_sm, aq_arI, aq_arB, aq_isB, aq_arL, aq_arA, aq_arN, aq_sh, Value.category, List.getElem?_cons_zero, List.getElem?_cons_succ, List.length_cons, List.length_nil, Option.toList_some, Option.toList_none, List.cons_append, List.nil_append, true_and, and_true, List.set_cons_zero, List.set_cons_succ, aq_n1, aq_n2, aq_n3, aq_n4, aq_f1, aq_f2, aq_f3, aq_f4, aq_gs, aq_ty1, aq_ty2, aq_ty3, aq_ty4, aq_ty5, Nat.reduceAdd, Nat.reduceLT, Nat.reduceEqDiff, Nat.reduceSub, if_true, if_false, ne_eq, not_false_eq_true, not_true_eq_false, Option.map_some, Option.map_none, Nat.zero_add, reduceCtorEq, Nat.reduceLeDiff, one_ne_zero_a, zero_ne_one_a, aq_nb, aq_nb1, aq_nb0, aq_fb, aq_fb1, aq_fb0, aq_ofN, bB_t, bB_f, bB_v, vpn_b1, vpn_b0, nI_1, Bool.true_eq_false, Bool.false_eq_true, Bool.true_and, Bool.false_and, Bool.and_true, Bool.and_false]
      refine ⟨sm.rf _ _ _, hC, (fun z => by cases z), fun _ => ?_⟩
      obtain ⟨o, ho⟩ := ESC_ex (sF w ht wx wy cb Z) (sS Z) (sG Z)
      refine ⟨o, ho, ?_⟩
      cases o with
      | none => rfl
      | some c =>
        have hx0 : inC (cl c) x = false := by
          unfold inC
          refine decide_eq_false fun q => ?_
          exact Int32.not_le.mpr hx q.1
        show _ = some (Value.int (aSt (some c) x))
        unfold aSt
        simp only [hx0, Bool.false_eq_true, if_false]
    · simp only [s_X9_step_0, s_X9_step_1, s_X9_step_4, s_X9_step_7, s_X9_step_8, s_X9_step_11, s_X9_step_12, s_X9_step_15, s_X9_step_18, s_X9_step_19, aq_gI, aq_gL, aq_gA, aq_isA, aq_s1, aq_s2, aq_kill, aq_ob, aq_sm, aq_arI, aq_arB, aq_isB, aq_arL, aq_arA, aq_arN, aq_sh, Value.category, List.getElem?_cons_zero, List.getElem?_cons_succ, List.length_cons, List.length_nil, Option.toList_some, Option.toList_none, List.cons_append, List.nil_append, true_and, and_true, List.set_cons_zero, List.set_cons_succ, aq_n1, aq_n2, aq_n3, aq_n4, aq_f1, aq_f2, aq_f3, aq_f4, aq_gs, aq_ty1, aq_ty2, aq_ty3, aq_ty4, aq_ty5, Nat.reduceAdd, Nat.reduceLT, Nat.reduceEqDiff, Nat.reduceSub, if_true, if_false, ne_eq, not_false_eq_true, not_true_eq_false, Option.map_some, Option.map_none, Nat.zero_add, reduceCtorEq, Nat.reduceLeDiff, one_ne_zero_a, zero_ne_one_a, aq_nb, aq_nb1, aq_nb0, aq_fb, aq_fb1, aq_fb0, aq_ofN, bB_t, bB_f, bB_v, vpn_b1, vpn_b0, nI_1, Bool.true_eq_false, Bool.false_eq_true, Bool.true_and, Bool.false_and, Bool.and_true, Bool.and_false]
      exact ⟨S2.mo (by decide) (by decide), CLS_rt hC S2 ⟨cf', cy', qu', qd', ls', v, nI ch, R2, Or.inr ⟨ch, Nat.le_refl _, rfl, fun _ _ => hv⟩⟩, (fun z => by cases z), fun _ => ⟨o, h1, rfl⟩⟩
end RTF
