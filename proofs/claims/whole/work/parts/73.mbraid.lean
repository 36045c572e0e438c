-- dep 62.base2 63.ops 64.ops2 70.mdl 71.mdl2 72.mdl3
/-! the model's braid -/
section MBR
variable {h : aq_H} {w ht : Nat} {wx wy hm : Bool} {cb : Nat → Bool} {D : drT} {Z : mzT} {P : plT} {wr thr th rt ci st ex pl hd sg : Int32} {mc mx mt mp mo md mw mk mr pc fa go : Nat → Int32} {tb : Nat → Int64} {ob : Nat → Bool} {dr on ky : Nat → Option Nat}
theorem mb_in {Q : Option Value → aq_H → Prop} (O : iMo h w ht wr thr th rt ci st ex pl hd sg) (G : gMb h w ht wx wy cb wr mc) (a4 : h[52]? = some (.inl (.boolean, 576, .inl mo))) (R : gMm w ht wx wy cb ob dr on mo md mw) {c : Nat} (hc : c < w * ht) {n most : Int32} : ∀ (k d : Nat), d + k = 4 → (∀ x, x = (match fcp w ht wx wy cb ob c k d with | none => 4 | some q => q.1) → aq_W e_X10_braid Q 71 [some (.ref 47), some (.int most), some (.int n), some (.int (nI c)), some (.int (nI x))] [] h 0 0) → aq_W e_X10_braid Q 34 [some (.ref 47), some (.int most), some (.int n), some (.int (nI c)), some (.int (nI d))] [] h 0 0 := by
  have hn := wh_lt G.1
  have O1 := O
  unfold iMo at O1
  intro k
  induction k with
  | zero =>
    intro d hd K
    have e : d = 4 := by omega
    subst e
    have h4 : (4 : Int32) ≤ nI 4 := by decide
    rw [s_X10_braid_34]
    simp only [s_X10_braid_36, s_X10_braid_37, aq_gI, aq_gL, aq_gA, aq_isA, aq_s1, aq_s2, aq_kill, aq_ob, aq_sm, aq_arI, aq_arB, aq_isB, aq_arL, aq_arA, aq_arN, aq_sh, Value.category, List.getElem?_cons_zero, List.getElem?_cons_succ, List.length_cons, List.length_nil, Option.toList_some, Option.toList_none, List.cons_append, List.nil_append, true_and, and_true, List.set_cons_zero, List.set_cons_succ, aq_n1, aq_n2, aq_n3, aq_n4, aq_f1, aq_f2, aq_f3, aq_f4, aq_gs, aq_ty1, aq_ty2, aq_ty3, aq_ty4, aq_ty5, Nat.reduceAdd, Nat.reduceLT, Nat.reduceEqDiff, Nat.reduceSub, if_true, if_false, ne_eq, not_false_eq_true, not_true_eq_false, Option.map_some, Option.map_none, Nat.zero_add, reduceCtorEq, Nat.reduceLeDiff, one_ne_zero_a, zero_ne_one_a, aq_nb, aq_nb1, aq_nb0, aq_fb, aq_fb1, aq_fb0, aq_ofN, bB_t, bB_f, bB_v, vpn_b1, vpn_b0, nI_1, Bool.true_eq_false, Bool.false_eq_true, Bool.true_and, Bool.false_and, Bool.and_true, Bool.and_false, h4]
    exact K 4 rfl
  | succ k ih =>
    intro d hd K
    have hd4 : d < 4 := by omega
    have h4 : ¬ (4 : Int32) ≤ nI d := by rw [nI_4]; exact nI_ge hd4 (by omega)
    have hnext := ih (d + 1) (by omega)
    unfold fcp at K
    rw [s_X10_braid_34]
    simp only [s_X10_braid_36, s_X10_braid_37, s_X10_braid_40, s_X10_braid_41, s_X10_braid_42, s_X10_braid_44, aq_gI, aq_gL, aq_gA, aq_isA, aq_s1, aq_s2, aq_kill, aq_ob, aq_sm, aq_arI, aq_arB, aq_isB, aq_arL, aq_arA, aq_arN, aq_sh, Value.category, List.getElem?_cons_zero, List.getElem?_cons_succ, List.length_cons, List.length_nil, Option.toList_some, Option.toList_none, List.cons_append, List.nil_append, true_and, and_true, List.set_cons_zero, List.set_cons_succ, aq_n1, aq_n2, aq_n3, aq_n4, aq_f1, aq_f2, aq_f3, aq_f4, aq_gs, aq_ty1, aq_ty2, aq_ty3, aq_ty4, aq_ty5, Nat.reduceAdd, Nat.reduceLT, Nat.reduceEqDiff, Nat.reduceSub, if_true, if_false, ne_eq, not_false_eq_true, not_true_eq_false, Option.map_some, Option.map_none, Nat.zero_add, reduceCtorEq, Nat.reduceLeDiff, one_ne_zero_a, zero_ne_one_a, aq_nb, aq_nb1, aq_nb0, aq_fb, aq_fb1, aq_fb0, aq_ofN, bB_t, bB_f, bB_v, vpn_b1, vpn_b0, nI_1, Bool.true_eq_false, Bool.false_eq_true, Bool.true_and, Bool.false_and, Bool.and_true, Bool.and_false, h4, O1]
    refine (m_next O G (nI c) (nI d)).use ?_
    rintro _ h ⟨rfl, rfl⟩
    rw [NX_in hc (by omega) hd4]
    cases hx : nx w ht wx wy cb c d with
    | none =>
      rw [hx] at K
      simp only [oI, s_X10_braid_47, s_X10_braid_48, s_X10_braid_65, s_X10_braid_68, aq_gI, aq_gL, aq_gA, aq_isA, aq_s1, aq_s2, aq_kill, aq_ob, aq_sm, aq_arI, aq_arB, aq_isB, aq_arL, aq_arA, aq_arN, aq_sh, Value.category, List.getElem?_cons_zero, List.getElem?_cons_succ, List.length_cons, List.length_nil, Option.toList_some, Option.toList_none, List.cons_append, List.nil_append, true_and, and_true, List.set_cons_zero, List.set_cons_succ, aq_n1, aq_n2, aq_n3, aq_n4, aq_f1, aq_f2, aq_f3, aq_f4, aq_gs, aq_ty1, aq_ty2, aq_ty3, aq_ty4, aq_ty5, Nat.reduceAdd, Nat.reduceLT, Nat.reduceEqDiff, Nat.reduceSub, if_true, if_false, ne_eq, not_false_eq_true, not_true_eq_false, Option.map_some, Option.map_none, Nat.zero_add, reduceCtorEq, Nat.reduceLeDiff, one_ne_zero_a, zero_ne_one_a, aq_nb, aq_nb1, aq_nb0, aq_fb, aq_fb1, aq_fb0, aq_ofN, bB_t, bB_f, bB_v, vpn_b1, vpn_b0, nI_1, Bool.true_eq_false, Bool.false_eq_true, Bool.true_and, Bool.false_and, Bool.and_true, Bool.and_false]
      exact hnext K
    | some m =>
      have hm := nx_lt G.1 hc hd4 hx
      rw [hx] at K
      simp only [oI, s_X10_braid_47, s_X10_braid_48, s_X10_braid_51, s_X10_braid_52, s_X10_braid_55, s_X10_braid_56, s_X10_braid_57, s_X10_braid_58, s_X10_braid_60, s_X10_braid_61, aq_gI, aq_gL, aq_gA, aq_isA, aq_s1, aq_s2, aq_kill, aq_ob, aq_sm, aq_arI, aq_arB, aq_isB, aq_arL, aq_arA, aq_arN, aq_sh, Value.category, List.getElem?_cons_zero, List.getElem?_cons_succ, List.length_cons, List.length_nil, Option.toList_some, Option.toList_none, List.cons_append, List.nil_append, true_and, and_true, List.set_cons_zero, List.set_cons_succ, aq_n1, aq_n2, aq_n3, aq_n4, aq_f1, aq_f2, aq_f3, aq_f4, aq_gs, aq_ty1, aq_ty2, aq_ty3, aq_ty4, aq_ty5, Nat.reduceAdd, Nat.reduceLT, Nat.reduceEqDiff, Nat.reduceSub, if_true, if_false, ne_eq, not_false_eq_true, not_true_eq_false, Option.map_some, Option.map_none, Nat.zero_add, reduceCtorEq, Nat.reduceLeDiff, one_ne_zero_a, zero_ne_one_a, aq_nb, aq_nb1, aq_nb0, aq_fb, aq_fb1, aq_fb0, aq_ofN, bB_t, bB_f, bB_v, vpn_b1, vpn_b0, nI_1, Bool.true_eq_false, Bool.false_eq_true, Bool.true_and, Bool.false_and, Bool.and_true, Bool.and_false, nI_ne_m1 (show m < 2 ^ 31 by omega), O1, a4, nI_4c, vp_in_nI (show 4 * c + d < 576 by omega) (show 576 < 2 ^ 31 by decide), nI_clamp (show 4 * c + d < 2 ^ 31 by omega), (R c d m hc hd4 hx).1]
      cases ho : ob (pn c d m) with
      | true =>
        simp only [ho, if_true] at K
        simp only [s_X10_braid_62, s_X10_braid_65, s_X10_braid_68, aq_gI, aq_gL, aq_gA, aq_isA, aq_s1, aq_s2, aq_kill, aq_ob, aq_sm, aq_arI, aq_arB, aq_isB, aq_arL, aq_arA, aq_arN, aq_sh, Value.category, List.getElem?_cons_zero, List.getElem?_cons_succ, List.length_cons, List.length_nil, Option.toList_some, Option.toList_none, List.cons_append, List.nil_append, true_and, and_true, List.set_cons_zero, List.set_cons_succ, aq_n1, aq_n2, aq_n3, aq_n4, aq_f1, aq_f2, aq_f3, aq_f4, aq_gs, aq_ty1, aq_ty2, aq_ty3, aq_ty4, aq_ty5, Nat.reduceAdd, Nat.reduceLT, Nat.reduceEqDiff, Nat.reduceSub, if_true, if_false, ne_eq, not_false_eq_true, not_true_eq_false, Option.map_some, Option.map_none, Nat.zero_add, reduceCtorEq, Nat.reduceLeDiff, one_ne_zero_a, zero_ne_one_a, aq_nb, aq_nb1, aq_nb0, aq_fb, aq_fb1, aq_fb0, aq_ofN, bB_t, bB_f, bB_v, vpn_b1, vpn_b0, nI_1, Bool.true_eq_false, Bool.false_eq_true, Bool.true_and, Bool.false_and, Bool.and_true, Bool.and_false]
        exact hnext K
      | false =>
        simp only [ho, Bool.false_eq_true, if_false] at K
        simp only [s_X10_braid_62, aq_gI, aq_gL, aq_gA, aq_isA, aq_s1, aq_s2, aq_kill, aq_ob, aq_sm, aq_arI, aq_arB, aq_isB, aq_arL, aq_arA, aq_arN, aq_sh, Value.category, List.getElem?_cons_zero, List.getElem?_cons_succ, List.length_cons, List.length_nil, Option.toList_some, Option.toList_none, List.cons_append, List.nil_append, true_and, and_true, List.set_cons_zero, List.set_cons_succ, aq_n1, aq_n2, aq_n3, aq_n4, aq_f1, aq_f2, aq_f3, aq_f4, aq_gs, aq_ty1, aq_ty2, aq_ty3, aq_ty4, aq_ty5, Nat.reduceAdd, Nat.reduceLT, Nat.reduceEqDiff, Nat.reduceSub, if_true, if_false, ne_eq, not_false_eq_true, not_true_eq_false, Option.map_some, Option.map_none, Nat.zero_add, reduceCtorEq, Nat.reduceLeDiff, one_ne_zero_a, zero_ne_one_a, aq_nb, aq_nb1, aq_nb0, aq_fb, aq_fb1, aq_fb0, aq_ofN, bB_t, bB_f, bB_v, vpn_b1, vpn_b0, nI_1, Bool.true_eq_false, Bool.false_eq_true, Bool.true_and, Bool.false_and, Bool.and_true, Bool.and_false]
        exact K d rfl
theorem m_braid (T : MDL h w ht wx wy cb hm D Z P) (most : Int32) : aq_T e_X10_braid 5 0 0 [.ref 47, .int most] h (fun r h' => if hm = false then mR h (-1) w ht wx wy cb hm D Z P r h' else mR h (nI (brd w ht wx wy cb most (w * ht) 0 0 (Z.1, Z.2.1, Z.2.2.1)).1) w ht wx wy cb true D ((brd w ht wx wy cb most (w * ht) 0 0 (Z.1, Z.2.1, Z.2.2.1)).2.1, (brd w ht wx wy cb most (w * ht) 0 0 (Z.1, Z.2.1, Z.2.2.1)).2.2.1, (brd w ht wx wy cb most (w * ht) 0 0 (Z.1, Z.2.1, Z.2.2.1)).2.2.2, Z.2.2.2) P r h') := by
  generalize hR : brd w ht wx wy cb most (w * ht) 0 0 (Z.1, Z.2.1, Z.2.2.1) = R
  refine ⟨Nat.le_of_ble_eq_true rfl, ?_⟩
  show aq_W _ _ 0 [some (.ref 47), some (.int most), none, none, none] [] _ _ _
  obtain ⟨wr, thr, rt, ci, st, ex, pl, hd, sg, mc, mx, mt, mp, mo, md, mw, mk, mr, tb, pc, fa, go, O0, G0, A0, g⟩ := T
  have OO := O0
  unfold iMo at OO
  simp only [s_X10_braid_0, s_X10_braid_1, s_X10_braid_2, aq_gI, aq_gL, aq_gA, aq_isA, aq_s1, aq_s2, aq_kill, aq_ob, aq_sm, aq_arI, aq_arB, aq_isB, aq_arL, aq_arA, aq_arN, aq_sh, Value.category, List.getElem?_cons_zero, List.getElem?_cons_succ, List.length_cons, List.length_nil, Option.toList_some, Option.toList_none, List.cons_append, List.nil_append, true_and, and_true, List.set_cons_zero, List.set_cons_succ, aq_n1, aq_n2, aq_n3, aq_n4, aq_f1, aq_f2, aq_f3, aq_f4, aq_gs, aq_ty1, aq_ty2, aq_ty3, aq_ty4, aq_ty5, Nat.reduceAdd, Nat.reduceLT, Nat.reduceEqDiff, Nat.reduceSub, if_true, if_false, ne_eq, not_false_eq_true, not_true_eq_false, Option.map_some, Option.map_none, Nat.zero_add, reduceCtorEq, Nat.reduceLeDiff, one_ne_zero_a, zero_ne_one_a, OO]
  have O := O0.st (bB hm) wr 0 rt ci st ex pl hd sg
  have G := G0.s48 (mOb w ht wr 0 (bB hm) rt ci st ex pl hd sg)
  have A := A0.s48 (mOb w ht wr 0 (bB hm) rt ci st ex pl hd sg)
  have S : sm 47 60 h (h.set 47 (mOb w ht wr 0 (bB hm) rt ci st ex pl hd sg)) := (sm.rf _ _ _).st (by decide) (by decide)
  change aq_W _ _ _ _ _ (h.set 47 (mOb w ht wr 0 (bB hm) rt ci st ex pl hd sg)) _ _
  generalize h.set 47 (mOb w ht wr 0 (bB hm) rt ci st ex pl hd sg) = h1 at O G A S ⊢
  have O1 := O
  unfold iMo at O1
  have hn := wh_lt G.1
  cases hm with
  | false =>
    simp only [s_X10_braid_5, s_X10_braid_6, s_X10_braid_9, s_X10_braid_12, s_X10_braid_13, aq_gI, aq_gL, aq_gA, aq_isA, aq_s1, aq_s2, aq_kill, aq_ob, aq_sm, aq_arI, aq_arB, aq_isB, aq_arL, aq_arA, aq_arN, aq_sh, Value.category, List.getElem?_cons_zero, List.getElem?_cons_succ, List.length_cons, List.length_nil, Option.toList_some, Option.toList_none, List.cons_append, List.nil_append, true_and, and_true, List.set_cons_zero, List.set_cons_succ, aq_n1, aq_n2, aq_n3, aq_n4, aq_f1, aq_f2, aq_f3, aq_f4, aq_gs, aq_ty1, aq_ty2, aq_ty3, aq_ty4, aq_ty5, Nat.reduceAdd, Nat.reduceLT, Nat.reduceEqDiff, Nat.reduceSub, if_true, if_false, ne_eq, not_false_eq_true, not_true_eq_false, Option.map_some, Option.map_none, Nat.zero_add, reduceCtorEq, Nat.reduceLeDiff, one_ne_zero_a, zero_ne_one_a, aq_nb, aq_nb1, aq_nb0, aq_fb, aq_fb1, aq_fb0, aq_ofN, bB_t, bB_f, bB_v, vpn_b1, vpn_b0, nI_1, Bool.true_eq_false, Bool.false_eq_true, Bool.true_and, Bool.false_and, Bool.and_true, Bool.and_false, O1]
    exact ⟨rfl, S, MDL_mk O G A g⟩
  | true =>
    simp only [s_X10_braid_5, s_X10_braid_6, s_X10_braid_9, s_X10_braid_14, s_X10_braid_15, s_X10_braid_16, s_X10_braid_17, aq_gI, aq_gL, aq_gA, aq_isA, aq_s1, aq_s2, aq_kill, aq_ob, aq_sm, aq_arI, aq_arB, aq_isB, aq_arL, aq_arA, aq_arN, aq_sh, Value.category, List.getElem?_cons_zero, List.getElem?_cons_succ, List.length_cons, List.length_nil, Option.toList_some, Option.toList_none, List.cons_append, List.nil_append, true_and, and_true, List.set_cons_zero, List.set_cons_succ, aq_n1, aq_n2, aq_n3, aq_n4, aq_f1, aq_f2, aq_f3, aq_f4, aq_gs, aq_ty1, aq_ty2, aq_ty3, aq_ty4, aq_ty5, Nat.reduceAdd, Nat.reduceLT, Nat.reduceEqDiff, Nat.reduceSub, if_true, if_false, ne_eq, not_false_eq_true, not_true_eq_false, Option.map_some, Option.map_none, Nat.zero_add, reduceCtorEq, Nat.reduceLeDiff, one_ne_zero_a, zero_ne_one_a, aq_nb, aq_nb1, aq_nb0, aq_fb, aq_fb1, aq_fb0, aq_ofN, bB_t, bB_f, bB_v, vpn_b1, vpn_b0, nI_1, Bool.true_eq_false, Bool.false_eq_true, Bool.true_and, Bool.false_and, Bool.and_true, Bool.and_false, O1]
    have one : ∀ (k c n : Nat), c + k = w * ht → n ≤ c → ∀ (z : (Nat → Bool) × (Nat → Option Nat) × (Nat → Option Nat)) (L : Option Value) (h2 : aq_H), sm 47 60 h h2 → MDL h2 w ht wx wy cb true D (z.1, z.2.1, z.2.2, Z.2.2.2) P → brd w ht wx wy cb most k c n z = R → aq_W e_X10_braid (mR h (nI R.1) w ht wx wy cb true D (R.2.1, R.2.2.1, R.2.2.2, Z.2.2.2) P) 18 [some (.ref 47), some (.int most), some (.int (nI n)), some (.int (nI c)), L] [] h2 0 0 := by
      clear G A O O1 S g G0 A0 O0 OO
      intro k
      induction k with
      | zero =>
        intro c n hc hnc z L h2 S T hz
        obtain ⟨wr, thr, rt, ci, st, ex, pl, hd, sg, mc, mx, mt, mp, mo, md, mw, mk, mr, tb, pc, fa, go, O, G, A, g⟩ := T
        have O1 := O
        unfold iMo at O1
        have e : c = w * ht := by omega
        subst e
        unfold brd at hz
        subst hz
        rw [s_X10_braid_18]
        simp only [s_X10_braid_19, s_X10_braid_20, s_X10_braid_23, s_X10_braid_103, s_X10_braid_104, aq_gI, aq_gL, aq_gA, aq_isA, aq_s1, aq_s2, aq_kill, aq_ob, aq_sm, aq_arI, aq_arB, aq_isB, aq_arL, aq_arA, aq_arN, aq_sh, Value.category, List.getElem?_cons_zero, List.getElem?_cons_succ, List.length_cons, List.length_nil, Option.toList_some, Option.toList_none, List.cons_append, List.nil_append, true_and, and_true, List.set_cons_zero, List.set_cons_succ, aq_n1, aq_n2, aq_n3, aq_n4, aq_f1, aq_f2, aq_f3, aq_f4, aq_gs, aq_ty1, aq_ty2, aq_ty3, aq_ty4, aq_ty5, Nat.reduceAdd, Nat.reduceLT, Nat.reduceEqDiff, Nat.reduceSub, if_true, if_false, ne_eq, not_false_eq_true, not_true_eq_false, Option.map_some, Option.map_none, Nat.zero_add, reduceCtorEq, Nat.reduceLeDiff, one_ne_zero_a, zero_ne_one_a, aq_nb, aq_nb1, aq_nb0, aq_fb, aq_fb1, aq_fb0, aq_ofN, bB_t, bB_f, bB_v, vpn_b1, vpn_b0, nI_1, Bool.true_eq_false, Bool.false_eq_true, Bool.true_and, Bool.false_and, Bool.and_true, Bool.and_false, O1, nI_le (Nat.le_refl (w * ht)) (show w * ht < 2 ^ 31 by omega)]
        exact ⟨rfl, S, MDL_mk O G A g⟩
      | succ k ih =>
        intro c n hc hnc z L h2 S T hz
        obtain ⟨wr, thr, rt, ci, st, ex, pl, hd, sg, mc, mx, mt, mp, mo, md, mw, mk, mr, tb, pc, fa, go, O, G, A, g⟩ := T
        have O1 := O
        unfold iMo at O1
        have hc2 : c < w * ht := by omega
        unfold brd at hz
        rw [s_X10_braid_18]
        by_cases em : most ≤ nI n
        · rw [if_pos em] at hz
          subst hz
          simp only [s_X10_braid_19, s_X10_braid_20, s_X10_braid_23, s_X10_braid_26, s_X10_braid_27, s_X10_braid_28, s_X10_braid_103, s_X10_braid_104, aq_gI, aq_gL, aq_gA, aq_isA, aq_s1, aq_s2, aq_kill, aq_ob, aq_sm, aq_arI, aq_arB, aq_isB, aq_arL, aq_arA, aq_arN, aq_sh, Value.category, List.getElem?_cons_zero, List.getElem?_cons_succ, List.length_cons, List.length_nil, Option.toList_some, Option.toList_none, List.cons_append, List.nil_append, true_and, and_true, List.set_cons_zero, List.set_cons_succ, aq_n1, aq_n2, aq_n3, aq_n4, aq_f1, aq_f2, aq_f3, aq_f4, aq_gs, aq_ty1, aq_ty2, aq_ty3, aq_ty4, aq_ty5, Nat.reduceAdd, Nat.reduceLT, Nat.reduceEqDiff, Nat.reduceSub, if_true, if_false, ne_eq, not_false_eq_true, not_true_eq_false, Option.map_some, Option.map_none, Nat.zero_add, reduceCtorEq, Nat.reduceLeDiff, one_ne_zero_a, zero_ne_one_a, aq_nb, aq_nb1, aq_nb0, aq_fb, aq_fb1, aq_fb0, aq_ofN, bB_t, bB_f, bB_v, vpn_b1, vpn_b0, nI_1, Bool.true_eq_false, Bool.false_eq_true, Bool.true_and, Bool.false_and, Bool.and_true, Bool.and_false, O1, nI_ge hc2 (show w * ht < 2 ^ 31 by omega), em]
          exact ⟨rfl, S, MDL_mk O G A g⟩
        · rw [if_neg em] at hz
          simp only [s_X10_braid_19, s_X10_braid_20, s_X10_braid_23, s_X10_braid_26, s_X10_braid_27, s_X10_braid_28, s_X10_braid_31, s_X10_braid_32, aq_gI, aq_gL, aq_gA, aq_isA, aq_s1, aq_s2, aq_kill, aq_ob, aq_sm, aq_arI, aq_arB, aq_isB, aq_arL, aq_arA, aq_arN, aq_sh, Value.category, List.getElem?_cons_zero, List.getElem?_cons_succ, List.length_cons, List.length_nil, Option.toList_some, Option.toList_none, List.cons_append, List.nil_append, true_and, and_true, List.set_cons_zero, List.set_cons_succ, aq_n1, aq_n2, aq_n3, aq_n4, aq_f1, aq_f2, aq_f3, aq_f4, aq_gs, aq_ty1, aq_ty2, aq_ty3, aq_ty4, aq_ty5, Nat.reduceAdd, Nat.reduceLT, Nat.reduceEqDiff, Nat.reduceSub, if_true, if_false, ne_eq, not_false_eq_true, not_true_eq_false, Option.map_some, Option.map_none, Nat.zero_add, reduceCtorEq, Nat.reduceLeDiff, one_ne_zero_a, zero_ne_one_a, aq_nb, aq_nb1, aq_nb0, aq_fb, aq_fb1, aq_fb0, aq_ofN, bB_t, bB_f, bB_v, vpn_b1, vpn_b0, nI_1, Bool.true_eq_false, Bool.false_eq_true, Bool.true_and, Bool.false_and, Bool.and_true, Bool.and_false, O1, nI_ge hc2 (show w * ht < 2 ^ 31 by omega), em]
          obtain ⟨g1, g2, g3, g4, g7, g8⟩ := g rfl
          refine mb_in O G A.2.2.2.1 g2 hc2 4 0 rfl ?_
          intro x hx
          simp only [s_X10_braid_71, s_X10_braid_72, s_X10_braid_73, aq_gI, aq_gL, aq_gA, aq_isA, aq_s1, aq_s2, aq_kill, aq_ob, aq_sm, aq_arI, aq_arB, aq_isB, aq_arL, aq_arA, aq_arN, aq_sh, Value.category, List.getElem?_cons_zero, List.getElem?_cons_succ, List.length_cons, List.length_nil, Option.toList_some, Option.toList_none, List.cons_append, List.nil_append, true_and, and_true, List.set_cons_zero, List.set_cons_succ, aq_n1, aq_n2, aq_n3, aq_n4, aq_f1, aq_f2, aq_f3, aq_f4, aq_gs, aq_ty1, aq_ty2, aq_ty3, aq_ty4, aq_ty5, Nat.reduceAdd, Nat.reduceLT, Nat.reduceEqDiff, Nat.reduceSub, if_true, if_false, ne_eq, not_false_eq_true, not_true_eq_false, Option.map_some, Option.map_none, Nat.zero_add, reduceCtorEq, Nat.reduceLeDiff, one_ne_zero_a, zero_ne_one_a, aq_nb, aq_nb1, aq_nb0, aq_fb, aq_fb1, aq_fb0, aq_ofN, bB_t, bB_f, bB_v, vpn_b1, vpn_b0, nI_1, Bool.true_eq_false, Bool.false_eq_true, Bool.true_and, Bool.false_and, Bool.and_true, Bool.and_false, O1]
          refine (m_openOnes O G A.2.2.2.1 g2 hc2).use ?_
          rintro _ h2 ⟨rfl, rfl⟩
          have ho := opc_le (w := w) (ht := ht) (wx := wx) (wy := wy) (cb := cb) (ob := z.1) (c := c) 4
          have hi := nI_c1 (k := opc w ht wx wy cb z.1 c 4) (by omega)
          by_cases e : opc w ht wx wy cb z.1 c 4 = 1
          · rw [if_pos e] at hz
            simp only [s_X10_braid_76, s_X10_braid_77, s_X10_braid_80, s_X10_braid_82, aq_gI, aq_gL, aq_gA, aq_isA, aq_s1, aq_s2, aq_kill, aq_ob, aq_sm, aq_arI, aq_arB, aq_isB, aq_arL, aq_arA, aq_arN, aq_sh, Value.category, List.getElem?_cons_zero, List.getElem?_cons_succ, List.length_cons, List.length_nil, Option.toList_some, Option.toList_none, List.cons_append, List.nil_append, true_and, and_true, List.set_cons_zero, List.set_cons_succ, aq_n1, aq_n2, aq_n3, aq_n4, aq_f1, aq_f2, aq_f3, aq_f4, aq_gs, aq_ty1, aq_ty2, aq_ty3, aq_ty4, aq_ty5, Nat.reduceAdd, Nat.reduceLT, Nat.reduceEqDiff, Nat.reduceSub, if_true, if_false, ne_eq, not_false_eq_true, not_true_eq_false, Option.map_some, Option.map_none, Nat.zero_add, reduceCtorEq, Nat.reduceLeDiff, one_ne_zero_a, zero_ne_one_a, aq_nb, aq_nb1, aq_nb0, aq_fb, aq_fb1, aq_fb0, aq_ofN, bB_t, bB_f, bB_v, vpn_b1, vpn_b0, nI_1, Bool.true_eq_false, Bool.false_eq_true, Bool.true_and, Bool.false_and, Bool.and_true, Bool.and_false, hi.mpr e]
            cases hf : fcp w ht wx wy cb z.1 c 4 0 with
            | none =>
              simp only [hf] at hz hx
              subst hx
              have h4 : (4 : Int32) ≤ nI 4 := by decide
              simp only [s_X10_braid_83, s_X10_braid_97, s_X10_braid_100, aq_gI, aq_gL, aq_gA, aq_isA, aq_s1, aq_s2, aq_kill, aq_ob, aq_sm, aq_arI, aq_arB, aq_isB, aq_arL, aq_arA, aq_arN, aq_sh, Value.category, List.getElem?_cons_zero, List.getElem?_cons_succ, List.length_cons, List.length_nil, Option.toList_some, Option.toList_none, List.cons_append, List.nil_append, true_and, and_true, List.set_cons_zero, List.set_cons_succ, aq_n1, aq_n2, aq_n3, aq_n4, aq_f1, aq_f2, aq_f3, aq_f4, aq_gs, aq_ty1, aq_ty2, aq_ty3, aq_ty4, aq_ty5, Nat.reduceAdd, Nat.reduceLT, Nat.reduceEqDiff, Nat.reduceSub, if_true, if_false, ne_eq, not_false_eq_true, not_true_eq_false, Option.map_some, Option.map_none, Nat.zero_add, reduceCtorEq, Nat.reduceLeDiff, one_ne_zero_a, zero_ne_one_a, aq_nb, aq_nb1, aq_nb0, aq_fb, aq_fb1, aq_fb0, aq_ofN, bB_t, bB_f, bB_v, vpn_b1, vpn_b0, nI_1, Bool.true_eq_false, Bool.false_eq_true, Bool.true_and, Bool.false_and, Bool.and_true, Bool.and_false, h4]
              exact ih (c + 1) n (by omega) (by omega) z _ h2 S (MDL_mk O G A g) hz
            | some q =>
              simp only [hf] at hz hx
              subst hx
              obtain ⟨f1, f2, f3⟩ := fcp_ok 4 0 rfl (e := q.1) (m := q.2) hf
              have h4 : ¬ (4 : Int32) ≤ nI q.1 := by rw [nI_4]; exact nI_ge f1 (by omega)
              simp only [s_X10_braid_83, s_X10_braid_86, s_X10_braid_87, s_X10_braid_88, s_X10_braid_90, s_X10_braid_91, aq_gI, aq_gL, aq_gA, aq_isA, aq_s1, aq_s2, aq_kill, aq_ob, aq_sm, aq_arI, aq_arB, aq_isB, aq_arL, aq_arA, aq_arN, aq_sh, Value.category, List.getElem?_cons_zero, List.getElem?_cons_succ, List.length_cons, List.length_nil, Option.toList_some, Option.toList_none, List.cons_append, List.nil_append, true_and, and_true, List.set_cons_zero, List.set_cons_succ, aq_n1, aq_n2, aq_n3, aq_n4, aq_f1, aq_f2, aq_f3, aq_f4, aq_gs, aq_ty1, aq_ty2, aq_ty3, aq_ty4, aq_ty5, Nat.reduceAdd, Nat.reduceLT, Nat.reduceEqDiff, Nat.reduceSub, if_true, if_false, ne_eq, not_false_eq_true, not_true_eq_false, Option.map_some, Option.map_none, Nat.zero_add, reduceCtorEq, Nat.reduceLeDiff, one_ne_zero_a, zero_ne_one_a, aq_nb, aq_nb1, aq_nb0, aq_fb, aq_fb1, aq_fb0, aq_ofN, bB_t, bB_f, bB_v, vpn_b1, vpn_b0, nI_1, Bool.true_eq_false, Bool.false_eq_true, Bool.true_and, Bool.false_and, Bool.and_true, Bool.and_false, h4, O1]
              refine (m_set O G A.2.2.2.1 A.2.2.2.2.1 A.2.2.2.2.2.1 hc2 f1 f2 true).use ?_
              rintro _ h3 ⟨rfl, rfl⟩
              simp only [s_X10_braid_94, s_X10_braid_97, s_X10_braid_100, aq_gI, aq_gL, aq_gA, aq_isA, aq_s1, aq_s2, aq_kill, aq_ob, aq_sm, aq_arI, aq_arB, aq_isB, aq_arL, aq_arA, aq_arN, aq_sh, Value.category, List.getElem?_cons_zero, List.getElem?_cons_succ, List.length_cons, List.length_nil, Option.toList_some, Option.toList_none, List.cons_append, List.nil_append, true_and, and_true, List.set_cons_zero, List.set_cons_succ, aq_n1, aq_n2, aq_n3, aq_n4, aq_f1, aq_f2, aq_f3, aq_f4, aq_gs, aq_ty1, aq_ty2, aq_ty3, aq_ty4, aq_ty5, Nat.reduceAdd, Nat.reduceLT, Nat.reduceEqDiff, Nat.reduceSub, if_true, if_false, ne_eq, not_false_eq_true, not_true_eq_false, Option.map_some, Option.map_none, Nat.zero_add, reduceCtorEq, Nat.reduceLeDiff, one_ne_zero_a, zero_ne_one_a, aq_nb, aq_nb1, aq_nb0, aq_fb, aq_fb1, aq_fb0, aq_ofN, bB_t, bB_f, bB_v, vpn_b1, vpn_b0, nI_1, Bool.true_eq_false, Bool.false_eq_true, Bool.true_and, Bool.false_and, Bool.and_true, Bool.and_false]
              have S2 := (((sm.rf 52 54 h2).st (e := .inl (.boolean, 576, .inl (upd (upd mo (4 * c + q.1) (bB true)) (4 * q.2 + (q.1 + 2) % 4) (bB true)))) (by decide) (show 52 ≤ 54 by decide)).st (e := .inl (.byte, 576, .inl (upd (upd md (4 * c + q.1) (-1)) (4 * q.2 + (q.1 + 2) % 4) (-1)))) (by decide) (show 53 ≤ 54 by decide)).st (e := .inl (.boolean, 576, .inl (upd (upd mw (4 * c + q.1) 1) (4 * q.2 + (q.1 + 2) % 4) 1))) (by decide) (show 54 ≤ 54 by decide)
              refine ih (c + 1) (n + 1) (by omega) (by omega) (fs z.1 (pn c q.1 q.2) true, fs z.2.1 (pn c q.1 q.2) none, fs z.2.2 (pn c q.1 q.2) none) _ _ (S.tr (S2.mo (by decide) (by decide))) (MDL_mk (O.sm S2 (by decide)) (G.sm S2 (by decide)) (mx := mx) (mt := mt) (mp := mp) (mo := upd (upd mo (4 * c + q.1) (bB true)) (4 * q.2 + (q.1 + 2) % 4) (bB true)) (md := upd (upd md (4 * c + q.1) (-1)) (4 * q.2 + (q.1 + 2) % 4) (-1)) (mw := upd (upd mw (4 * c + q.1) 1) (4 * q.2 + (q.1 + 2) % 4) 1) (mk := mk) (mr := mr) (tb := tb) (pc := pc) (fa := fa) (go := go) ?_ (fun _ => ⟨g1, gMm_open G.1 g2 hc2 f1 f2 true, g3, g4, gOn_open g7 _, g8⟩)) hz
              obtain ⟨a1, a2, a3, a4, a5, a6, a7, a8, a9, a10, a11, a12⟩ := A
              refine ⟨?_, ?_, ?_, ?_, ?_, ?_, ?_, ?_, ?_, ?_, ?_, ?_⟩ <;> simp only [aq_gI, aq_gL, aq_gA, aq_isA, aq_s1, aq_s2, aq_kill, aq_ob, aq_sm, aq_arI, aq_arB, aq_isB, aq_arL, aq_arA, aq_arN, aq_sh, Value.category, List.getElem?_cons_zero, List.getElem?_cons_succ, List.length_cons, List.length_nil, Option.toList_some, Option.toList_none, List.cons_append, List.nil_append, true_and, and_true, List.set_cons_zero, List.set_cons_succ, aq_n1, aq_n2, aq_n3, aq_n4, aq_f1, aq_f2, aq_f3, aq_f4, aq_gs, aq_ty1, aq_ty2, aq_ty3, aq_ty4, aq_ty5, Nat.reduceAdd, Nat.reduceLT, Nat.reduceEqDiff, Nat.reduceSub, if_true, if_false, ne_eq, not_false_eq_true, not_true_eq_false, Option.map_some, Option.map_none, Nat.zero_add, reduceCtorEq, Nat.reduceLeDiff, one_ne_zero_a, zero_ne_one_a, a1, a2, a3, a4, a5, a6, a7, a8, a9, a10, a11, a12, bB_t]
          · rw [if_neg e] at hz
            have e' : ¬ nI (opc w ht wx wy cb z.1 c 4) = 1 := fun y => e (hi.mp y)
            simp only [s_X10_braid_76, s_X10_braid_77, s_X10_braid_97, s_X10_braid_100, aq_gI, aq_gL, aq_gA, aq_isA, aq_s1, aq_s2, aq_kill, aq_ob, aq_sm, aq_arI, aq_arB, aq_isB, aq_arL, aq_arA, aq_arN, aq_sh, Value.category, List.getElem?_cons_zero, List.getElem?_cons_succ, List.length_cons, List.length_nil, Option.toList_some, Option.toList_none, List.cons_append, List.nil_append, true_and, and_true, List.set_cons_zero, List.set_cons_succ, aq_n1, aq_n2, aq_n3, aq_n4, aq_f1, aq_f2, aq_f3, aq_f4, aq_gs, aq_ty1, aq_ty2, aq_ty3, aq_ty4, aq_ty5, Nat.reduceAdd, Nat.reduceLT, Nat.reduceEqDiff, Nat.reduceSub, if_true, if_false, ne_eq, not_false_eq_true, not_true_eq_false, Option.map_some, Option.map_none, Nat.zero_add, reduceCtorEq, Nat.reduceLeDiff, one_ne_zero_a, zero_ne_one_a, aq_nb, aq_nb1, aq_nb0, aq_fb, aq_fb1, aq_fb0, aq_ofN, bB_t, bB_f, bB_v, vpn_b1, vpn_b0, nI_1, Bool.true_eq_false, Bool.false_eq_true, Bool.true_and, Bool.false_and, Bool.and_true, Bool.and_false, e']
            exact ih (c + 1) n (by omega) (by omega) z _ h2 S (MDL_mk O G A g) hz
    exact one (w * ht) 0 0 (Nat.zero_add _) (Nat.le_refl 0) _ _ h1 S (MDL_mk O G A g) hR
end MBR
