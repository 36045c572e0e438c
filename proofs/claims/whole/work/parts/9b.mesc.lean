/-! the model's escape and step, as a whole -/
def pMs (h : aq_H) (w ht : Nat) (wx wy : Bool) (cb : Nat → Bool) (hm : Bool) (D : drT) (Z : mzT) (P : plT) (A : Option Nat → Int32) : Option Value → aq_H → Prop := fun r h' => (hm = false → mR h (-1) w ht wx wy cb hm D Z P r h') ∧ (hm = true → ∃ o, ESC (sF w ht wx wy cb Z) (sS Z) (sG Z) o ∧ mR h (A o) w ht wx wy cb hm D Z P r h')
section MES
variable {h h' : aq_H} {w ht e n k c : Nat} {wx wy hm : Bool} {cb : Nat → Bool} {D : drT} {Z : mzT} {P : plT} {wr thr th rt ci st ex pl hd sg : Int32} {mc mx mt mp mo md mw mk mr pc fa go : Nat → Int32} {tb : Nat → Int64} {F : Nat → Option Nat} {gd : Nat → Bool}
theorem mCx_of (O : iMo h w ht wr 0 (bB true) rt ci st ex pl hd sg) (G : gMb h w ht wx wy cb wr mc) (A : iAr h mx mt mp mo md mw mk mr tb pc fa go) (g : gMs w ht wx wy cb D Z P mt mp mo md mw mk rt ci st ex pl hd sg) (he : Z.2.2.2.2.2 = some e) : mCx h w ht wx wy cb Z e := by
  obtain ⟨g1, g2, g3, ⟨g4, g5, g6, g7, g8⟩, g9, g10⟩ := g
  rw [he] at g5
  refine ⟨wr, 0, rt, ci, pl, hd, sg, mc, mo, md, mw, mk, ?_, G, ⟨A.2.2.2.1, A.2.2.2.2.1, A.2.2.2.2.2.1, A.2.2.2.2.2.2.1⟩, g2, g3, g9.1, g10.1.1, (g10.2.1 e he).1, he⟩
  rw [← g4, show nI e = ex from g5.symm]
  exact O
theorem sG_none (he : Z.2.2.2.2.2 = none) : ESC (sF w ht wx wy cb Z) (sS Z) (sG Z) none := fun c s _ hg => by unfold sG at hg; rw [he] at hg; cases hg
theorem m_escape (T : MDL h w ht wx wy cb hm D Z P) : aq_T e_X10_escape 1 0 0 [.ref 47] h (pMs h w ht wx wy cb hm D Z P aEs) := by
  refine ⟨Nat.le_of_ble_eq_true rfl, ?_⟩
  show aq_W _ _ 0 [some (.ref 47)] [] _ _ _
  obtain ⟨wr, thr, rt, ci, st, ex, pl, hd, sg, mc, mx, mt, mp, mo, md, mw, mk, mr, tb, pc, fa, go, O0, G0, A0, g⟩ := T
  have OO := O0
  unfold iMo at OO
  simp only [s_X10_escape_0, s_X10_escape_1, s_X10_escape_2, aq_gI, aq_gL, aq_gA, aq_isA, aq_s1, aq_s2, aq_kill, aq_ob, aq_sm, aq_arI, aq_arB, aq_isB, aq_arL, aq_arA, aq_arN, aq_sh, Value.category, List.getElem?_cons_zero, List.getElem?_cons_succ, List.length_cons, List.length_nil, Option.toList_some, Option.toList_none, List.cons_append, List.nil_append, true_and, and_true, List.set_cons_zero, List.set_cons_succ, aq_n1, aq_n2, aq_n3, aq_n4, aq_f1, aq_f2, aq_f3, aq_f4, aq_gs, aq_ty1, aq_ty2, aq_ty3, aq_ty4, aq_ty5, Nat.reduceAdd, Nat.reduceLT, Nat.reduceEqDiff, Nat.reduceSub, if_true, if_false, ne_eq, not_false_eq_true, not_true_eq_false, Option.map_some, Option.map_none, Nat.zero_add, reduceCtorEq, Nat.reduceLeDiff, one_ne_zero_a, zero_ne_one_a, OO]
  have O := O0.st (bB hm) wr 0 rt ci st ex pl hd sg
  have G := G0.s48 (mOb w ht wr 0 (bB hm) rt ci st ex pl hd sg)
  have A := A0.s48 (mOb w ht wr 0 (bB hm) rt ci st ex pl hd sg)
  have S : sm 47 60 h (h.set 47 (mOb w ht wr 0 (bB hm) rt ci st ex pl hd sg)) := (sm.rf _ _ _).st (by decide) (by decide)
  change aq_W _ _ _ _ _ (h.set 47 (mOb w ht wr 0 (bB hm) rt ci st ex pl hd sg)) _ _
  generalize h.set 47 (mOb w ht wr 0 (bB hm) rt ci st ex pl hd sg) = h1 at O G A S ⊢
  have O1 := O
  unfold iMo at O1
  simp only [s_X10_escape_5, s_X10_escape_6, aq_gI, aq_gL, aq_gA, aq_isA, aq_s1, aq_s2, aq_kill, aq_ob, aq_sm, aq_arI, aq_arB, aq_isB, aq_arL, aq_arA, aq_arN, aq_sh, Value.category, List.getElem?_cons_zero, List.getElem?_cons_succ, List.length_cons, List.length_nil, Option.toList_some, Option.toList_none, List.cons_append, List.nil_append, true_and, and_true, List.set_cons_zero, List.set_cons_succ, aq_n1, aq_n2, aq_n3, aq_n4, aq_f1, aq_f2, aq_f3, aq_f4, aq_gs, aq_ty1, aq_ty2, aq_ty3, aq_ty4, aq_ty5, Nat.reduceAdd, Nat.reduceLT, Nat.reduceEqDiff, Nat.reduceSub, if_true, if_false, ne_eq, not_false_eq_true, not_true_eq_false, Option.map_some, Option.map_none, Nat.zero_add, reduceCtorEq, Nat.reduceLeDiff, one_ne_zero_a, zero_ne_one_a, aq_nb, aq_nb1, aq_nb0, aq_fb, aq_fb1, aq_fb0, aq_ofN, bB_t, bB_f, bB_v, vpn_b1, vpn_b0, nI_1, Bool.true_eq_false, Bool.false_eq_true, Bool.true_and, Bool.false_and, Bool.and_true, Bool.and_false, O1]
  cases hm with
  | false =>
    refine (m_length0 O (Or.inl rfl)).use ?_
    rintro _ h1 ⟨rfl, rfl⟩
    simp only [s_X10_escape_9, aq_gI, aq_gL, aq_gA, aq_isA, aq_s1, aq_s2, aq_kill, aq_ob, aq_sm, aq_arI, aq_arB, aq_isB, aq_arL, aq_arA, aq_arN, aq_sh, Value.category, List.getElem?_cons_zero, List.getElem?_cons_succ, List.length_cons, List.length_nil, Option.toList_some, Option.toList_none, List.cons_append, List.nil_append, true_and, and_true, List.set_cons_zero, List.set_cons_succ, aq_n1, aq_n2, aq_n3, aq_n4, aq_f1, aq_f2, aq_f3, aq_f4, aq_gs, aq_ty1, aq_ty2, aq_ty3, aq_ty4, aq_ty5, Nat.reduceAdd, Nat.reduceLT, Nat.reduceEqDiff, Nat.reduceSub, if_true, if_false, ne_eq, not_false_eq_true, not_true_eq_false, Option.map_some, Option.map_none, Nat.zero_add, reduceCtorEq, Nat.reduceLeDiff, one_ne_zero_a, zero_ne_one_a, aq_nb, aq_nb1, aq_nb0, aq_fb, aq_fb1, aq_fb0, aq_ofN, bB_t, bB_f, bB_v, vpn_b1, vpn_b0, nI_1, Bool.true_eq_false, Bool.false_eq_true, Bool.true_and, Bool.false_and, Bool.and_true, Bool.and_false]
    exact ⟨fun _ => ⟨rfl, S, MDL_mk O G A g⟩, fun z => by cases z⟩
  | true =>
    cases he : Z.2.2.2.2.2 with
    | none =>
      have g5 := (g rfl).2.2.2.1.2.1
      rw [he] at g5
      refine (m_length0 O (Or.inr ⟨one_ne_zero_a.mp, g5⟩)).use ?_
      rintro _ h1 ⟨rfl, rfl⟩
      simp only [s_X10_escape_9, aq_gI, aq_gL, aq_gA, aq_isA, aq_s1, aq_s2, aq_kill, aq_ob, aq_sm, aq_arI, aq_arB, aq_isB, aq_arL, aq_arA, aq_arN, aq_sh, Value.category, List.getElem?_cons_zero, List.getElem?_cons_succ, List.length_cons, List.length_nil, Option.toList_some, Option.toList_none, List.cons_append, List.nil_append, true_and, and_true, List.set_cons_zero, List.set_cons_succ, aq_n1, aq_n2, aq_n3, aq_n4, aq_f1, aq_f2, aq_f3, aq_f4, aq_gs, aq_ty1, aq_ty2, aq_ty3, aq_ty4, aq_ty5, Nat.reduceAdd, Nat.reduceLT, Nat.reduceEqDiff, Nat.reduceSub, if_true, if_false, ne_eq, not_false_eq_true, not_true_eq_false, Option.map_some, Option.map_none, Nat.zero_add, reduceCtorEq, Nat.reduceLeDiff, one_ne_zero_a, zero_ne_one_a, aq_nb, aq_nb1, aq_nb0, aq_fb, aq_fb1, aq_fb0, aq_ofN, bB_t, bB_f, bB_v, vpn_b1, vpn_b0, nI_1, Bool.true_eq_false, Bool.false_eq_true, Bool.true_and, Bool.false_and, Bool.and_true, Bool.and_false]
      exact ⟨(fun z => by cases z), fun _ => ⟨none, sG_none he, rfl, S, MDL_mk O G A g⟩⟩
    | some e =>
      refine (m_length (mCx_of O G A (g rfl) he) A.2.2.2.2.2.2.2.2.2.2.1 A.2.2.2.2.2.2.2.2.2.2.2).use ?_
      rintro _ h2 ⟨S2, o, F, gd, ⟨fa2, go2, f1, f2, -⟩, E, rfl, -⟩
      simp only [s_X10_escape_9, aq_gI, aq_gL, aq_gA, aq_isA, aq_s1, aq_s2, aq_kill, aq_ob, aq_sm, aq_arI, aq_arB, aq_isB, aq_arL, aq_arA, aq_arN, aq_sh, Value.category, List.getElem?_cons_zero, List.getElem?_cons_succ, List.length_cons, List.length_nil, Option.toList_some, Option.toList_none, List.cons_append, List.nil_append, true_and, and_true, List.set_cons_zero, List.set_cons_succ, aq_n1, aq_n2, aq_n3, aq_n4, aq_f1, aq_f2, aq_f3, aq_f4, aq_gs, aq_ty1, aq_ty2, aq_ty3, aq_ty4, aq_ty5, Nat.reduceAdd, Nat.reduceLT, Nat.reduceEqDiff, Nat.reduceSub, if_true, if_false, ne_eq, not_false_eq_true, not_true_eq_false, Option.map_some, Option.map_none, Nat.zero_add, reduceCtorEq, Nat.reduceLeDiff, one_ne_zero_a, zero_ne_one_a, aq_nb, aq_nb1, aq_nb0, aq_fb, aq_fb1, aq_fb0, aq_ofN, bB_t, bB_f, bB_v, vpn_b1, vpn_b0, nI_1, Bool.true_eq_false, Bool.false_eq_true, Bool.true_and, Bool.false_and, Bool.and_true, Bool.and_false]
      exact ⟨(fun z => by cases z), fun _ => ⟨o, E, rfl, S.tr (S2.mo (by decide) (by decide)), MDL_mk (O.sm S2 (by decide)) (G.sm S2 (by decide)) (iAr_fg A S2 f1 f2) g⟩⟩
theorem m_step (T : MDL h w ht wx wy cb hm D Z P) (x : Int32) : aq_T e_X10_step 8 0 0 [.ref 47, .int x] h (pMs h w ht wx wy cb hm D Z P (fun o => aSt o x)) := by
  refine ⟨Nat.le_of_ble_eq_true rfl, ?_⟩
  show aq_W _ _ 0 [some (.ref 47), some (.int x), none, none, none, none, none, none] [] _ _ _
  obtain ⟨wr, thr, rt, ci, st, ex, pl, hd, sg, mc, mx, mt, mp, mo, md, mw, mk, mr, tb, pc, fa, go, O0, G0, A0, g⟩ := T
  have OO := O0
  unfold iMo at OO
  simp only [s_X10_step_0, s_X10_step_1, s_X10_step_2, aq_gI, aq_gL, aq_gA, aq_isA, aq_s1, aq_s2, aq_kill, aq_ob, aq_sm, aq_arI, aq_arB, aq_isB, aq_arL, aq_arA, aq_arN, aq_sh, Value.category, List.getElem?_cons_zero, List.getElem?_cons_succ, List.length_cons, List.length_nil, Option.toList_some, Option.toList_none, List.cons_append, List.nil_append, true_and, and_true, List.set_cons_zero, List.set_cons_succ, aq_n1, aq_n2, aq_n3, aq_n4, aq_f1, aq_f2, aq_f3, aq_f4, aq_gs, aq_ty1, aq_ty2, aq_ty3, aq_ty4, aq_ty5, Nat.reduceAdd, Nat.reduceLT, Nat.reduceEqDiff, Nat.reduceSub, if_true, if_false, ne_eq, not_false_eq_true, not_true_eq_false, Option.map_some, Option.map_none, Nat.zero_add, reduceCtorEq, Nat.reduceLeDiff, one_ne_zero_a, zero_ne_one_a, OO]
  have O := O0.st (bB hm) wr 0 rt ci st ex pl hd sg
  have G := G0.s48 (mOb w ht wr 0 (bB hm) rt ci st ex pl hd sg)
  have A := A0.s48 (mOb w ht wr 0 (bB hm) rt ci st ex pl hd sg)
  have S : sm 47 60 h (h.set 47 (mOb w ht wr 0 (bB hm) rt ci st ex pl hd sg)) := (sm.rf _ _ _).st (by decide) (by decide)
  change aq_W _ _ _ _ _ (h.set 47 (mOb w ht wr 0 (bB hm) rt ci st ex pl hd sg)) _ _
  generalize h.set 47 (mOb w ht wr 0 (bB hm) rt ci st ex pl hd sg) = h1 at O G A S ⊢
  have O1 := O
  unfold iMo at O1
  simp only [s_X10_step_5, s_X10_step_6, aq_gI, aq_gL, aq_gA, aq_isA, aq_s1, aq_s2, aq_kill, aq_ob, aq_sm, aq_arI, aq_arB, aq_isB, aq_arL, aq_arA, aq_arN, aq_sh, Value.category, List.getElem?_cons_zero, List.getElem?_cons_succ, List.length_cons, List.length_nil, Option.toList_some, Option.toList_none, List.cons_append, List.nil_append, true_and, and_true, List.set_cons_zero, List.set_cons_succ, aq_n1, aq_n2, aq_n3, aq_n4, aq_f1, aq_f2, aq_f3, aq_f4, aq_gs, aq_ty1, aq_ty2, aq_ty3, aq_ty4, aq_ty5, Nat.reduceAdd, Nat.reduceLT, Nat.reduceEqDiff, Nat.reduceSub, if_true, if_false, ne_eq, not_false_eq_true, not_true_eq_false, Option.map_some, Option.map_none, Nat.zero_add, reduceCtorEq, Nat.reduceLeDiff, one_ne_zero_a, zero_ne_one_a, aq_nb, aq_nb1, aq_nb0, aq_fb, aq_fb1, aq_fb0, aq_ofN, bB_t, bB_f, bB_v, vpn_b1, vpn_b0, nI_1, Bool.true_eq_false, Bool.false_eq_true, Bool.true_and, Bool.false_and, Bool.and_true, Bool.and_false, O1]
  have m1 : ∀ (h2 : aq_H) (Q : Option Value → aq_H → Prop), Q (some (.int (-1))) h2 → aq_W e_X10_step Q 9 [some (.ref 47), some (.int x), none, none, none, none, none, none] [.int (-1)] h2 0 0 := by
    intro h2 Q hQ
    by_cases hx : x < 0
    · simp only [s_X10_step_9, s_X10_step_10, s_X10_step_11, s_X10_step_19, s_X10_step_20, aq_gI, aq_gL, aq_gA, aq_isA, aq_s1, aq_s2, aq_kill, aq_ob, aq_sm, aq_arI, aq_arB, aq_isB, aq_arL, aq_arA, aq_arN, aq_sh, Value.category, List.getElem?_cons_zero, List.getElem?_cons_succ, List.length_cons, List.length_nil, Option.toList_some, Option.toList_none, List.cons_append, List.nil_append, true_and, and_true, List.set_cons_zero, List.set_cons_succ, aq_n1, aq_n2, aq_n3, aq_n4, aq_f1, aq_f2, aq_f3, aq_f4, aq_gs, aq_ty1, aq_ty2, aq_ty3, aq_ty4, aq_ty5, Nat.reduceAdd, Nat.reduceLT, Nat.reduceEqDiff, Nat.reduceSub, if_true, if_false, ne_eq, not_false_eq_true, not_true_eq_false, Option.map_some, Option.map_none, Nat.zero_add, reduceCtorEq, Nat.reduceLeDiff, one_ne_zero_a, zero_ne_one_a, aq_nb, aq_nb1, aq_nb0, aq_fb, aq_fb1, aq_fb0, aq_ofN, bB_t, bB_f, bB_v, vpn_b1, vpn_b0, nI_1, Bool.true_eq_false, Bool.false_eq_true, Bool.true_and, Bool.false_and, Bool.and_true, Bool.and_false, hx]
      exact hQ
    · have hle : ¬ x < (-1 : Int32) := by
        have := nlt0 hx
        rw [Int32.le_iff_toInt_le] at this
        rw [Int32.lt_iff_toInt_lt]
        have e0 : (0 : Int32).toInt = 0 := by decide
        have e1 : (-1 : Int32).toInt = -1 := by decide
        omega
      simp only [s_X10_step_9, s_X10_step_10, s_X10_step_11, s_X10_step_14, s_X10_step_15, s_X10_step_16, s_X10_step_19, s_X10_step_20, aq_gI, aq_gL, aq_gA, aq_isA, aq_s1, aq_s2, aq_kill, aq_ob, aq_sm, aq_arI, aq_arB, aq_isB, aq_arL, aq_arA, aq_arN, aq_sh, Value.category, List.getElem?_cons_zero, List.getElem?_cons_succ, List.length_cons, List.length_nil, Option.toList_some, Option.toList_none, List.cons_append, List.nil_append, true_and, and_true, List.set_cons_zero, List.set_cons_succ, aq_n1, aq_n2, aq_n3, aq_n4, aq_f1, aq_f2, aq_f3, aq_f4, aq_gs, aq_ty1, aq_ty2, aq_ty3, aq_ty4, aq_ty5, Nat.reduceAdd, Nat.reduceLT, Nat.reduceEqDiff, Nat.reduceSub, if_true, if_false, ne_eq, not_false_eq_true, not_true_eq_false, Option.map_some, Option.map_none, Nat.zero_add, reduceCtorEq, Nat.reduceLeDiff, one_ne_zero_a, zero_ne_one_a, aq_nb, aq_nb1, aq_nb0, aq_fb, aq_fb1, aq_fb0, aq_ofN, bB_t, bB_f, bB_v, vpn_b1, vpn_b0, nI_1, Bool.true_eq_false, Bool.false_eq_true, Bool.true_and, Bool.false_and, Bool.and_true, Bool.and_false, hx, hle]
      exact hQ
  cases hm with
  | false =>
    refine (m_length0 O (Or.inl rfl)).use ?_
    rintro _ h1 ⟨rfl, rfl⟩
    exact m1 h1 _ ⟨fun _ => ⟨rfl, S, MDL_mk O G A g⟩, fun z => by cases z⟩
  | true =>
    cases he : Z.2.2.2.2.2 with
    | none =>
      have g5 := (g rfl).2.2.2.1.2.1
      rw [he] at g5
      refine (m_length0 O (Or.inr ⟨one_ne_zero_a.mp, g5⟩)).use ?_
      rintro _ h1 ⟨rfl, rfl⟩
      exact m1 h1 _ ⟨(fun z => by cases z), fun _ => ⟨none, sG_none he, rfl, S, MDL_mk O G A g⟩⟩
    | some e =>
      have C := mCx_of O G A (g rfl) he
      have hn := C.n144
      refine (m_length C A.2.2.2.2.2.2.2.2.2.2.1 A.2.2.2.2.2.2.2.2.2.2.2).use ?_
      rintro _ h2 ⟨S2, o, F, gd, hFG, E, rfl, hc⟩
      have hFG0 := hFG
      obtain ⟨fa2, go2, f1, f2, -⟩ := hFG0
      have M2 : MDL h2 w ht wx wy cb true D Z P := MDL_mk (O.sm S2 (by decide)) (G.sm S2 (by decide)) (iAr_fg A S2 f1 f2) g
      have S2' := S.tr (S2.mo (by decide) (by decide))
      cases o with
      | none => exact m1 h2 _ ⟨(fun z => by cases z), fun _ => ⟨none, E, rfl, S2', M2⟩⟩
      | some c =>
        obtain ⟨L, hcl, hgd⟩ := hc c rfl
        have C2 := C.sm S2
        show aq_W _ _ 9 _ (Value.int (nI (cl c)) :: []) _ _ _
        rcases inC_cs (cl c) x (by omega) with hk | ⟨ii, hii, rfl⟩
        · have hans : aSt (some c) x = -1 := by unfold aSt; simp only [hk, Bool.false_eq_true, if_false]
          have fin : pMs h w ht wx wy cb true D Z P (fun o => aSt o x) (some (.int (-1))) h2 := ⟨(fun z => by cases z), fun _ => ⟨some c, E, congrArg (fun y => some (Value.int y)) hans.symm, S2', M2⟩⟩
          rcases inC_out hk with z | ⟨z1, z2⟩
          · simp only [s_X10_step_9, s_X10_step_10, s_X10_step_11, s_X10_step_19, s_X10_step_20, aq_gI, aq_gL, aq_gA, aq_isA, aq_s1, aq_s2, aq_kill, aq_ob, aq_sm, aq_arI, aq_arB, aq_isB, aq_arL, aq_arA, aq_arN, aq_sh, Value.category, List.getElem?_cons_zero, List.getElem?_cons_succ, List.length_cons, List.length_nil, Option.toList_some, Option.toList_none, List.cons_append, List.nil_append, true_and, and_true, List.set_cons_zero, List.set_cons_succ, aq_n1, aq_n2, aq_n3, aq_n4, aq_f1, aq_f2, aq_f3, aq_f4, aq_gs, aq_ty1, aq_ty2, aq_ty3, aq_ty4, aq_ty5, Nat.reduceAdd, Nat.reduceLT, Nat.reduceEqDiff, Nat.reduceSub, if_true, if_false, ne_eq, not_false_eq_true, not_true_eq_false, Option.map_some, Option.map_none, Nat.zero_add, reduceCtorEq, Nat.reduceLeDiff, one_ne_zero_a, zero_ne_one_a, aq_nb, aq_nb1, aq_nb0, aq_fb, aq_fb1, aq_fb0, aq_ofN, bB_t, bB_f, bB_v, vpn_b1, vpn_b0, nI_1, Bool.true_eq_false, Bool.false_eq_true, Bool.true_and, Bool.false_and, Bool.and_true, Bool.and_false, z]
            exact fin
          · simp only [s_X10_step_9, s_X10_step_10, s_X10_step_11, s_X10_step_14, s_X10_step_15, s_X10_step_16, s_X10_step_19, s_X10_step_20, aq_gI, aq_gL, aq_gA, aq_isA, aq_s1, aq_s2, aq_kill, aq_ob, aq_sm, aq_arI, aq_arB, aq_isB, aq_arL, aq_arA, aq_arN, aq_sh, Value.category, List.getElem?_cons_zero, List.getElem?_cons_succ, List.length_cons, List.length_nil, Option.toList_some, Option.toList_none, List.cons_append, List.nil_append, true_and, and_true, List.set_cons_zero, List.set_cons_succ, aq_n1, aq_n2, aq_n3, aq_n4, aq_f1, aq_f2, aq_f3, aq_f4, aq_gs, aq_ty1, aq_ty2, aq_ty3, aq_ty4, aq_ty5, Nat.reduceAdd, Nat.reduceLT, Nat.reduceEqDiff, Nat.reduceSub, if_true, if_false, ne_eq, not_false_eq_true, not_true_eq_false, Option.map_some, Option.map_none, Nat.zero_add, reduceCtorEq, Nat.reduceLeDiff, one_ne_zero_a, zero_ne_one_a, aq_nb, aq_nb1, aq_nb0, aq_fb, aq_fb1, aq_fb0, aq_ofN, bB_t, bB_f, bB_v, vpn_b1, vpn_b0, nI_1, Bool.true_eq_false, Bool.false_eq_true, Bool.true_and, Bool.false_and, Bool.and_true, Bool.and_false, z1, Int32.not_lt.mpr z2]
            exact fin
        · have hans : aSt (some c) (nI ii) = nI (dig c ii) := by unfold aSt; simp only [inC_nI hii (show cl c < 2 ^ 31 by omega), if_true, nI_clamp (show ii < 2 ^ 31 by omega)]
          simp only [s_X10_step_9, s_X10_step_10, s_X10_step_11, s_X10_step_14, s_X10_step_15, s_X10_step_16, s_X10_step_21, s_X10_step_22, s_X10_step_23, s_X10_step_24, aq_gI, aq_gL, aq_gA, aq_isA, aq_s1, aq_s2, aq_kill, aq_ob, aq_sm, aq_arI, aq_arB, aq_isB, aq_arL, aq_arA, aq_arN, aq_sh, Value.category, List.getElem?_cons_zero, List.getElem?_cons_succ, List.length_cons, List.length_nil, Option.toList_some, Option.toList_none, List.cons_append, List.nil_append, true_and, and_true, List.set_cons_zero, List.set_cons_succ, aq_n1, aq_n2, aq_n3, aq_n4, aq_f1, aq_f2, aq_f3, aq_f4, aq_gs, aq_ty1, aq_ty2, aq_ty3, aq_ty4, aq_ty5, Nat.reduceAdd, Nat.reduceLT, Nat.reduceEqDiff, Nat.reduceSub, if_true, if_false, ne_eq, not_false_eq_true, not_true_eq_false, Option.map_some, Option.map_none, Nat.zero_add, reduceCtorEq, Nat.reduceLeDiff, one_ne_zero_a, zero_ne_one_a, aq_nb, aq_nb1, aq_nb0, aq_fb, aq_fb1, aq_fb0, aq_ofN, bB_t, bB_f, bB_v, vpn_b1, vpn_b0, nI_1, Bool.true_eq_false, Bool.false_eq_true, Bool.true_and, Bool.false_and, Bool.and_true, Bool.and_false, nI_pos (show ii < 2 ^ 31 by omega), nI_lt hii (show cl c < 2 ^ 31 by omega)]
          refine sp_a C2 E L hcl ?_ (cl c) (Nat.le_refl _) h2 gd none none none none (sm.rf _ _ _) hFG (fun s => ?_)
          · intro h3 gd3 L3 L4 L5 L6 L7 S3 hFG3 V3
            have C3 := C2.sm (S3.mo (by decide) (by decide))
            obtain ⟨wr3, thr3, rt3, ci3, pl3, hd3, sg3, O3⟩ := C3.ob
            unfold mOb at O3
            simp only [s_X10_step_177, s_X10_step_178, s_X10_step_179, s_X10_step_182, s_X10_step_183, aq_gI, aq_gL, aq_gA, aq_isA, aq_s1, aq_s2, aq_kill, aq_ob, aq_sm, aq_arI, aq_arB, aq_isB, aq_arL, aq_arA, aq_arN, aq_sh, Value.category, List.getElem?_cons_zero, List.getElem?_cons_succ, List.length_cons, List.length_nil, Option.toList_some, Option.toList_none, List.cons_append, List.nil_append, true_and, and_true, List.set_cons_zero, List.set_cons_succ, aq_n1, aq_n2, aq_n3, aq_n4, aq_f1, aq_f2, aq_f3, aq_f4, aq_gs, aq_ty1, aq_ty2, aq_ty3, aq_ty4, aq_ty5, Nat.reduceAdd, Nat.reduceLT, Nat.reduceEqDiff, Nat.reduceSub, if_true, if_false, ne_eq, not_false_eq_true, not_true_eq_false, Option.map_some, Option.map_none, Nat.zero_add, reduceCtorEq, Nat.reduceLeDiff, one_ne_zero_a, zero_ne_one_a, aq_nb, aq_nb1, aq_nb0, aq_fb, aq_fb1, aq_fb0, aq_ofN, bB_t, bB_f, bB_v, vpn_b1, vpn_b0, nI_1, Bool.true_eq_false, Bool.false_eq_true, Bool.true_and, Bool.false_and, Bool.and_true, Bool.and_false, O3]
            rw [← nI_0]
            refine (cx_state C3 Z.2.2.2.2.1 (show 0 < 16 by decide)).use ?_
            rintro _ h3 ⟨rfl, rfl⟩
            have hs0 : 16 * Z.2.2.2.2.1 + (0 ||| kmm Z.2.2.2.1 Z.2.2.2.2.1) = sS Z := by rw [Nat.zero_or]; rfl
            rw [hs0]
            simp only [s_X10_step_186, s_X10_step_187, s_X10_step_188, s_X10_step_190, s_X10_step_191, aq_gI, aq_gL, aq_gA, aq_isA, aq_s1, aq_s2, aq_kill, aq_ob, aq_sm, aq_arI, aq_arB, aq_isB, aq_arL, aq_arA, aq_arN, aq_sh, Value.category, List.getElem?_cons_zero, List.getElem?_cons_succ, List.length_cons, List.length_nil, Option.toList_some, Option.toList_none, List.cons_append, List.nil_append, true_and, and_true, List.set_cons_zero, List.set_cons_succ, aq_n1, aq_n2, aq_n3, aq_n4, aq_f1, aq_f2, aq_f3, aq_f4, aq_gs, aq_ty1, aq_ty2, aq_ty3, aq_ty4, aq_ty5, Nat.reduceAdd, Nat.reduceLT, Nat.reduceEqDiff, Nat.reduceSub, if_true, if_false, ne_eq, not_false_eq_true, not_true_eq_false, Option.map_some, Option.map_none, Nat.zero_add, reduceCtorEq, Nat.reduceLeDiff, one_ne_zero_a, zero_ne_one_a, aq_nb, aq_nb1, aq_nb0, aq_fb, aq_fb1, aq_fb0, aq_ofN, bB_t, bB_f, bB_v, vpn_b1, vpn_b0, nI_1, Bool.true_eq_false, Bool.false_eq_true, Bool.true_and, Bool.false_and, Bool.and_true, Bool.and_false]
            rw [← nI_0]
            have hFG4 := hFG3
            obtain ⟨fa3, go3, y1, y2, -⟩ := hFG4
            refine sp_f C3 E L hcl hii hFG3 V3 ⟨(fun z => by cases z), fun _ => ⟨some c, E, congrArg (fun y => some (Value.int y)) hans.symm, (S2'.tr (S3.mo (by decide) (by decide))), MDL_mk ((O.sm S2 (by decide)).sm S3 (by decide)) ((G.sm S2 (by decide)).sm S3 (by decide)) (iAr_fg (iAr_fg A S2 f1 f2) (S3.mo (by decide) (by decide)) y1 y2) g⟩⟩ (ii + 1) 0 (by omega) (sS Z) (-1) _ _ (by rw [pr_0, wC_0]) (fun z => by omega)
          · rw [hgd s]
            constructor
            · rintro ⟨x1, x2⟩
              refine ⟨cl c, x2, Nat.le_refl _, ?_⟩
              rw [Nat.sub_self]
              show sG Z s
              unfold sG
              rw [he, x1]
            · rintro ⟨a, x1, x2, x3⟩
              have := (L.1 s a x1).2.1
              have ea : a = cl c := by omega
              rw [ea, Nat.sub_self] at x3
              have x4 : sG Z s := x3
              unfold sG at x4
              rw [he] at x4
              injection x4 with x4
              exact ⟨x4.symm, by rw [x1, ea]⟩
end MES
