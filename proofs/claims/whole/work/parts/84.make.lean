-- dep 62.base2 63.ops 65.num2 66.flood 67.kp 68.place 80.cyc 81.lay 82.pop 83.join
/-! make of the desk -/
/-- which passages are free in the tree, cells below a number looked at -/
def obf (w ht : Nat) (wx wy : Bool) (cb : Nat → Bool) (seed : Int32) (root : Nat) (p : Nat → Nat) : Nat → Nat → Bool
  | 0 => fun _ => false
  | c + 1 => if cb c = false ∧ c ≠ root then fs (obf w ht wx wy cb seed root p c) (pn c (Tp w ht wx wy cb seed c (p c)) (Fn w ht wx wy cb seed c (p c))) true else obf w ht wx wy cb seed root p c
/-- every free cell can be come to -/
def AR (w ht : Nat) (wx wy : Bool) (cb : Nat → Bool) (root : Nat) : Prop := ∀ c, c < w * ht → cb c = false → Rc (fun c d => nx w ht wx wy cb c d) root c
/-- circles were popped until a tree was left -/
def gEn (w ht : Nat) (wx wy : Bool) (cb : Nat → Bool) (seed : Int32) (root : Nat) (p : Nat → Nat) (k : Nat) : Prop := gPp w ht wx wy cb seed root p k ∧ ∀ c, SS w ht cb root c → Tr (SS w ht cb root) (Fn w ht wx wy cb seed) root p c
def nD (w ht : Nat) (wx wy : Bool) (cb : Nat → Bool) (seed : Int32) (root : Nat) (p : Nat → Nat) (k : Nat) : drT := (fun c => if c = root then none else some (Tp w ht wx wy cb seed c (p c)), p, k, root)
def nZ (w ht : Nat) (wx wy : Bool) (cb : Nat → Bool) (seed : Int32) (root : Nat) (p : Nat → Nat) : mzT := (obf w ht wx wy cb seed root p (w * ht), fun _ => none, fun _ => none, fun _ => none, root, none)
section MAK
variable {V : mzT → Int32 → (Nat → Int32) → (Nat → Int32) → Int32 → Prop} {h h' : aq_H} {w ht n root ch : Nat} {wx wy hm : Bool} {cb : Nat → Bool} {seed : Int32} {cut bes lead pas : Nat → Int32} {fr ci : Int32} {ways wc xs tops pops marks : Nat → Int32} {p mkf b a : Nat → Nat} {k : Nat} {op dk od kc : Nat → Int32} {st ex : Int32} {D : drT} {Z : mzT} {P : plT}
theorem t_settle (T : iSt h (w * ht) ways wc xs tops pops marks ci) (B : iBd h w ht cut bes lead pas fr) (G : gBd w ht wx wy cb cut bes lead pas fr) (hr : root < w * ht) (hcn : ∀ c, SS w ht cb root c → 0 < (wyl w ht wx wy cb c).length) (seed : Int32) :
    aq_T e_X6_settle 4 0 0 [.ref 6, .int seed, .int (nI root)] h (fun r h' => sm 6 12 h h' ∧ ∃ ways wc xs tops pops marks ci, iSt h' (w * ht) ways wc xs tops pops marks ci ∧ ((r = some (.int 1) ∧ ∃ p mkf k, ci = nI k ∧ gSk w ht wx wy cb seed root p mkf ways wc xs tops pops marks ∧ gEn w ht wx wy cb seed root p k) ∨ (r = some (.int 0) ∧ gOv w ht wx wy cb seed root))) := by
  have hn := wh_lt G.1
  have m1 := T.1
  refine ⟨Nat.le_of_ble_eq_true rfl, ?_⟩
  show aq_W _ _ 0 [some (.ref 6), some (.int seed), some (.int (nI root)), none] [] _ _ _
  simp only [s_X6_settle_0, s_X6_settle_1, s_X6_settle_2, s_X6_settle_3, s_X6_settle_6, s_X6_settle_7, s_X6_settle_9, s_X6_settle_10, s_X6_settle_13, s_X6_settle_16, s_X6_settle_19, s_X6_settle_20, s_X6_settle_23, s_X6_settle_24, s_X6_settle_27, s_X6_settle_30, s_X6_settle_31, s_X6_settle_32, s_X6_settle_35, s_X6_settle_38, s_X6_settle_39, s_X6_settle_40, s_X6_settle_43, s_X6_settle_46, s_X6_settle_47, aq_gI, aq_gL, aq_gA, aq_isA, aq_s1, aq_s2, aq_kill, aq_ob, aq_sm, aq_arI, aq_arB, aq_isB, aq_arL, aq_arA, aq_arN, aq_sh, Value.category, List.getElem?_cons_zero, List.getElem?_cons_succ, List.length_cons, List.length_nil, Option.toList_some, Option.toList_none, List.cons_append, List.nil_append, true_and, and_true, List.set_cons_zero, List.set_cons_succ, aq_n1, aq_n2, aq_n3, aq_n4, aq_f1, aq_f2, aq_f3, aq_f4, aq_gs, aq_ty1, aq_ty2, aq_ty3, aq_ty4, aq_ty5, Nat.reduceAdd, Nat.reduceLT, Nat.reduceEqDiff, Nat.reduceSub, if_true, if_false, ne_eq, not_false_eq_true, not_true_eq_false, Option.map_some, Option.map_none, Nat.zero_add, reduceCtorEq, Nat.reduceLeDiff, one_ne_zero_a, zero_ne_one_a, aq_nb, aq_nb1, aq_nb0, aq_fb, aq_fb1, aq_fb0, aq_ofN, bB_t, bB_f, bB_v, vpn_b1, vpn_b0, nI_1, Bool.true_eq_false, Bool.false_eq_true, Bool.true_and, Bool.false_and, Bool.and_true, Bool.and_false, m1]
  refine (t_layS T B G hr hcn seed).use ?_
  rintro _ h1 ⟨rfl, ways1, wc1, xs1, tops1, pops1, marks1, T1, S1, g1⟩
  simp only [s_X6_settle_0, s_X6_settle_1, s_X6_settle_2, s_X6_settle_3, s_X6_settle_6, s_X6_settle_7, s_X6_settle_9, s_X6_settle_10, s_X6_settle_13, s_X6_settle_16, s_X6_settle_19, s_X6_settle_20, s_X6_settle_23, s_X6_settle_24, s_X6_settle_27, s_X6_settle_30, s_X6_settle_31, s_X6_settle_32, s_X6_settle_35, s_X6_settle_38, s_X6_settle_39, s_X6_settle_40, s_X6_settle_43, s_X6_settle_46, s_X6_settle_47, aq_gI, aq_gL, aq_gA, aq_isA, aq_s1, aq_s2, aq_kill, aq_ob, aq_sm, aq_arI, aq_arB, aq_isB, aq_arL, aq_arA, aq_arN, aq_sh, Value.category, List.getElem?_cons_zero, List.getElem?_cons_succ, List.length_cons, List.length_nil, Option.toList_some, Option.toList_none, List.cons_append, List.nil_append, true_and, and_true, List.set_cons_zero, List.set_cons_succ, aq_n1, aq_n2, aq_n3, aq_n4, aq_f1, aq_f2, aq_f3, aq_f4, aq_gs, aq_ty1, aq_ty2, aq_ty3, aq_ty4, aq_ty5, Nat.reduceAdd, Nat.reduceLT, Nat.reduceEqDiff, Nat.reduceSub, if_true, if_false, ne_eq, not_false_eq_true, not_true_eq_false, Option.map_some, Option.map_none, Nat.zero_add, reduceCtorEq, Nat.reduceLeDiff, one_ne_zero_a, zero_ne_one_a, aq_nb, aq_nb1, aq_nb0, aq_fb, aq_fb1, aq_fb0, aq_ofN, bB_t, bB_f, bB_v, vpn_b1, vpn_b0, nI_1, Bool.true_eq_false, Bool.false_eq_true, Bool.true_and, Bool.false_and, Bool.and_true, Bool.and_false]
  have one : ∀ (j c : Nat), c + j = w * ht → ∀ (ways wc xs tops pops marks : Nat → Int32) (h2 : aq_H) (p mkf : Nat → Nat) (k : Nat), iSt h2 (w * ht) ways wc xs tops pops marks (nI k) → sm 6 12 h h2 → gSk w ht wx wy cb seed root p mkf ways wc xs tops pops marks → gTr w ht wx wy cb seed root p mkf → gPp w ht wx wy cb seed root p k → (∀ c, c < w * ht → mkf c = 0 ∨ mkf c = 2) → (∀ c', c' < c → cb c' = false → mkf c' = 2) → aq_W e_X6_settle (fun r h' => sm 6 12 h h' ∧ ∃ ways wc xs tops pops marks ci, iSt h' (w * ht) ways wc xs tops pops marks ci ∧ ((r = some (.int 1) ∧ ∃ p mkf k, ci = nI k ∧ gSk w ht wx wy cb seed root p mkf ways wc xs tops pops marks ∧ gEn w ht wx wy cb seed root p k) ∨ (r = some (.int 0) ∧ gOv w ht wx wy cb seed root))) 8 [some (.ref 6), some (.int seed), some (.int (nI root)), some (.int (nI c))] [] h2 0 0 := by
    intro j
    induction j with
    | zero =>
      intro c hc ways wc xs tops pops marks h2 p mkf k T2 S2 g2 q1 q2 q3 q4
      have e : c = w * ht := by omega
      subst e
      have B2 : iBd h2 w ht cut bes lead pas fr := B.sm S2 (by omega)
      rw [s_X6_settle_8]
      simp only [s_X6_settle_0, s_X6_settle_1, s_X6_settle_2, s_X6_settle_3, s_X6_settle_6, s_X6_settle_7, s_X6_settle_9, s_X6_settle_10, s_X6_settle_13, s_X6_settle_16, s_X6_settle_19, s_X6_settle_20, s_X6_settle_23, s_X6_settle_24, s_X6_settle_27, s_X6_settle_30, s_X6_settle_31, s_X6_settle_32, s_X6_settle_35, s_X6_settle_38, s_X6_settle_39, s_X6_settle_40, s_X6_settle_43, s_X6_settle_46, s_X6_settle_47, aq_gI, aq_gL, aq_gA, aq_isA, aq_s1, aq_s2, aq_kill, aq_ob, aq_sm, aq_arI, aq_arB, aq_isB, aq_arL, aq_arA, aq_arN, aq_sh, Value.category, List.getElem?_cons_zero, List.getElem?_cons_succ, List.length_cons, List.length_nil, Option.toList_some, Option.toList_none, List.cons_append, List.nil_append, true_and, and_true, List.set_cons_zero, List.set_cons_succ, aq_n1, aq_n2, aq_n3, aq_n4, aq_f1, aq_f2, aq_f3, aq_f4, aq_gs, aq_ty1, aq_ty2, aq_ty3, aq_ty4, aq_ty5, Nat.reduceAdd, Nat.reduceLT, Nat.reduceEqDiff, Nat.reduceSub, if_true, if_false, ne_eq, not_false_eq_true, not_true_eq_false, Option.map_some, Option.map_none, Nat.zero_add, reduceCtorEq, Nat.reduceLeDiff, one_ne_zero_a, zero_ne_one_a, aq_nb, aq_nb1, aq_nb0, aq_fb, aq_fb1, aq_fb0, aq_ofN, bB_t, bB_f, bB_v, vpn_b1, vpn_b0, nI_1, Bool.true_eq_false, Bool.false_eq_true, Bool.true_and, Bool.false_and, Bool.and_true, Bool.and_false, T2.1, B2.1]
      refine (t_cells B2).use ?_
      rintro _ h2 ⟨rfl, rfl⟩
      simp only [s_X6_settle_0, s_X6_settle_1, s_X6_settle_2, s_X6_settle_3, s_X6_settle_6, s_X6_settle_7, s_X6_settle_9, s_X6_settle_10, s_X6_settle_13, s_X6_settle_16, s_X6_settle_19, s_X6_settle_20, s_X6_settle_23, s_X6_settle_24, s_X6_settle_27, s_X6_settle_30, s_X6_settle_31, s_X6_settle_32, s_X6_settle_35, s_X6_settle_38, s_X6_settle_39, s_X6_settle_40, s_X6_settle_43, s_X6_settle_46, s_X6_settle_47, aq_gI, aq_gL, aq_gA, aq_isA, aq_s1, aq_s2, aq_kill, aq_ob, aq_sm, aq_arI, aq_arB, aq_isB, aq_arL, aq_arA, aq_arN, aq_sh, Value.category, List.getElem?_cons_zero, List.getElem?_cons_succ, List.length_cons, List.length_nil, Option.toList_some, Option.toList_none, List.cons_append, List.nil_append, true_and, and_true, List.set_cons_zero, List.set_cons_succ, aq_n1, aq_n2, aq_n3, aq_n4, aq_f1, aq_f2, aq_f3, aq_f4, aq_gs, aq_ty1, aq_ty2, aq_ty3, aq_ty4, aq_ty5, Nat.reduceAdd, Nat.reduceLT, Nat.reduceEqDiff, Nat.reduceSub, if_true, if_false, ne_eq, not_false_eq_true, not_true_eq_false, Option.map_some, Option.map_none, Nat.zero_add, reduceCtorEq, Nat.reduceLeDiff, one_ne_zero_a, zero_ne_one_a, aq_nb, aq_nb1, aq_nb0, aq_fb, aq_fb1, aq_fb0, aq_ofN, bB_t, bB_f, bB_v, vpn_b1, vpn_b0, nI_1, Bool.true_eq_false, Bool.false_eq_true, Bool.true_and, Bool.false_and, Bool.and_true, Bool.and_false, nI_le (Nat.le_refl (w * ht)) (show w * ht < 2 ^ 31 by omega)]
      exact ⟨S2, _, _, _, _, _, _, _, T2, Or.inl ⟨p, mkf, k, rfl, g2, q2, fun c hc => q1.2.2 c hc.1 (q4 c hc.1 hc.2.1)⟩⟩
    | succ j ih =>
      intro c hc ways wc xs tops pops marks h2 p mkf k T2 S2 g2 q1 q2 q3 q4
      have hc2 : c < w * ht := by omega
      have B2 : iBd h2 w ht cut bes lead pas fr := B.sm S2 (by omega)
      rw [s_X6_settle_8]
      simp only [s_X6_settle_0, s_X6_settle_1, s_X6_settle_2, s_X6_settle_3, s_X6_settle_6, s_X6_settle_7, s_X6_settle_9, s_X6_settle_10, s_X6_settle_13, s_X6_settle_16, s_X6_settle_19, s_X6_settle_20, s_X6_settle_23, s_X6_settle_24, s_X6_settle_27, s_X6_settle_30, s_X6_settle_31, s_X6_settle_32, s_X6_settle_35, s_X6_settle_38, s_X6_settle_39, s_X6_settle_40, s_X6_settle_43, s_X6_settle_46, s_X6_settle_47, aq_gI, aq_gL, aq_gA, aq_isA, aq_s1, aq_s2, aq_kill, aq_ob, aq_sm, aq_arI, aq_arB, aq_isB, aq_arL, aq_arA, aq_arN, aq_sh, Value.category, List.getElem?_cons_zero, List.getElem?_cons_succ, List.length_cons, List.length_nil, Option.toList_some, Option.toList_none, List.cons_append, List.nil_append, true_and, and_true, List.set_cons_zero, List.set_cons_succ, aq_n1, aq_n2, aq_n3, aq_n4, aq_f1, aq_f2, aq_f3, aq_f4, aq_gs, aq_ty1, aq_ty2, aq_ty3, aq_ty4, aq_ty5, Nat.reduceAdd, Nat.reduceLT, Nat.reduceEqDiff, Nat.reduceSub, if_true, if_false, ne_eq, not_false_eq_true, not_true_eq_false, Option.map_some, Option.map_none, Nat.zero_add, reduceCtorEq, Nat.reduceLeDiff, one_ne_zero_a, zero_ne_one_a, aq_nb, aq_nb1, aq_nb0, aq_fb, aq_fb1, aq_fb0, aq_ofN, bB_t, bB_f, bB_v, vpn_b1, vpn_b0, nI_1, Bool.true_eq_false, Bool.false_eq_true, Bool.true_and, Bool.false_and, Bool.and_true, Bool.and_false, T2.1, B2.1]
      refine (t_cells B2).use ?_
      rintro _ h2 ⟨rfl, rfl⟩
      simp only [s_X6_settle_0, s_X6_settle_1, s_X6_settle_2, s_X6_settle_3, s_X6_settle_6, s_X6_settle_7, s_X6_settle_9, s_X6_settle_10, s_X6_settle_13, s_X6_settle_16, s_X6_settle_19, s_X6_settle_20, s_X6_settle_23, s_X6_settle_24, s_X6_settle_27, s_X6_settle_30, s_X6_settle_31, s_X6_settle_32, s_X6_settle_35, s_X6_settle_38, s_X6_settle_39, s_X6_settle_40, s_X6_settle_43, s_X6_settle_46, s_X6_settle_47, aq_gI, aq_gL, aq_gA, aq_isA, aq_s1, aq_s2, aq_kill, aq_ob, aq_sm, aq_arI, aq_arB, aq_isB, aq_arL, aq_arA, aq_arN, aq_sh, Value.category, List.getElem?_cons_zero, List.getElem?_cons_succ, List.length_cons, List.length_nil, Option.toList_some, Option.toList_none, List.cons_append, List.nil_append, true_and, and_true, List.set_cons_zero, List.set_cons_succ, aq_n1, aq_n2, aq_n3, aq_n4, aq_f1, aq_f2, aq_f3, aq_f4, aq_gs, aq_ty1, aq_ty2, aq_ty3, aq_ty4, aq_ty5, Nat.reduceAdd, Nat.reduceLT, Nat.reduceEqDiff, Nat.reduceSub, if_true, if_false, ne_eq, not_false_eq_true, not_true_eq_false, Option.map_some, Option.map_none, Nat.zero_add, reduceCtorEq, Nat.reduceLeDiff, one_ne_zero_a, zero_ne_one_a, aq_nb, aq_nb1, aq_nb0, aq_fb, aq_fb1, aq_fb0, aq_ofN, bB_t, bB_f, bB_v, vpn_b1, vpn_b0, nI_1, Bool.true_eq_false, Bool.false_eq_true, Bool.true_and, Bool.false_and, Bool.and_true, Bool.and_false, nI_ge hc2 (show w * ht < 2 ^ 31 by omega), T2.1, B2.1]
      refine (t_isFree B2 G (nI c)).use ?_
      rintro _ h2 ⟨rfl, rfl⟩
      rw [inC_nI hc2 (by omega), nI_clamp (show c < 2 ^ 31 by omega), Bool.true_and]
      cases hcb : cb c with
      | true =>
        simp only [s_X6_settle_0, s_X6_settle_1, s_X6_settle_2, s_X6_settle_3, s_X6_settle_6, s_X6_settle_7, s_X6_settle_9, s_X6_settle_10, s_X6_settle_13, s_X6_settle_16, s_X6_settle_19, s_X6_settle_20, s_X6_settle_23, s_X6_settle_24, s_X6_settle_27, s_X6_settle_30, s_X6_settle_31, s_X6_settle_32, s_X6_settle_35, s_X6_settle_38, s_X6_settle_39, s_X6_settle_40, s_X6_settle_43, s_X6_settle_46, s_X6_settle_47, aq_gI, aq_gL, aq_gA, aq_isA, aq_s1, aq_s2, aq_kill, aq_ob, aq_sm, aq_arI, aq_arB, aq_isB, aq_arL, aq_arA, aq_arN, aq_sh, Value.category, List.getElem?_cons_zero, List.getElem?_cons_succ, List.length_cons, List.length_nil, Option.toList_some, Option.toList_none, List.cons_append, List.nil_append, true_and, and_true, List.set_cons_zero, List.set_cons_succ, aq_n1, aq_n2, aq_n3, aq_n4, aq_f1, aq_f2, aq_f3, aq_f4, aq_gs, aq_ty1, aq_ty2, aq_ty3, aq_ty4, aq_ty5, Nat.reduceAdd, Nat.reduceLT, Nat.reduceEqDiff, Nat.reduceSub, if_true, if_false, ne_eq, not_false_eq_true, not_true_eq_false, Option.map_some, Option.map_none, Nat.zero_add, reduceCtorEq, Nat.reduceLeDiff, one_ne_zero_a, zero_ne_one_a, aq_nb, aq_nb1, aq_nb0, aq_fb, aq_fb1, aq_fb0, aq_ofN, bB_t, bB_f, bB_v, vpn_b1, vpn_b0, nI_1, Bool.true_eq_false, Bool.false_eq_true, Bool.true_and, Bool.false_and, Bool.and_true, Bool.and_false, Bool.not_true]
        refine ih (c + 1) (by omega) _ _ _ _ _ _ h2 p mkf k T2 S2 g2 q1 q2 q3 (fun c' hc' h1 => ?_)
        by_cases z : c' = c
        · rw [z, hcb] at h1; cases h1
        · exact q4 c' (by omega) h1
      | false =>
        simp only [s_X6_settle_0, s_X6_settle_1, s_X6_settle_2, s_X6_settle_3, s_X6_settle_6, s_X6_settle_7, s_X6_settle_9, s_X6_settle_10, s_X6_settle_13, s_X6_settle_16, s_X6_settle_19, s_X6_settle_20, s_X6_settle_23, s_X6_settle_24, s_X6_settle_27, s_X6_settle_30, s_X6_settle_31, s_X6_settle_32, s_X6_settle_35, s_X6_settle_38, s_X6_settle_39, s_X6_settle_40, s_X6_settle_43, s_X6_settle_46, s_X6_settle_47, aq_gI, aq_gL, aq_gA, aq_isA, aq_s1, aq_s2, aq_kill, aq_ob, aq_sm, aq_arI, aq_arB, aq_isB, aq_arL, aq_arA, aq_arN, aq_sh, Value.category, List.getElem?_cons_zero, List.getElem?_cons_succ, List.length_cons, List.length_nil, Option.toList_some, Option.toList_none, List.cons_append, List.nil_append, true_and, and_true, List.set_cons_zero, List.set_cons_succ, aq_n1, aq_n2, aq_n3, aq_n4, aq_f1, aq_f2, aq_f3, aq_f4, aq_gs, aq_ty1, aq_ty2, aq_ty3, aq_ty4, aq_ty5, Nat.reduceAdd, Nat.reduceLT, Nat.reduceEqDiff, Nat.reduceSub, if_true, if_false, ne_eq, not_false_eq_true, not_true_eq_false, Option.map_some, Option.map_none, Nat.zero_add, reduceCtorEq, Nat.reduceLeDiff, one_ne_zero_a, zero_ne_one_a, aq_nb, aq_nb1, aq_nb0, aq_fb, aq_fb1, aq_fb0, aq_ofN, bB_t, bB_f, bB_v, vpn_b1, vpn_b0, nI_1, Bool.true_eq_false, Bool.false_eq_true, Bool.true_and, Bool.false_and, Bool.and_true, Bool.and_false, Bool.not_false, T2.1]
        refine (t_joinTree T2 B2 G hr hcn g2 q1 q2 q3 hc2 hcb).use ?_
        rintro _ h3 ⟨S3, ways3, wc3, xs3, tops3, pops3, marks3, ci3, T3, pp⟩
        rcases pp with ⟨rfl, p3, mkf3, k3, rfl, g3, r1, r2, r3, r4, r5⟩ | ⟨rfl, ov⟩
        · simp only [s_X6_settle_0, s_X6_settle_1, s_X6_settle_2, s_X6_settle_3, s_X6_settle_6, s_X6_settle_7, s_X6_settle_9, s_X6_settle_10, s_X6_settle_13, s_X6_settle_16, s_X6_settle_19, s_X6_settle_20, s_X6_settle_23, s_X6_settle_24, s_X6_settle_27, s_X6_settle_30, s_X6_settle_31, s_X6_settle_32, s_X6_settle_35, s_X6_settle_38, s_X6_settle_39, s_X6_settle_40, s_X6_settle_43, s_X6_settle_46, s_X6_settle_47, aq_gI, aq_gL, aq_gA, aq_isA, aq_s1, aq_s2, aq_kill, aq_ob, aq_sm, aq_arI, aq_arB, aq_isB, aq_arL, aq_arA, aq_arN, aq_sh, Value.category, List.getElem?_cons_zero, List.getElem?_cons_succ, List.length_cons, List.length_nil, Option.toList_some, Option.toList_none, List.cons_append, List.nil_append, true_and, and_true, List.set_cons_zero, List.set_cons_succ, aq_n1, aq_n2, aq_n3, aq_n4, aq_f1, aq_f2, aq_f3, aq_f4, aq_gs, aq_ty1, aq_ty2, aq_ty3, aq_ty4, aq_ty5, Nat.reduceAdd, Nat.reduceLT, Nat.reduceEqDiff, Nat.reduceSub, if_true, if_false, ne_eq, not_false_eq_true, not_true_eq_false, Option.map_some, Option.map_none, Nat.zero_add, reduceCtorEq, Nat.reduceLeDiff, one_ne_zero_a, zero_ne_one_a, aq_nb, aq_nb1, aq_nb0, aq_fb, aq_fb1, aq_fb0, aq_ofN, bB_t, bB_f, bB_v, vpn_b1, vpn_b0, nI_1, Bool.true_eq_false, Bool.false_eq_true, Bool.true_and, Bool.false_and, Bool.and_true, Bool.and_false]
          refine ih (c + 1) (by omega) _ _ _ _ _ _ h3 p3 mkf3 k3 T3 (S2.tr S3) g3 r1 r2 r3 (fun c' hc' h1 => ?_)
          by_cases z : c' = c
          · rw [z]; exact r4
          · exact r5 c' (by omega) (q4 c' (by omega) h1)
        · simp only [s_X6_settle_0, s_X6_settle_1, s_X6_settle_2, s_X6_settle_3, s_X6_settle_6, s_X6_settle_7, s_X6_settle_9, s_X6_settle_10, s_X6_settle_13, s_X6_settle_16, s_X6_settle_19, s_X6_settle_20, s_X6_settle_23, s_X6_settle_24, s_X6_settle_27, s_X6_settle_30, s_X6_settle_31, s_X6_settle_32, s_X6_settle_35, s_X6_settle_38, s_X6_settle_39, s_X6_settle_40, s_X6_settle_43, s_X6_settle_46, s_X6_settle_47, aq_gI, aq_gL, aq_gA, aq_isA, aq_s1, aq_s2, aq_kill, aq_ob, aq_sm, aq_arI, aq_arB, aq_isB, aq_arL, aq_arA, aq_arN, aq_sh, Value.category, List.getElem?_cons_zero, List.getElem?_cons_succ, List.length_cons, List.length_nil, Option.toList_some, Option.toList_none, List.cons_append, List.nil_append, true_and, and_true, List.set_cons_zero, List.set_cons_succ, aq_n1, aq_n2, aq_n3, aq_n4, aq_f1, aq_f2, aq_f3, aq_f4, aq_gs, aq_ty1, aq_ty2, aq_ty3, aq_ty4, aq_ty5, Nat.reduceAdd, Nat.reduceLT, Nat.reduceEqDiff, Nat.reduceSub, if_true, if_false, ne_eq, not_false_eq_true, not_true_eq_false, Option.map_some, Option.map_none, Nat.zero_add, reduceCtorEq, Nat.reduceLeDiff, one_ne_zero_a, zero_ne_one_a, aq_nb, aq_nb1, aq_nb0, aq_fb, aq_fb1, aq_fb0, aq_ofN, bB_t, bB_f, bB_v, vpn_b1, vpn_b0, nI_1, Bool.true_eq_false, Bool.false_eq_true, Bool.true_and, Bool.false_and, Bool.and_true, Bool.and_false]
          exact ⟨S2.tr S3, _, _, _, _, _, _, _, T3, Or.inr ov⟩
  refine one (w * ht) 0 (Nat.zero_add _) ways1 wc1 xs1 tops1 pops1 marks1 h1 (fun _ => 0) (fun c => if c = root then 2 else 0) 0 T1 S1 g1 ⟨if_pos rfl, fun c hc h2 => ?_, fun c hc h2 => ?_⟩ ⟨rfl, fun c => Nat.zero_le _⟩ (fun c hc => ?_) (fun c' hc' => by omega)
  · by_cases z : c = root
    · exact Or.inl z
    · simp only [z, if_false] at h2; cases h2
  · by_cases z : c = root
    · rw [z]; exact Tr.rt
    · simp only [z, if_false] at h2; cases h2
  · by_cases z : c = root
    · simp only [z, if_true]; exact Or.inr trivial
    · simp only [z, if_false]; exact Or.inl trivial
theorem t_layOut (M : iMz h (w * ht * 2) op dk od kc st ex (nI ch)) (T : iSt h (w * ht) ways wc xs tops pops marks ci) (B : iBd h w ht cut bes lead pas fr) (G : gBd w ht wx wy cb cut bes lead pas fr) (hr : root < w * ht) (hcn : ∀ c, SS w ht cb root c → 0 < (wyl w ht wx wy cb c).length) (g : gSk w ht wx wy cb seed root p mkf ways wc xs tops pops marks) :
    aq_T e_X3_layOut 5 0 0 [.ref 32, .ref 6, .int (nI root)] h (fun r h' => r = none ∧ sm 32 36 h h' ∧ ∃ op dk od kc, iMz h' (w * ht * 2) op dk od kc (nI root) (-1) (nI (ch + w * ht * 2 + 2)) ∧ gMz (w * ht * 2) (obf w ht wx wy cb seed root p (w * ht)) (fun _ => none) (fun _ => none) (fun _ => none) op dk od kc) := by
  have hn := wh_lt G.1
  refine ⟨Nat.le_of_ble_eq_true rfl, ?_⟩
  show aq_W _ _ 0 [some (.ref 32), some (.ref 6), some (.int (nI root)), none, none] [] _ _ _
  have two : ∀ (j c : Nat), c + j = w * ht → ∀ (op dk od kc : Nat → Int32) (L : Option Value) (h2 : aq_H), iMz h2 (w * ht * 2) op dk od kc st ex (nI (ch + w * ht * 2 + 1)) → sm 32 36 h h2 → gMz (w * ht * 2) (obf w ht wx wy cb seed root p c) (fun _ => none) (fun _ => none) (fun _ => none) op dk od kc → aq_W e_X3_layOut (fun r h' => r = none ∧ sm 32 36 h h' ∧ ∃ op dk od kc, iMz h' (w * ht * 2) op dk od kc (nI root) (-1) (nI (ch + w * ht * 2 + 2)) ∧ gMz (w * ht * 2) (obf w ht wx wy cb seed root p (w * ht)) (fun _ => none) (fun _ => none) (fun _ => none) op dk od kc) 31 [some (.ref 32), some (.ref 6), some (.int (nI root)), some (.int (nI c)), L] [] h2 0 0 := by
    intro j
    induction j with
    | zero =>
      intro c hc op dk od kc L h2 M2 S2 g2
      have e : c = w * ht := by omega
      subst e
      have B2 : iBd h2 w ht cut bes lead pas fr := B.sm S2 (by omega)
      obtain ⟨m1, m2, m3, m4, m5⟩ := M2
      rw [s_X3_layOut_31]
      simp only [s_X3_layOut_32, s_X3_layOut_33, s_X3_layOut_36, aq_gI, aq_gL, aq_gA, aq_isA, aq_s1, aq_s2, aq_kill, aq_ob, aq_sm, aq_arI, aq_arB, aq_isB, aq_arL, aq_arA, aq_arN, aq_sh, Value.category, List.getElem?_cons_zero, List.getElem?_cons_succ, List.length_cons, List.length_nil, Option.toList_some, Option.toList_none, List.cons_append, List.nil_append, true_and, and_true, List.set_cons_zero, List.set_cons_succ, aq_n1, aq_n2, aq_n3, aq_n4, aq_f1, aq_f2, aq_f3, aq_f4, aq_gs, aq_ty1, aq_ty2, aq_ty3, aq_ty4, aq_ty5, Nat.reduceAdd, Nat.reduceLT, Nat.reduceEqDiff, Nat.reduceSub, if_true, if_false, ne_eq, not_false_eq_true, not_true_eq_false, Option.map_some, Option.map_none, Nat.zero_add, reduceCtorEq, Nat.reduceLeDiff, one_ne_zero_a, zero_ne_one_a, aq_nb, aq_nb1, aq_nb0, aq_fb, aq_fb1, aq_fb0, aq_ofN, bB_t, bB_f, bB_v, vpn_b1, vpn_b0, nI_1, Bool.true_eq_false, Bool.false_eq_true, Bool.true_and, Bool.false_and, Bool.and_true, Bool.and_false, m1, B2.1]
      refine (t_cells B2).use ?_
      rintro _ h2 ⟨rfl, rfl⟩
      simp only [s_X3_layOut_39, s_X3_layOut_77, s_X3_layOut_78, s_X3_layOut_79, s_X3_layOut_82, s_X3_layOut_83, s_X3_layOut_84, s_X3_layOut_87, s_X3_layOut_88, s_X3_layOut_89, s_X3_layOut_92, s_X3_layOut_93, s_X3_layOut_94, s_X3_layOut_97, aq_gI, aq_gL, aq_gA, aq_isA, aq_s1, aq_s2, aq_kill, aq_ob, aq_sm, aq_arI, aq_arB, aq_isB, aq_arL, aq_arA, aq_arN, aq_sh, Value.category, List.getElem?_cons_zero, List.getElem?_cons_succ, List.length_cons, List.length_nil, Option.toList_some, Option.toList_none, List.cons_append, List.nil_append, true_and, and_true, List.set_cons_zero, List.set_cons_succ, aq_n1, aq_n2, aq_n3, aq_n4, aq_f1, aq_f2, aq_f3, aq_f4, aq_gs, aq_ty1, aq_ty2, aq_ty3, aq_ty4, aq_ty5, Nat.reduceAdd, Nat.reduceLT, Nat.reduceEqDiff, Nat.reduceSub, if_true, if_false, ne_eq, not_false_eq_true, not_true_eq_false, Option.map_some, Option.map_none, Nat.zero_add, reduceCtorEq, Nat.reduceLeDiff, one_ne_zero_a, zero_ne_one_a, aq_nb, aq_nb1, aq_nb0, aq_fb, aq_fb1, aq_fb0, aq_ofN, bB_t, bB_f, bB_v, vpn_b1, vpn_b0, nI_1, Bool.true_eq_false, Bool.false_eq_true, Bool.true_and, Bool.false_and, Bool.and_true, Bool.and_false, nI_le (Nat.le_refl (w * ht)) (show w * ht < 2 ^ 31 by omega), m1, List.set_set]
      refine ⟨S2.st (by decide) (by decide), op, dk, od, kc, ⟨?_, ?_, ?_, ?_, ?_⟩, g2⟩
      · simp only [aq_gI, aq_gL, aq_gA, aq_isA, aq_s1, aq_s2, aq_kill, aq_ob, aq_sm, aq_arI, aq_arB, aq_isB, aq_arL, aq_arA, aq_arN, aq_sh, Value.category, List.getElem?_cons_zero, List.getElem?_cons_succ, List.length_cons, List.length_nil, Option.toList_some, Option.toList_none, List.cons_append, List.nil_append, true_and, and_true, List.set_cons_zero, List.set_cons_succ, aq_n1, aq_n2, aq_n3, aq_n4, aq_f1, aq_f2, aq_f3, aq_f4, aq_gs, aq_ty1, aq_ty2, aq_ty3, aq_ty4, aq_ty5, Nat.reduceAdd, Nat.reduceLT, Nat.reduceEqDiff, Nat.reduceSub, if_true, if_false, ne_eq, not_false_eq_true, not_true_eq_false, Option.map_some, Option.map_none, Nat.zero_add, reduceCtorEq, Nat.reduceLeDiff, one_ne_zero_a, zero_ne_one_a, m1]
      · simp only [aq_gI, aq_gL, aq_gA, aq_isA, aq_s1, aq_s2, aq_kill, aq_ob, aq_sm, aq_arI, aq_arB, aq_isB, aq_arL, aq_arA, aq_arN, aq_sh, Value.category, List.getElem?_cons_zero, List.getElem?_cons_succ, List.length_cons, List.length_nil, Option.toList_some, Option.toList_none, List.cons_append, List.nil_append, true_and, and_true, List.set_cons_zero, List.set_cons_succ, aq_n1, aq_n2, aq_n3, aq_n4, aq_f1, aq_f2, aq_f3, aq_f4, aq_gs, aq_ty1, aq_ty2, aq_ty3, aq_ty4, aq_ty5, Nat.reduceAdd, Nat.reduceLT, Nat.reduceEqDiff, Nat.reduceSub, if_true, if_false, ne_eq, not_false_eq_true, not_true_eq_false, Option.map_some, Option.map_none, Nat.zero_add, reduceCtorEq, Nat.reduceLeDiff, one_ne_zero_a, zero_ne_one_a, m2]
      · simp only [aq_gI, aq_gL, aq_gA, aq_isA, aq_s1, aq_s2, aq_kill, aq_ob, aq_sm, aq_arI, aq_arB, aq_isB, aq_arL, aq_arA, aq_arN, aq_sh, Value.category, List.getElem?_cons_zero, List.getElem?_cons_succ, List.length_cons, List.length_nil, Option.toList_some, Option.toList_none, List.cons_append, List.nil_append, true_and, and_true, List.set_cons_zero, List.set_cons_succ, aq_n1, aq_n2, aq_n3, aq_n4, aq_f1, aq_f2, aq_f3, aq_f4, aq_gs, aq_ty1, aq_ty2, aq_ty3, aq_ty4, aq_ty5, Nat.reduceAdd, Nat.reduceLT, Nat.reduceEqDiff, Nat.reduceSub, if_true, if_false, ne_eq, not_false_eq_true, not_true_eq_false, Option.map_some, Option.map_none, Nat.zero_add, reduceCtorEq, Nat.reduceLeDiff, one_ne_zero_a, zero_ne_one_a, m3]
      · simp only [aq_gI, aq_gL, aq_gA, aq_isA, aq_s1, aq_s2, aq_kill, aq_ob, aq_sm, aq_arI, aq_arB, aq_isB, aq_arL, aq_arA, aq_arN, aq_sh, Value.category, List.getElem?_cons_zero, List.getElem?_cons_succ, List.length_cons, List.length_nil, Option.toList_some, Option.toList_none, List.cons_append, List.nil_append, true_and, and_true, List.set_cons_zero, List.set_cons_succ, aq_n1, aq_n2, aq_n3, aq_n4, aq_f1, aq_f2, aq_f3, aq_f4, aq_gs, aq_ty1, aq_ty2, aq_ty3, aq_ty4, aq_ty5, Nat.reduceAdd, Nat.reduceLT, Nat.reduceEqDiff, Nat.reduceSub, if_true, if_false, ne_eq, not_false_eq_true, not_true_eq_false, Option.map_some, Option.map_none, Nat.zero_add, reduceCtorEq, Nat.reduceLeDiff, one_ne_zero_a, zero_ne_one_a, m4]
      · simp only [aq_gI, aq_gL, aq_gA, aq_isA, aq_s1, aq_s2, aq_kill, aq_ob, aq_sm, aq_arI, aq_arB, aq_isB, aq_arL, aq_arA, aq_arN, aq_sh, Value.category, List.getElem?_cons_zero, List.getElem?_cons_succ, List.length_cons, List.length_nil, Option.toList_some, Option.toList_none, List.cons_append, List.nil_append, true_and, and_true, List.set_cons_zero, List.set_cons_succ, aq_n1, aq_n2, aq_n3, aq_n4, aq_f1, aq_f2, aq_f3, aq_f4, aq_gs, aq_ty1, aq_ty2, aq_ty3, aq_ty4, aq_ty5, Nat.reduceAdd, Nat.reduceLT, Nat.reduceEqDiff, Nat.reduceSub, if_true, if_false, ne_eq, not_false_eq_true, not_true_eq_false, Option.map_some, Option.map_none, Nat.zero_add, reduceCtorEq, Nat.reduceLeDiff, one_ne_zero_a, zero_ne_one_a, m5]
    | succ j ih =>
      intro c hc op dk od kc L h2 M2 S2 g2
      have hc2 : c < w * ht := by omega
      have B2 : iBd h2 w ht cut bes lead pas fr := B.sm S2 (by omega)
      have T2 : iSt h2 (w * ht) ways wc xs tops pops marks ci := T.sm S2 (by omega)
      have M0 := M2
      obtain ⟨m1, m2, m3, m4, m5⟩ := M2
      rw [s_X3_layOut_31]
      simp only [s_X3_layOut_32, s_X3_layOut_33, s_X3_layOut_36, aq_gI, aq_gL, aq_gA, aq_isA, aq_s1, aq_s2, aq_kill, aq_ob, aq_sm, aq_arI, aq_arB, aq_isB, aq_arL, aq_arA, aq_arN, aq_sh, Value.category, List.getElem?_cons_zero, List.getElem?_cons_succ, List.length_cons, List.length_nil, Option.toList_some, Option.toList_none, List.cons_append, List.nil_append, true_and, and_true, List.set_cons_zero, List.set_cons_succ, aq_n1, aq_n2, aq_n3, aq_n4, aq_f1, aq_f2, aq_f3, aq_f4, aq_gs, aq_ty1, aq_ty2, aq_ty3, aq_ty4, aq_ty5, Nat.reduceAdd, Nat.reduceLT, Nat.reduceEqDiff, Nat.reduceSub, if_true, if_false, ne_eq, not_false_eq_true, not_true_eq_false, Option.map_some, Option.map_none, Nat.zero_add, reduceCtorEq, Nat.reduceLeDiff, one_ne_zero_a, zero_ne_one_a, aq_nb, aq_nb1, aq_nb0, aq_fb, aq_fb1, aq_fb0, aq_ofN, bB_t, bB_f, bB_v, vpn_b1, vpn_b0, nI_1, Bool.true_eq_false, Bool.false_eq_true, Bool.true_and, Bool.false_and, Bool.and_true, Bool.and_false, m1, B2.1]
      refine (t_cells B2).use ?_
      rintro _ h2 ⟨rfl, rfl⟩
      simp only [s_X3_layOut_39, s_X3_layOut_42, s_X3_layOut_43, s_X3_layOut_46, s_X3_layOut_47, s_X3_layOut_48, s_X3_layOut_49, aq_gI, aq_gL, aq_gA, aq_isA, aq_s1, aq_s2, aq_kill, aq_ob, aq_sm, aq_arI, aq_arB, aq_isB, aq_arL, aq_arA, aq_arN, aq_sh, Value.category, List.getElem?_cons_zero, List.getElem?_cons_succ, List.length_cons, List.length_nil, Option.toList_some, Option.toList_none, List.cons_append, List.nil_append, true_and, and_true, List.set_cons_zero, List.set_cons_succ, aq_n1, aq_n2, aq_n3, aq_n4, aq_f1, aq_f2, aq_f3, aq_f4, aq_gs, aq_ty1, aq_ty2, aq_ty3, aq_ty4, aq_ty5, Nat.reduceAdd, Nat.reduceLT, Nat.reduceEqDiff, Nat.reduceSub, if_true, if_false, ne_eq, not_false_eq_true, not_true_eq_false, Option.map_some, Option.map_none, Nat.zero_add, reduceCtorEq, Nat.reduceLeDiff, one_ne_zero_a, zero_ne_one_a, aq_nb, aq_nb1, aq_nb0, aq_fb, aq_fb1, aq_fb0, aq_ofN, bB_t, bB_f, bB_v, vpn_b1, vpn_b0, nI_1, Bool.true_eq_false, Bool.false_eq_true, Bool.true_and, Bool.false_and, Bool.and_true, Bool.and_false, nI_ge hc2 (show w * ht < 2 ^ 31 by omega), m1, T2.1]
      refine (t_topOf T2 hc2 (by omega)).use ?_
      rintro _ h2 ⟨rfl, rfl⟩
      simp only [s_X3_layOut_52, aq_gI, aq_gL, aq_gA, aq_isA, aq_s1, aq_s2, aq_kill, aq_ob, aq_sm, aq_arI, aq_arB, aq_isB, aq_arL, aq_arA, aq_arN, aq_sh, Value.category, List.getElem?_cons_zero, List.getElem?_cons_succ, List.length_cons, List.length_nil, Option.toList_some, Option.toList_none, List.cons_append, List.nil_append, true_and, and_true, List.set_cons_zero, List.set_cons_succ, aq_n1, aq_n2, aq_n3, aq_n4, aq_f1, aq_f2, aq_f3, aq_f4, aq_gs, aq_ty1, aq_ty2, aq_ty3, aq_ty4, aq_ty5, Nat.reduceAdd, Nat.reduceLT, Nat.reduceEqDiff, Nat.reduceSub, if_true, if_false, ne_eq, not_false_eq_true, not_true_eq_false, Option.map_some, Option.map_none, Nat.zero_add, reduceCtorEq, Nat.reduceLeDiff, one_ne_zero_a, zero_ne_one_a, aq_nb, aq_nb1, aq_nb0, aq_fb, aq_fb1, aq_fb0, aq_ofN, bB_t, bB_f, bB_v, vpn_b1, vpn_b0, nI_1, Bool.true_eq_false, Bool.false_eq_true, Bool.true_and, Bool.false_and, Bool.and_true, Bool.and_false, B2.1]
      refine (t_passageAt B2 G (nI c) (tops c)).use ?_
      rintro _ h2 ⟨rfl, rfl⟩
      by_cases hs : cb c = false ∧ c ≠ root
      · have hS : SS w ht cb root c := ⟨hc2, hs.1, hs.2⟩
        obtain ⟨t1, t2⟩ := Tp_ok (seed := seed) (t := p c) (hcn c hS)
        have hl : pn c (Tp w ht wx wy cb seed c (p c)) (Fn w ht wx wy cb seed c (p c)) < w * ht * 2 := pn_lt hc2 (nx_lt G.1 hc2 t1 t2)
        rw [(g.2.1 c hS).2, PNX_in hc2 (by omega) t1, t2]
        have hob : obf w ht wx wy cb seed root p (c + 1) = fs (obf w ht wx wy cb seed root p c) (pn c (Tp w ht wx wy cb seed c (p c)) (Fn w ht wx wy cb seed c (p c))) true := if_pos hs
        generalize hq : pn c (Tp w ht wx wy cb seed c (p c)) (Fn w ht wx wy cb seed c (p c)) = q at hl hob
        simp only [Option.map, oI, hq]
        simp only [s_X3_layOut_55, s_X3_layOut_57, s_X3_layOut_59, s_X3_layOut_60, s_X3_layOut_63, s_X3_layOut_64, s_X3_layOut_67, s_X3_layOut_69, s_X3_layOut_70, s_X3_layOut_71, s_X3_layOut_74, aq_gI, aq_gL, aq_gA, aq_isA, aq_s1, aq_s2, aq_kill, aq_ob, aq_sm, aq_arI, aq_arB, aq_isB, aq_arL, aq_arA, aq_arN, aq_sh, Value.category, List.getElem?_cons_zero, List.getElem?_cons_succ, List.length_cons, List.length_nil, Option.toList_some, Option.toList_none, List.cons_append, List.nil_append, true_and, and_true, List.set_cons_zero, List.set_cons_succ, aq_n1, aq_n2, aq_n3, aq_n4, aq_f1, aq_f2, aq_f3, aq_f4, aq_gs, aq_ty1, aq_ty2, aq_ty3, aq_ty4, aq_ty5, Nat.reduceAdd, Nat.reduceLT, Nat.reduceEqDiff, Nat.reduceSub, if_true, if_false, ne_eq, not_false_eq_true, not_true_eq_false, Option.map_some, Option.map_none, Nat.zero_add, reduceCtorEq, Nat.reduceLeDiff, one_ne_zero_a, zero_ne_one_a, aq_nb, aq_nb1, aq_nb0, aq_fb, aq_fb1, aq_fb0, aq_ofN, bB_t, bB_f, bB_v, vpn_b1, vpn_b0, nI_1, Bool.true_eq_false, Bool.false_eq_true, Bool.true_and, Bool.false_and, Bool.and_true, Bool.and_false, nI_ne_m1 (show q < 2 ^ 31 by omega), m1, m2, vp_in_nI hl (show w * ht * 2 < 2 ^ 31 by omega), nI_clamp (show q < 2 ^ 31 by omega)]
        refine ih (c + 1) (by omega) (upd op q 1) dk od kc _ _ ⟨?_, ?_, ?_, ?_, ?_⟩ (S2.st (by decide) (by decide)) ⟨fun r hr => ?_, g2.2⟩
        · simp only [aq_gI, aq_gL, aq_gA, aq_isA, aq_s1, aq_s2, aq_kill, aq_ob, aq_sm, aq_arI, aq_arB, aq_isB, aq_arL, aq_arA, aq_arN, aq_sh, Value.category, List.getElem?_cons_zero, List.getElem?_cons_succ, List.length_cons, List.length_nil, Option.toList_some, Option.toList_none, List.cons_append, List.nil_append, true_and, and_true, List.set_cons_zero, List.set_cons_succ, aq_n1, aq_n2, aq_n3, aq_n4, aq_f1, aq_f2, aq_f3, aq_f4, aq_gs, aq_ty1, aq_ty2, aq_ty3, aq_ty4, aq_ty5, Nat.reduceAdd, Nat.reduceLT, Nat.reduceEqDiff, Nat.reduceSub, if_true, if_false, ne_eq, not_false_eq_true, not_true_eq_false, Option.map_some, Option.map_none, Nat.zero_add, reduceCtorEq, Nat.reduceLeDiff, one_ne_zero_a, zero_ne_one_a, m1]
        · simp only [aq_gI, aq_gL, aq_gA, aq_isA, aq_s1, aq_s2, aq_kill, aq_ob, aq_sm, aq_arI, aq_arB, aq_isB, aq_arL, aq_arA, aq_arN, aq_sh, Value.category, List.getElem?_cons_zero, List.getElem?_cons_succ, List.length_cons, List.length_nil, Option.toList_some, Option.toList_none, List.cons_append, List.nil_append, true_and, and_true, List.set_cons_zero, List.set_cons_succ, aq_n1, aq_n2, aq_n3, aq_n4, aq_f1, aq_f2, aq_f3, aq_f4, aq_gs, aq_ty1, aq_ty2, aq_ty3, aq_ty4, aq_ty5, Nat.reduceAdd, Nat.reduceLT, Nat.reduceEqDiff, Nat.reduceSub, if_true, if_false, ne_eq, not_false_eq_true, not_true_eq_false, Option.map_some, Option.map_none, Nat.zero_add, reduceCtorEq, Nat.reduceLeDiff, one_ne_zero_a, zero_ne_one_a, m2]
        · simp only [aq_gI, aq_gL, aq_gA, aq_isA, aq_s1, aq_s2, aq_kill, aq_ob, aq_sm, aq_arI, aq_arB, aq_isB, aq_arL, aq_arA, aq_arN, aq_sh, Value.category, List.getElem?_cons_zero, List.getElem?_cons_succ, List.length_cons, List.length_nil, Option.toList_some, Option.toList_none, List.cons_append, List.nil_append, true_and, and_true, List.set_cons_zero, List.set_cons_succ, aq_n1, aq_n2, aq_n3, aq_n4, aq_f1, aq_f2, aq_f3, aq_f4, aq_gs, aq_ty1, aq_ty2, aq_ty3, aq_ty4, aq_ty5, Nat.reduceAdd, Nat.reduceLT, Nat.reduceEqDiff, Nat.reduceSub, if_true, if_false, ne_eq, not_false_eq_true, not_true_eq_false, Option.map_some, Option.map_none, Nat.zero_add, reduceCtorEq, Nat.reduceLeDiff, one_ne_zero_a, zero_ne_one_a, m3]
        · simp only [aq_gI, aq_gL, aq_gA, aq_isA, aq_s1, aq_s2, aq_kill, aq_ob, aq_sm, aq_arI, aq_arB, aq_isB, aq_arL, aq_arA, aq_arN, aq_sh, Value.category, List.getElem?_cons_zero, List.getElem?_cons_succ, List.length_cons, List.length_nil, Option.toList_some, Option.toList_none, List.cons_append, List.nil_append, true_and, and_true, List.set_cons_zero, List.set_cons_succ, aq_n1, aq_n2, aq_n3, aq_n4, aq_f1, aq_f2, aq_f3, aq_f4, aq_gs, aq_ty1, aq_ty2, aq_ty3, aq_ty4, aq_ty5, Nat.reduceAdd, Nat.reduceLT, Nat.reduceEqDiff, Nat.reduceSub, if_true, if_false, ne_eq, not_false_eq_true, not_true_eq_false, Option.map_some, Option.map_none, Nat.zero_add, reduceCtorEq, Nat.reduceLeDiff, one_ne_zero_a, zero_ne_one_a, m4]
        · simp only [aq_gI, aq_gL, aq_gA, aq_isA, aq_s1, aq_s2, aq_kill, aq_ob, aq_sm, aq_arI, aq_arB, aq_isB, aq_arL, aq_arA, aq_arN, aq_sh, Value.category, List.getElem?_cons_zero, List.getElem?_cons_succ, List.length_cons, List.length_nil, Option.toList_some, Option.toList_none, List.cons_append, List.nil_append, true_and, and_true, List.set_cons_zero, List.set_cons_succ, aq_n1, aq_n2, aq_n3, aq_n4, aq_f1, aq_f2, aq_f3, aq_f4, aq_gs, aq_ty1, aq_ty2, aq_ty3, aq_ty4, aq_ty5, Nat.reduceAdd, Nat.reduceLT, Nat.reduceEqDiff, Nat.reduceSub, if_true, if_false, ne_eq, not_false_eq_true, not_true_eq_false, Option.map_some, Option.map_none, Nat.zero_add, reduceCtorEq, Nat.reduceLeDiff, one_ne_zero_a, zero_ne_one_a, m5]
        · rw [hob]
          by_cases z : r = q
          · rw [z, upd_s, fs_s]; rfl
          · rw [upd_n _ _ z, fs_n _ _ z]; exact g2.1 r hr
      · have hv : PNX w ht wx wy cb (nI c) (tops c) = -1 := by
          by_cases z : c = root
          · rw [z, g.2.2.1]
            exact PNX_out (Or.inr (by decide))
          · have hcut : cb c = true := by
              cases q : cb c with
              | true => rfl
              | false => exact absurd ⟨q, z⟩ hs
            rw [PNX_PO]
            cases hp : PO w ht wx wy cb (nI c) (tops c) with
            | none => rfl
            | some q =>
              obtain ⟨j, i, m, hj, hi4, e1, e2, hx, rfl⟩ := PO_some (by omega) hp
              have e3 := (nI_eq (by omega) (by omega)).mp e1
              subst e3
              have := (nx_some.mp hx).1
              rw [hcut] at this
              cases this
        rw [hv]
        have hob : obf w ht wx wy cb seed root p (c + 1) = obf w ht wx wy cb seed root p c := if_neg hs
        simp only [s_X3_layOut_55, s_X3_layOut_57, s_X3_layOut_59, s_X3_layOut_60, s_X3_layOut_71, s_X3_layOut_74, aq_gI, aq_gL, aq_gA, aq_isA, aq_s1, aq_s2, aq_kill, aq_ob, aq_sm, aq_arI, aq_arB, aq_isB, aq_arL, aq_arA, aq_arN, aq_sh, Value.category, List.getElem?_cons_zero, List.getElem?_cons_succ, List.length_cons, List.length_nil, Option.toList_some, Option.toList_none, List.cons_append, List.nil_append, true_and, and_true, List.set_cons_zero, List.set_cons_succ, aq_n1, aq_n2, aq_n3, aq_n4, aq_f1, aq_f2, aq_f3, aq_f4, aq_gs, aq_ty1, aq_ty2, aq_ty3, aq_ty4, aq_ty5, Nat.reduceAdd, Nat.reduceLT, Nat.reduceEqDiff, Nat.reduceSub, if_true, if_false, ne_eq, not_false_eq_true, not_true_eq_false, Option.map_some, Option.map_none, Nat.zero_add, reduceCtorEq, Nat.reduceLeDiff, one_ne_zero_a, zero_ne_one_a, aq_nb, aq_nb1, aq_nb0, aq_fb, aq_fb1, aq_fb0, aq_ofN, bB_t, bB_f, bB_v, vpn_b1, vpn_b0, nI_1, Bool.true_eq_false, Bool.false_eq_true, Bool.true_and, Bool.false_and, Bool.and_true, Bool.and_false]
        exact ih (c + 1) (by omega) op dk od kc _ h2 M0 S2 (by rw [hob]; exact g2)
  have one : ∀ (j q : Nat), q + j = w * ht * 2 → ∀ (op dk od : Nat → Int32) (h2 : aq_H), iMz h2 (w * ht * 2) op dk od kc st ex (nI (ch + q)) → sm 32 36 h h2 → (∀ r, r < q → op r = 0 ∧ dk r = -1 ∧ od r = -1) → aq_W e_X3_layOut (fun r h' => r = none ∧ sm 32 36 h h' ∧ ∃ op dk od kc, iMz h' (w * ht * 2) op dk od kc (nI root) (-1) (nI (ch + w * ht * 2 + 2)) ∧ gMz (w * ht * 2) (obf w ht wx wy cb seed root p (w * ht)) (fun _ => none) (fun _ => none) (fun _ => none) op dk od kc) 2 [some (.ref 32), some (.ref 6), some (.int (nI root)), some (.int (nI q)), none] [] h2 0 0 := by
    intro j
    induction j with
    | zero =>
      intro q hq op dk od h2 M2 S2 g2
      have e : q = w * ht * 2 := by omega
      subst e
      have B2 : iBd h2 w ht cut bes lead pas fr := B.sm S2 (by omega)
      rw [s_X3_layOut_2]
      simp only [s_X3_layOut_3, s_X3_layOut_4, s_X3_layOut_7, aq_gI, aq_gL, aq_gA, aq_isA, aq_s1, aq_s2, aq_kill, aq_ob, aq_sm, aq_arI, aq_arB, aq_isB, aq_arL, aq_arA, aq_arN, aq_sh, Value.category, List.getElem?_cons_zero, List.getElem?_cons_succ, List.length_cons, List.length_nil, Option.toList_some, Option.toList_none, List.cons_append, List.nil_append, true_and, and_true, List.set_cons_zero, List.set_cons_succ, aq_n1, aq_n2, aq_n3, aq_n4, aq_f1, aq_f2, aq_f3, aq_f4, aq_gs, aq_ty1, aq_ty2, aq_ty3, aq_ty4, aq_ty5, Nat.reduceAdd, Nat.reduceLT, Nat.reduceEqDiff, Nat.reduceSub, if_true, if_false, ne_eq, not_false_eq_true, not_true_eq_false, Option.map_some, Option.map_none, Nat.zero_add, reduceCtorEq, Nat.reduceLeDiff, one_ne_zero_a, zero_ne_one_a, aq_nb, aq_nb1, aq_nb0, aq_fb, aq_fb1, aq_fb0, aq_ofN, bB_t, bB_f, bB_v, vpn_b1, vpn_b0, nI_1, Bool.true_eq_false, Bool.false_eq_true, Bool.true_and, Bool.false_and, Bool.and_true, Bool.and_false, M2.1, B2.1]
      refine (t_passages B2).use ?_
      rintro _ h2 ⟨rfl, rfl⟩
      simp only [s_X3_layOut_10, s_X3_layOut_25, s_X3_layOut_26, aq_gI, aq_gL, aq_gA, aq_isA, aq_s1, aq_s2, aq_kill, aq_ob, aq_sm, aq_arI, aq_arB, aq_isB, aq_arL, aq_arA, aq_arN, aq_sh, Value.category, List.getElem?_cons_zero, List.getElem?_cons_succ, List.length_cons, List.length_nil, Option.toList_some, Option.toList_none, List.cons_append, List.nil_append, true_and, and_true, List.set_cons_zero, List.set_cons_succ, aq_n1, aq_n2, aq_n3, aq_n4, aq_f1, aq_f2, aq_f3, aq_f4, aq_gs, aq_ty1, aq_ty2, aq_ty3, aq_ty4, aq_ty5, Nat.reduceAdd, Nat.reduceLT, Nat.reduceEqDiff, Nat.reduceSub, if_true, if_false, ne_eq, not_false_eq_true, not_true_eq_false, Option.map_some, Option.map_none, Nat.zero_add, reduceCtorEq, Nat.reduceLeDiff, one_ne_zero_a, zero_ne_one_a, aq_nb, aq_nb1, aq_nb0, aq_fb, aq_fb1, aq_fb0, aq_ofN, bB_t, bB_f, bB_v, vpn_b1, vpn_b0, nI_1, Bool.true_eq_false, Bool.false_eq_true, Bool.true_and, Bool.false_and, Bool.and_true, Bool.and_false, nI_le (Nat.le_refl (w * ht * 2)) (show w * ht * 2 < 2 ^ 31 by omega), M2.1]
      refine (t_liftKeys M2).use ?_
      rintro _ h3 ⟨rfl, kc3, M3, hk3, S3⟩
      simp only [s_X3_layOut_29, s_X3_layOut_30, aq_gI, aq_gL, aq_gA, aq_isA, aq_s1, aq_s2, aq_kill, aq_ob, aq_sm, aq_arI, aq_arB, aq_isB, aq_arL, aq_arA, aq_arN, aq_sh, Value.category, List.getElem?_cons_zero, List.getElem?_cons_succ, List.length_cons, List.length_nil, Option.toList_some, Option.toList_none, List.cons_append, List.nil_append, true_and, and_true, List.set_cons_zero, List.set_cons_succ, aq_n1, aq_n2, aq_n3, aq_n4, aq_f1, aq_f2, aq_f3, aq_f4, aq_gs, aq_ty1, aq_ty2, aq_ty3, aq_ty4, aq_ty5, Nat.reduceAdd, Nat.reduceLT, Nat.reduceEqDiff, Nat.reduceSub, if_true, if_false, ne_eq, not_false_eq_true, not_true_eq_false, Option.map_some, Option.map_none, Nat.zero_add, reduceCtorEq, Nat.reduceLeDiff, one_ne_zero_a, zero_ne_one_a, aq_nb, aq_nb1, aq_nb0, aq_fb, aq_fb1, aq_fb0, aq_ofN, bB_t, bB_f, bB_v, vpn_b1, vpn_b0, nI_1, Bool.true_eq_false, Bool.false_eq_true, Bool.true_and, Bool.false_and, Bool.and_true, Bool.and_false]
      refine two (w * ht) 0 (Nat.zero_add _) op dk od kc3 _ h3 (by rw [← nI_1]; exact M3) (S2.tr S3) ⟨fun r hr => (g2 r hr).1, fun r hr => ⟨(g2 r hr).2.1, fun k hk => by cases hk⟩, fun r hr => ⟨(g2 r hr).2.2, fun k hk => by cases hk⟩, fun r hr => ⟨hk3 r hr, fun k hk => by cases hk⟩⟩
    | succ j ih =>
      intro q hq op dk od h2 M2 S2 g2
      have hq2 : q < w * ht * 2 := by omega
      have B2 : iBd h2 w ht cut bes lead pas fr := B.sm S2 (by omega)
      rw [s_X3_layOut_2]
      simp only [s_X3_layOut_3, s_X3_layOut_4, s_X3_layOut_7, aq_gI, aq_gL, aq_gA, aq_isA, aq_s1, aq_s2, aq_kill, aq_ob, aq_sm, aq_arI, aq_arB, aq_isB, aq_arL, aq_arA, aq_arN, aq_sh, Value.category, List.getElem?_cons_zero, List.getElem?_cons_succ, List.length_cons, List.length_nil, Option.toList_some, Option.toList_none, List.cons_append, List.nil_append, true_and, and_true, List.set_cons_zero, List.set_cons_succ, aq_n1, aq_n2, aq_n3, aq_n4, aq_f1, aq_f2, aq_f3, aq_f4, aq_gs, aq_ty1, aq_ty2, aq_ty3, aq_ty4, aq_ty5, Nat.reduceAdd, Nat.reduceLT, Nat.reduceEqDiff, Nat.reduceSub, if_true, if_false, ne_eq, not_false_eq_true, not_true_eq_false, Option.map_some, Option.map_none, Nat.zero_add, reduceCtorEq, Nat.reduceLeDiff, one_ne_zero_a, zero_ne_one_a, aq_nb, aq_nb1, aq_nb0, aq_fb, aq_fb1, aq_fb0, aq_ofN, bB_t, bB_f, bB_v, vpn_b1, vpn_b0, nI_1, Bool.true_eq_false, Bool.false_eq_true, Bool.true_and, Bool.false_and, Bool.and_true, Bool.and_false, M2.1, B2.1]
      refine (t_passages B2).use ?_
      rintro _ h2 ⟨rfl, rfl⟩
      simp only [s_X3_layOut_10, s_X3_layOut_13, s_X3_layOut_14, s_X3_layOut_15, s_X3_layOut_16, aq_gI, aq_gL, aq_gA, aq_isA, aq_s1, aq_s2, aq_kill, aq_ob, aq_sm, aq_arI, aq_arB, aq_isB, aq_arL, aq_arA, aq_arN, aq_sh, Value.category, List.getElem?_cons_zero, List.getElem?_cons_succ, List.length_cons, List.length_nil, Option.toList_some, Option.toList_none, List.cons_append, List.nil_append, true_and, and_true, List.set_cons_zero, List.set_cons_succ, aq_n1, aq_n2, aq_n3, aq_n4, aq_f1, aq_f2, aq_f3, aq_f4, aq_gs, aq_ty1, aq_ty2, aq_ty3, aq_ty4, aq_ty5, Nat.reduceAdd, Nat.reduceLT, Nat.reduceEqDiff, Nat.reduceSub, if_true, if_false, ne_eq, not_false_eq_true, not_true_eq_false, Option.map_some, Option.map_none, Nat.zero_add, reduceCtorEq, Nat.reduceLeDiff, one_ne_zero_a, zero_ne_one_a, aq_nb, aq_nb1, aq_nb0, aq_fb, aq_fb1, aq_fb0, aq_ofN, bB_t, bB_f, bB_v, vpn_b1, vpn_b0, nI_1, Bool.true_eq_false, Bool.false_eq_true, Bool.true_and, Bool.false_and, Bool.and_true, Bool.and_false, nI_ge hq2 (show w * ht * 2 < 2 ^ 31 by omega), M2.1]
      refine (t_setOpen M2 hq2 (by omega) false).use ?_
      rintro _ h3 ⟨rfl, M3, S3⟩
      simp only [s_X3_layOut_19, s_X3_layOut_22, aq_gI, aq_gL, aq_gA, aq_isA, aq_s1, aq_s2, aq_kill, aq_ob, aq_sm, aq_arI, aq_arB, aq_isB, aq_arL, aq_arA, aq_arN, aq_sh, Value.category, List.getElem?_cons_zero, List.getElem?_cons_succ, List.length_cons, List.length_nil, Option.toList_some, Option.toList_none, List.cons_append, List.nil_append, true_and, and_true, List.set_cons_zero, List.set_cons_succ, aq_n1, aq_n2, aq_n3, aq_n4, aq_f1, aq_f2, aq_f3, aq_f4, aq_gs, aq_ty1, aq_ty2, aq_ty3, aq_ty4, aq_ty5, Nat.reduceAdd, Nat.reduceLT, Nat.reduceEqDiff, Nat.reduceSub, if_true, if_false, ne_eq, not_false_eq_true, not_true_eq_false, Option.map_some, Option.map_none, Nat.zero_add, reduceCtorEq, Nat.reduceLeDiff, one_ne_zero_a, zero_ne_one_a, aq_nb, aq_nb1, aq_nb0, aq_fb, aq_fb1, aq_fb0, aq_ofN, bB_t, bB_f, bB_v, vpn_b1, vpn_b0, nI_1, Bool.true_eq_false, Bool.false_eq_true, Bool.true_and, Bool.false_and, Bool.and_true, Bool.and_false]
      refine ih (q + 1) (by omega) _ _ _ h3 (by rw [← Nat.add_assoc, ← nI_1]; exact M3) (S2.tr S3) (fun r hr => ?_)
      by_cases z : r = q
      · rw [z, upd_s, upd_s, upd_s]; exact ⟨rfl, rfl, rfl⟩
      · rw [upd_n _ _ z, upd_n _ _ z, upd_n _ _ z]; exact g2 r (by omega)
  simp only [s_X3_layOut_0, s_X3_layOut_1, aq_gI, aq_gL, aq_gA, aq_isA, aq_s1, aq_s2, aq_kill, aq_ob, aq_sm, aq_arI, aq_arB, aq_isB, aq_arL, aq_arA, aq_arN, aq_sh, Value.category, List.getElem?_cons_zero, List.getElem?_cons_succ, List.length_cons, List.length_nil, Option.toList_some, Option.toList_none, List.cons_append, List.nil_append, true_and, and_true, List.set_cons_zero, List.set_cons_succ, aq_n1, aq_n2, aq_n3, aq_n4, aq_f1, aq_f2, aq_f3, aq_f4, aq_gs, aq_ty1, aq_ty2, aq_ty3, aq_ty4, aq_ty5, Nat.reduceAdd, Nat.reduceLT, Nat.reduceEqDiff, Nat.reduceSub, if_true, if_false, ne_eq, not_false_eq_true, not_true_eq_false, Option.map_some, Option.map_none, Nat.zero_add, reduceCtorEq, Nat.reduceLeDiff, one_ne_zero_a, zero_ne_one_a, aq_nb, aq_nb1, aq_nb0, aq_fb, aq_fb1, aq_fb0, aq_ofN, bB_t, bB_f, bB_v, vpn_b1, vpn_b0, nI_1, Bool.true_eq_false, Bool.false_eq_true, Bool.true_and, Bool.false_and, Bool.and_true, Bool.and_false]
  exact one (w * ht * 2) 0 (Nat.zero_add _) op dk od h M (sm.rf _ _ _) (fun r hr => by omega)
theorem CLS_off (C : CLS V h w ht wx wy cb ch hm D Z P) {V' : mzT → Int32 → (Nat → Int32) → (Nat → Int32) → Int32 → Prop} : CLS V' (h.set 0 (.inr (9, [.ref 1, .ref 6, .ref 13, .ref 32, .ref 37, .ref 40, .ref 41, .ref 45, .ref 46, .int 0]))) w ht wx wy cb ch false D Z P := by
  obtain ⟨c1, c2, c3, c4, c5, c6, c7, c8, c9, c10, c11⟩ := C
  have S3 : sm 0 0 h (h.set 0 (.inr (9, [.ref 1, .ref 6, .ref 13, .ref 32, .ref 37, .ref 40, .ref 41, .ref 45, .ref 46, .int 0]))) := (sm.rf _ _ _).st (by decide) (by decide)
  refine ⟨c1.sm S3 (by omega), ?_, ?_, c4.sm S3 (by omega), ?_, c6.sm S3 (by omega), c7.sm S3 (by omega), (c8.off).sm S3 (by omega), ?_, c10.sm S3 (by omega), fun q => by cases q⟩
  · unfold iDk at c2 ⊢
    rw [aq_gs, if_pos rfl, c2]
    rfl
  · obtain ⟨x1, x2, x3, x4, x5, x6, x7, y, -⟩ := c3
    exact cSt.sm ⟨x1, x2, x3, x4, x5, x6, x7, y, fun q => by cases q⟩ S3 (by omega)
  · obtain ⟨x1, x2, x3, x4, x5, x6, y, -⟩ := c5
    exact cMz.sm ⟨x1, x2, x3, x4, x5, x6, y, fun q => by cases q⟩ S3 (by omega)
  · obtain ⟨x1, x2, x3, y, -⟩ := c9
    exact cWk.sm ⟨x1, x2, x3, y, fun q => by cases q⟩ S3 (by omega)
theorem CLS_st (C : CLS V h w ht wx wy cb ch false D Z P) (S : sm 6 12 h h') (T : iSt h' (w * ht) ways wc xs tops pops marks ci) : CLS V h' w ht wx wy cb ch false D Z P := by
  obtain ⟨c1, c2, c3, c4, c5, c6, c7, c8, c9, c10, c11⟩ := C
  exact ⟨c1.sm S (by omega), c2.sm S (by omega), ⟨_, _, _, _, _, _, _, T, fun q => by cases q⟩, c4.sm S (by omega), c5.sm S (by omega), c6.sm S (by omega), c7.sm S (by omega), c8.sm S (by omega), c9.sm S (by omega), c10.sm S (by omega), c11⟩
theorem Rc_nx (G : 0 < w ∧ w < 13 ∧ 0 < ht ∧ ht < 13) (hr : root < w * ht) (hb : cb root = false) {c : Nat} (hc : Rc (fun c d => nx w ht wx wy cb c d) root c) : (c < w * ht ∧ cb c = false) ∧ (c ≠ root → 0 < (wyl w ht wx wy cb c).length) := by
  have key : ∀ {c}, Rc (fun c d => nx w ht wx wy cb c d) root c → c < w * ht ∧ cb c = false := fun hc => Rc_ok (Q := fun c => c < w * ht ∧ cb c = false) ⟨hr, hb⟩ (fun c d m hq hd hx => by have := nx_ok G.2.1 G.2.2.2 hq.1 hd hx; exact ⟨this.1, this.2.2.2.1⟩) hc
  refine ⟨key hc, fun hne => ?_⟩
  induction c, hc using Rc.ind with
  | rt => exact absurd rfl hne
  | go h1 h2 h3 _ =>
    rename_i c' d m
    have := nx_ok G.2.1 G.2.2.2 (key h1).1 h2 h3
    exact wyl_pos (bd4 h2).2.1 this.2.2.2.2
theorem AR_frc (G : 0 < w ∧ w < 13 ∧ 0 < ht ∧ ht < 13) (hr : root < w * ht) (hb : cb root = false) {u : Nat → Bool} (hu : ∀ c, u c = false ↔ Rc (fun c d => nx w ht wx wy cb c d) root c) : frc u (w * ht) < frc cb (w * ht) ↔ ¬ AR w ht wx wy cb root := by
  constructor
  · intro hl har
    have : frc u (w * ht) = frc cb (w * ht) := by
      refine frc_congr _ (fun c hc => ?_)
      cases e : cb c with
      | false => exact (hu c).mpr (har c hc e)
      | true =>
        cases q : u c with
        | true => rfl
        | false => have := (Rc_nx G hr hb ((hu c).mp q)).1.2; rw [e] at this; cases this
    omega
  · intro hna
    have : ∃ c, c < w * ht ∧ cb c = false ∧ u c = true := by
      refine Classical.byContradiction fun hz => hna fun c hc h1 => (hu c).mp ?_
      cases q : u c with
      | false => rfl
      | true => exact absurd ⟨c, hc, h1, q⟩ hz
    obtain ⟨c, hc, h1, h2⟩ := this
    have k1 := frc_un hc h2
    have k2 : frc (cbs u c false) (w * ht) ≤ frc cb (w * ht) := by
      refine frc_mono _ (fun d hd => ?_)
      by_cases z : d = c
      · rw [z]; exact h1
      · rw [cbs_n _ _ z] at hd
        exact (Rc_nx G hr hb ((hu d).mp hd)).1.2
    omega
theorem x_make (C : CLS V h w ht wx wy cb ch hm D Z P) (seed rt : Int32) : aq_T e_X9_make 3 0 0 [.ref 0, .int seed, .int rt] h (fun r h' => if (inC (w * ht) rt && !cb rt.toNatClampNeg) = false then r = some (.int (-1)) ∧ h' = h else sm 0 46 h h' ∧ ((r = some (.int 0) ∧ ¬ AR w ht wx wy cb rt.toNatClampNeg ∧ CLS V h' w ht wx wy cb ch false D Z P) ∨ (AR w ht wx wy cb rt.toNatClampNeg ∧ ((r = some (.int 2) ∧ gOv w ht wx wy cb seed rt.toNatClampNeg ∧ CLS V h' w ht wx wy cb ch false D Z P) ∨ (r = some (.int 1) ∧ ∃ p k, gEn w ht wx wy cb seed rt.toNatClampNeg p k ∧ ∃ ch', ch ≤ ch' ∧ ch' ≤ ch + 290 ∧ CLS V h' w ht wx wy cb ch' true (nD w ht wx wy cb seed rt.toNatClampNeg p k) (nZ w ht wx wy cb seed rt.toNatClampNeg p) (rt.toNatClampNeg, 0, 0)))))) := by
  have C0 := C
  obtain ⟨⟨cut, bes, lead, pas, fr, B, G⟩, c2, -⟩ := C
  have hn := wh_lt G.1
  unfold iDk at c2
  refine ⟨Nat.le_of_ble_eq_true rfl, ?_⟩
  show aq_W _ _ 0 [some (.ref 0), some (.int seed), some (.int rt)] [] _ _ _
  simp only [s_X9_make_0, s_X9_make_1, s_X9_make_4, s_X9_make_5, aq_gI, aq_gL, aq_gA, aq_isA, aq_s1, aq_s2, aq_kill, aq_ob, aq_sm, aq_arI, aq_arB, aq_isB, aq_arL, aq_arA, aq_arN, aq_sh, Value.category, List.getElem?_cons_zero, List.getElem?_cons_succ, List.length_cons, List.length_nil, Option.toList_some, Option.toList_none, List.cons_append, List.nil_append, true_and, and_true, List.set_cons_zero, List.set_cons_succ, aq_n1, aq_n2, aq_n3, aq_n4, aq_f1, aq_f2, aq_f3, aq_f4, aq_gs, aq_ty1, aq_ty2, aq_ty3, aq_ty4, aq_ty5, Nat.reduceAdd, Nat.reduceLT, Nat.reduceEqDiff, Nat.reduceSub, if_true, if_false, ne_eq, not_false_eq_true, not_true_eq_false, Option.map_some, Option.map_none, Nat.zero_add, reduceCtorEq, Nat.reduceLeDiff, one_ne_zero_a, zero_ne_one_a, aq_nb, aq_nb1, aq_nb0, aq_fb, aq_fb1, aq_fb0, aq_ofN, bB_t, bB_f, bB_v, vpn_b1, vpn_b0, nI_1, Bool.true_eq_false, Bool.false_eq_true, Bool.true_and, Bool.false_and, Bool.and_true, Bool.and_false, c2, B.1]
  refine (t_isFree B G rt).use ?_
  rintro _ h ⟨rfl, rfl⟩
  cases e : (inC (w * ht) rt && !cb rt.toNatClampNeg) with
  | false =>
    simp only [s_X9_make_8, s_X9_make_11, s_X9_make_12, aq_gI, aq_gL, aq_gA, aq_isA, aq_s1, aq_s2, aq_kill, aq_ob, aq_sm, aq_arI, aq_arB, aq_isB, aq_arL, aq_arA, aq_arN, aq_sh, Value.category, List.getElem?_cons_zero, List.getElem?_cons_succ, List.length_cons, List.length_nil, Option.toList_some, Option.toList_none, List.cons_append, List.nil_append, true_and, and_true, List.set_cons_zero, List.set_cons_succ, aq_n1, aq_n2, aq_n3, aq_n4, aq_f1, aq_f2, aq_f3, aq_f4, aq_gs, aq_ty1, aq_ty2, aq_ty3, aq_ty4, aq_ty5, Nat.reduceAdd, Nat.reduceLT, Nat.reduceEqDiff, Nat.reduceSub, if_true, if_false, ne_eq, not_false_eq_true, not_true_eq_false, Option.map_some, Option.map_none, Nat.zero_add, reduceCtorEq, Nat.reduceLeDiff, one_ne_zero_a, zero_ne_one_a, aq_nb, aq_nb1, aq_nb0, aq_fb, aq_fb1, aq_fb0, aq_ofN, bB_t, bB_f, bB_v, vpn_b1, vpn_b0, nI_1, Bool.true_eq_false, Bool.false_eq_true, Bool.true_and, Bool.false_and, Bool.and_true, Bool.and_false]
    all_goals (first | trivial | exact ⟨rfl, rfl⟩ | exact ⟨rfl, trivial⟩ | exact ⟨rfl, rfl, trivial⟩ | rfl)
  | true =>
    obtain ⟨e1, e2⟩ := Bool.and_eq_true_iff.mp e
    rcases inC_cs (w * ht) rt (by omega) with q | ⟨root, hr, rfl⟩
    · rw [q] at e1; cases e1
    · rw [nI_clamp (by omega)] at e2 ⊢
      have hb : cb root = false := by simpa using e2
      simp only [s_X9_make_8, s_X9_make_13, s_X9_make_14, s_X9_make_15, s_X9_make_18, s_X9_make_19, s_X9_make_22, aq_gI, aq_gL, aq_gA, aq_isA, aq_s1, aq_s2, aq_kill, aq_ob, aq_sm, aq_arI, aq_arB, aq_isB, aq_arL, aq_arA, aq_arN, aq_sh, Value.category, List.getElem?_cons_zero, List.getElem?_cons_succ, List.length_cons, List.length_nil, Option.toList_some, Option.toList_none, List.cons_append, List.nil_append, true_and, and_true, List.set_cons_zero, List.set_cons_succ, aq_n1, aq_n2, aq_n3, aq_n4, aq_f1, aq_f2, aq_f3, aq_f4, aq_gs, aq_ty1, aq_ty2, aq_ty3, aq_ty4, aq_ty5, Nat.reduceAdd, Nat.reduceLT, Nat.reduceEqDiff, Nat.reduceSub, if_true, if_false, ne_eq, not_false_eq_true, not_true_eq_false, Option.map_some, Option.map_none, Nat.zero_add, reduceCtorEq, Nat.reduceLeDiff, one_ne_zero_a, zero_ne_one_a, aq_nb, aq_nb1, aq_nb0, aq_fb, aq_fb1, aq_fb0, aq_ofN, bB_t, bB_f, bB_v, vpn_b1, vpn_b0, nI_1, Bool.true_eq_false, Bool.false_eq_true, Bool.true_and, Bool.false_and, Bool.and_true, Bool.and_false, c2]
      have C1 := CLS_off (V' := V) C0
      have S1 : sm 0 46 h (h.set 0 (.inr (9, [.ref 1, .ref 6, .ref 13, .ref 32, .ref 37, .ref 40, .ref 41, .ref 45, .ref 46, .int 0]))) := (sm.rf _ _ _).st (by decide) (by decide)
      generalize h.set 0 (.inr (9, [.ref 1, .ref 6, .ref 13, .ref 32, .ref 37, .ref 40, .ref 41, .ref 45, .ref 46, .int 0])) = h1 at C1 S1 ⊢
      have C1' := C1
      obtain ⟨⟨cut, bes, lead, pas, fr, B, G⟩, c2, -, -, -, ⟨re, qu, ct, F⟩, -⟩ := C1
      unfold iDk at c2
      simp only [bB_f] at c2
      simp only [s_X9_make_23, aq_gI, aq_gL, aq_gA, aq_isA, aq_s1, aq_s2, aq_kill, aq_ob, aq_sm, aq_arI, aq_arB, aq_isB, aq_arL, aq_arA, aq_arN, aq_sh, Value.category, List.getElem?_cons_zero, List.getElem?_cons_succ, List.length_cons, List.length_nil, Option.toList_some, Option.toList_none, List.cons_append, List.nil_append, true_and, and_true, List.set_cons_zero, List.set_cons_succ, aq_n1, aq_n2, aq_n3, aq_n4, aq_f1, aq_f2, aq_f3, aq_f4, aq_gs, aq_ty1, aq_ty2, aq_ty3, aq_ty4, aq_ty5, Nat.reduceAdd, Nat.reduceLT, Nat.reduceEqDiff, Nat.reduceSub, if_true, if_false, ne_eq, not_false_eq_true, not_true_eq_false, Option.map_some, Option.map_none, Nat.zero_add, reduceCtorEq, Nat.reduceLeDiff, one_ne_zero_a, zero_ne_one_a, aq_nb, aq_nb1, aq_nb0, aq_fb, aq_fb1, aq_fb0, aq_ofN, bB_t, bB_f, bB_v, vpn_b1, vpn_b0, nI_1, Bool.true_eq_false, Bool.false_eq_true, Bool.true_and, Bool.false_and, Bool.and_true, Bool.and_false, F.1]
      refine (t_spreadByWays F B G hr).use ?_
      rintro _ h2 ⟨u, q, re2, qu2, ct2, F2, gf, S2, hu, rfl⟩
      have C2 := CLS_fl C1' S2 ⟨_, _, _, F2⟩
      have C2' := C2
      have har := AR_frc G.1 hr hb hu
      obtain ⟨⟨cut, bes, lead, pas, fr, B, G⟩, c2, ⟨ways, wc, xs, tops, pops, marks, ci, T, -⟩, -, -, -, -⟩ := C2
      unfold iDk at c2
      simp only [bB_f] at c2
      have hf1 := frc_le u (w * ht)
      have hf2 := frc_le cb (w * ht)
      simp only [s_X9_make_26, s_X9_make_27, s_X9_make_30, aq_gI, aq_gL, aq_gA, aq_isA, aq_s1, aq_s2, aq_kill, aq_ob, aq_sm, aq_arI, aq_arB, aq_isB, aq_arL, aq_arA, aq_arN, aq_sh, Value.category, List.getElem?_cons_zero, List.getElem?_cons_succ, List.length_cons, List.length_nil, Option.toList_some, Option.toList_none, List.cons_append, List.nil_append, true_and, and_true, List.set_cons_zero, List.set_cons_succ, aq_n1, aq_n2, aq_n3, aq_n4, aq_f1, aq_f2, aq_f3, aq_f4, aq_gs, aq_ty1, aq_ty2, aq_ty3, aq_ty4, aq_ty5, Nat.reduceAdd, Nat.reduceLT, Nat.reduceEqDiff, Nat.reduceSub, if_true, if_false, ne_eq, not_false_eq_true, not_true_eq_false, Option.map_some, Option.map_none, Nat.zero_add, reduceCtorEq, Nat.reduceLeDiff, one_ne_zero_a, zero_ne_one_a, aq_nb, aq_nb1, aq_nb0, aq_fb, aq_fb1, aq_fb0, aq_ofN, bB_t, bB_f, bB_v, vpn_b1, vpn_b0, nI_1, Bool.true_eq_false, Bool.false_eq_true, Bool.true_and, Bool.false_and, Bool.and_true, Bool.and_false, c2, B.1]
      refine (t_freeCells B).use ?_
      rintro _ h2 ⟨rfl, rfl⟩
      rw [G.2.2.2.2.2]
      by_cases hA : AR w ht wx wy cb root
      · have hge : nI (frc cb (w * ht)) ≤ nI (frc u (w * ht)) := nI_le (by rcases Nat.lt_or_ge (frc u (w * ht)) (frc cb (w * ht)) with z | z; exact absurd hA (har.mp z); exact z) (by omega)
        have hcn : ∀ c, SS w ht cb root c → 0 < (wyl w ht wx wy cb c).length := fun c hc => (Rc_nx G.1 hr hb (hA c hc.1 hc.2.1)).2 hc.2.2
        simp only [s_X9_make_33, s_X9_make_38, s_X9_make_39, s_X9_make_42, s_X9_make_43, s_X9_make_44, aq_gI, aq_gL, aq_gA, aq_isA, aq_s1, aq_s2, aq_kill, aq_ob, aq_sm, aq_arI, aq_arB, aq_isB, aq_arL, aq_arA, aq_arN, aq_sh, Value.category, List.getElem?_cons_zero, List.getElem?_cons_succ, List.length_cons, List.length_nil, Option.toList_some, Option.toList_none, List.cons_append, List.nil_append, true_and, and_true, List.set_cons_zero, List.set_cons_succ, aq_n1, aq_n2, aq_n3, aq_n4, aq_f1, aq_f2, aq_f3, aq_f4, aq_gs, aq_ty1, aq_ty2, aq_ty3, aq_ty4, aq_ty5, Nat.reduceAdd, Nat.reduceLT, Nat.reduceEqDiff, Nat.reduceSub, if_true, if_false, ne_eq, not_false_eq_true, not_true_eq_false, Option.map_some, Option.map_none, Nat.zero_add, reduceCtorEq, Nat.reduceLeDiff, one_ne_zero_a, zero_ne_one_a, aq_nb, aq_nb1, aq_nb0, aq_fb, aq_fb1, aq_fb0, aq_ofN, bB_t, bB_f, bB_v, vpn_b1, vpn_b0, nI_1, Bool.true_eq_false, Bool.false_eq_true, Bool.true_and, Bool.false_and, Bool.and_true, Bool.and_false, hge, c2, T.1]
        refine (t_settle T B G hr hcn seed).use ?_
        rintro _ h3 ⟨S3, ways3, wc3, xs3, tops3, pops3, marks3, ci3, T3, pp⟩
        have C3 := CLS_st C2' S3 T3
        have S13 := (S1.tr (S2.mo (by decide) (by decide))).tr (S3.mo (show 0 ≤ 6 by decide) (show 12 ≤ 46 by decide))
        rcases pp with ⟨rfl, p, mkf, k, rfl, g3, en⟩ | ⟨rfl, ov⟩
        · have C3' := C3
          obtain ⟨⟨cut, bes, lead, pas, fr, B, G⟩, c2, -, c4, ⟨op, dk, od, kc, st, ex, M, -⟩, c6, c7, c8, ⟨w1, w2, w3, W, -⟩, c10, -⟩ := C3
          unfold iDk at c2
          simp only [bB_f] at c2
          simp only [s_X9_make_47, s_X9_make_52, s_X9_make_53, s_X9_make_56, s_X9_make_57, s_X9_make_60, s_X9_make_61, aq_gI, aq_gL, aq_gA, aq_isA, aq_s1, aq_s2, aq_kill, aq_ob, aq_sm, aq_arI, aq_arB, aq_isB, aq_arL, aq_arA, aq_arN, aq_sh, Value.category, List.getElem?_cons_zero, List.getElem?_cons_succ, List.length_cons, List.length_nil, Option.toList_some, Option.toList_none, List.cons_append, List.nil_append, true_and, and_true, List.set_cons_zero, List.set_cons_succ, aq_n1, aq_n2, aq_n3, aq_n4, aq_f1, aq_f2, aq_f3, aq_f4, aq_gs, aq_ty1, aq_ty2, aq_ty3, aq_ty4, aq_ty5, Nat.reduceAdd, Nat.reduceLT, Nat.reduceEqDiff, Nat.reduceSub, if_true, if_false, ne_eq, not_false_eq_true, not_true_eq_false, Option.map_some, Option.map_none, Nat.zero_add, reduceCtorEq, Nat.reduceLeDiff, one_ne_zero_a, zero_ne_one_a, aq_nb, aq_nb1, aq_nb0, aq_fb, aq_fb1, aq_fb0, aq_ofN, bB_t, bB_f, bB_v, vpn_b1, vpn_b0, nI_1, Bool.true_eq_false, Bool.false_eq_true, Bool.true_and, Bool.false_and, Bool.and_true, Bool.and_false, c2, M.1]
          refine (t_layOut M T3 B G hr hcn g3).use ?_
          rintro _ h4 ⟨rfl, S4, op4, dk4, od4, kc4, M4, g4⟩
          have c24 := (S4 0 (by decide)).trans c2
          have W4 : iWk h4 w1 w2 w3 := (S4 45 (by decide)).trans W
          have W4' := W4
          unfold iWk at W4'
          simp only [s_X9_make_64, s_X9_make_65, s_X9_make_68, aq_gI, aq_gL, aq_gA, aq_isA, aq_s1, aq_s2, aq_kill, aq_ob, aq_sm, aq_arI, aq_arB, aq_isB, aq_arL, aq_arA, aq_arN, aq_sh, Value.category, List.getElem?_cons_zero, List.getElem?_cons_succ, List.length_cons, List.length_nil, Option.toList_some, Option.toList_none, List.cons_append, List.nil_append, true_and, and_true, List.set_cons_zero, List.set_cons_succ, aq_n1, aq_n2, aq_n3, aq_n4, aq_f1, aq_f2, aq_f3, aq_f4, aq_gs, aq_ty1, aq_ty2, aq_ty3, aq_ty4, aq_ty5, Nat.reduceAdd, Nat.reduceLT, Nat.reduceEqDiff, Nat.reduceSub, if_true, if_false, ne_eq, not_false_eq_true, not_true_eq_false, Option.map_some, Option.map_none, Nat.zero_add, reduceCtorEq, Nat.reduceLeDiff, one_ne_zero_a, zero_ne_one_a, aq_nb, aq_nb1, aq_nb0, aq_fb, aq_fb1, aq_fb0, aq_ofN, bB_t, bB_f, bB_v, vpn_b1, vpn_b0, nI_1, Bool.true_eq_false, Bool.false_eq_true, Bool.true_and, Bool.false_and, Bool.and_true, Bool.and_false, c24, W4']
          refine (t_begin M4 W4).use ?_
          rintro _ h5 ⟨rfl, rfl⟩
          simp only [s_X9_make_71, s_X9_make_72, s_X9_make_73, s_X9_make_76, s_X9_make_77, aq_gI, aq_gL, aq_gA, aq_isA, aq_s1, aq_s2, aq_kill, aq_ob, aq_sm, aq_arI, aq_arB, aq_isB, aq_arL, aq_arA, aq_arN, aq_sh, Value.category, List.getElem?_cons_zero, List.getElem?_cons_succ, List.length_cons, List.length_nil, Option.toList_some, Option.toList_none, List.cons_append, List.nil_append, true_and, and_true, List.set_cons_zero, List.set_cons_succ, aq_n1, aq_n2, aq_n3, aq_n4, aq_f1, aq_f2, aq_f3, aq_f4, aq_gs, aq_ty1, aq_ty2, aq_ty3, aq_ty4, aq_ty5, Nat.reduceAdd, Nat.reduceLT, Nat.reduceEqDiff, Nat.reduceSub, if_true, if_false, ne_eq, not_false_eq_true, not_true_eq_false, Option.map_some, Option.map_none, Nat.zero_add, reduceCtorEq, Nat.reduceLeDiff, one_ne_zero_a, zero_ne_one_a, aq_nb, aq_nb1, aq_nb0, aq_fb, aq_fb1, aq_fb0, aq_ofN, bB_t, bB_f, bB_v, vpn_b1, vpn_b0, nI_1, Bool.true_eq_false, Bool.false_eq_true, Bool.true_and, Bool.false_and, Bool.and_true, Bool.and_false, c24]
          have hk0 : km kc4 (nI root) = 0 := by
            unfold km
            have : ∀ k, k < 4 → ¬ kc4 k = nI root := fun k hk z => nI_ne_m1 (show root < 2 ^ 31 by omega) (by rw [← z, (g4.2.2.2 k hk).1]; rfl)
            simp only [this 0 (by decide), this 1 (by decide), this 2 (by decide), this 3 (by decide), if_false]
          rw [hk0]
          have S5 : sm 45 45 h4 (h4.set 45 (.inr (8, [.ref 32, .int (nI root), .int (nI 0), .int 0]))) := (sm.rf _ _ _).st (by decide) (by decide)
          have W5 : iWk (h4.set 45 (.inr (8, [.ref 32, .int (nI root), .int (nI 0), .int 0]))) (nI root) (nI 0) 0 := by unfold iWk; simp only [aq_gI, aq_gL, aq_gA, aq_isA, aq_s1, aq_s2, aq_kill, aq_ob, aq_sm, aq_arI, aq_arB, aq_isB, aq_arL, aq_arA, aq_arN, aq_sh, Value.category, List.getElem?_cons_zero, List.getElem?_cons_succ, List.length_cons, List.length_nil, Option.toList_some, Option.toList_none, List.cons_append, List.nil_append, true_and, and_true, List.set_cons_zero, List.set_cons_succ, aq_n1, aq_n2, aq_n3, aq_n4, aq_f1, aq_f2, aq_f3, aq_f4, aq_gs, aq_ty1, aq_ty2, aq_ty3, aq_ty4, aq_ty5, Nat.reduceAdd, Nat.reduceLT, Nat.reduceEqDiff, Nat.reduceSub, if_true, if_false, ne_eq, not_false_eq_true, not_true_eq_false, Option.map_some, Option.map_none, Nat.zero_add, reduceCtorEq, Nat.reduceLeDiff, one_ne_zero_a, zero_ne_one_a, W4']
          have c25 := (S5 0 (by decide)).trans c24
          generalize h4.set 45 (.inr (8, [.ref 32, .int (nI root), .int (nI 0), .int 0])) = h5 at S5 W5 c25 ⊢
          have S6 : sm 0 0 h5 (h5.set 0 (.inr (9, [.ref 1, .ref 6, .ref 13, .ref 32, .ref 37, .ref 40, .ref 41, .ref 45, .ref 46, .int 1]))) := (sm.rf _ _ _).st (by decide) (by decide)
          refine ⟨((S13.tr (S4.mo (by decide) (by decide))).tr (S5.mo (by decide) (by decide))).tr (S6.mo (by decide) (by decide)), Or.inr ⟨hA, Or.inr ⟨p, k, en, ch + w * ht * 2 + 2, by omega, by omega, ?_⟩⟩⟩
          refine ⟨⟨_, _, _, _, _, ((B.sm S4 (by omega)).sm S5 (by omega)).sm S6 (by omega), G⟩, ?_, ⟨_, _, _, _, _, _, _, ((T3.sm S4 (by omega)).sm S5 (by omega)).sm S6 (by omega), fun _ => ⟨fun c hc hcb => ?_, rfl⟩⟩, ((c4.sm S4 (by omega)).sm S5 (by omega)).sm S6 (by omega), ⟨op4, dk4, od4, kc4, nI root, -1, (M4.sm S5 (by omega)).sm S6 (by omega), fun _ => ⟨g4, rfl, rfl⟩⟩, ((c6.sm S4 (by omega)).sm S5 (by omega)).sm S6 (by omega), ((c7.sm S4 (by omega)).sm S5 (by omega)).sm S6 (by omega), (((c8.sm S4 (by omega)).sm S5 (by omega)).sm S6 (by omega)).up (by omega), ⟨nI root, nI 0, 0, (S6 45 (by decide)).trans W5, fun _ => ⟨rfl, rfl, rfl⟩⟩, ((c10.sm S4 (by omega)).sm S5 (by omega)).sm S6 (by omega), fun _ => ⟨⟨hr, hb⟩, fun e he => (by cases he), fun k c hk he => (by cases he), ⟨hr, hb⟩, (by decide : 0 < 16)⟩⟩
          · unfold iDk
            rw [aq_gs, if_pos rfl, c25]
            rfl
          · refine ⟨?_, g3.2.2.2.1 c hc hcb⟩
            by_cases z : c = root
            · rw [z, g3.2.2.1]
              simp only [nD, if_true, oI]
            · rw [(g3.2.1 c ⟨hc, hcb, z⟩).2]
              simp only [nD, z, if_false, oI]
        · simp only [s_X9_make_47, s_X9_make_50, s_X9_make_51, aq_gI, aq_gL, aq_gA, aq_isA, aq_s1, aq_s2, aq_kill, aq_ob, aq_sm, aq_arI, aq_arB, aq_isB, aq_arL, aq_arA, aq_arN, aq_sh, Value.category, List.getElem?_cons_zero, List.getElem?_cons_succ, List.length_cons, List.length_nil, Option.toList_some, Option.toList_none, List.cons_append, List.nil_append, true_and, and_true, List.set_cons_zero, List.set_cons_succ, aq_n1, aq_n2, aq_n3, aq_n4, aq_f1, aq_f2, aq_f3, aq_f4, aq_gs, aq_ty1, aq_ty2, aq_ty3, aq_ty4, aq_ty5, Nat.reduceAdd, Nat.reduceLT, Nat.reduceEqDiff, Nat.reduceSub, if_true, if_false, ne_eq, not_false_eq_true, not_true_eq_false, Option.map_some, Option.map_none, Nat.zero_add, reduceCtorEq, Nat.reduceLeDiff, one_ne_zero_a, zero_ne_one_a, aq_nb, aq_nb1, aq_nb0, aq_fb, aq_fb1, aq_fb0, aq_ofN, bB_t, bB_f, bB_v, vpn_b1, vpn_b0, nI_1, Bool.true_eq_false, Bool.false_eq_true, Bool.true_and, Bool.false_and, Bool.and_true, Bool.and_false]
          exact ⟨S13, Or.inr ⟨hA, Or.inl ⟨ov, C3⟩⟩⟩
      · have hlt : ¬ nI (frc cb (w * ht)) ≤ nI (frc u (w * ht)) := nI_ge (har.mpr hA) (by omega)
        simp only [s_X9_make_33, s_X9_make_36, s_X9_make_37, aq_gI, aq_gL, aq_gA, aq_isA, aq_s1, aq_s2, aq_kill, aq_ob, aq_sm, aq_arI, aq_arB, aq_isB, aq_arL, aq_arA, aq_arN, aq_sh, Value.category, List.getElem?_cons_zero, List.getElem?_cons_succ, List.length_cons, List.length_nil, Option.toList_some, Option.toList_none, List.cons_append, List.nil_append, true_and, and_true, List.set_cons_zero, List.set_cons_succ, aq_n1, aq_n2, aq_n3, aq_n4, aq_f1, aq_f2, aq_f3, aq_f4, aq_gs, aq_ty1, aq_ty2, aq_ty3, aq_ty4, aq_ty5, Nat.reduceAdd, Nat.reduceLT, Nat.reduceEqDiff, Nat.reduceSub, if_true, if_false, ne_eq, not_false_eq_true, not_true_eq_false, Option.map_some, Option.map_none, Nat.zero_add, reduceCtorEq, Nat.reduceLeDiff, one_ne_zero_a, zero_ne_one_a, aq_nb, aq_nb1, aq_nb0, aq_fb, aq_fb1, aq_fb0, aq_ofN, bB_t, bB_f, bB_v, vpn_b1, vpn_b0, nI_1, Bool.true_eq_false, Bool.false_eq_true, Bool.true_and, Bool.false_and, Bool.and_true, Bool.and_false, hlt]
        exact ⟨S1.tr (S2.mo (by decide) (by decide)), Or.inl ⟨hA, C2'⟩⟩
end MAK
