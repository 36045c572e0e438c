/-! the desk is made -/
section INK
variable {h h' : aq_H} {V : mzT → Int32 → (Nat → Int32) → (Nat → Int32) → Int32 → Prop} {D : drT} {Z : mzT} {P : plT}
theorem x_init (hl : h.length = 1) (h0 : h[0]? = some (.inr (9, [.null, .null, .null, .null, .null, .null, .null, .null, .null, .int 0]))) (x y z : Int32) : aq_T e_X9_init 4 46 11701 [.ref 0, .int x, .int y, .int z] h (fun r h' => r = none ∧ h'.length = 47 ∧ CLS V h' (cW x) (cW y) (wX z) (wY z) (fun _ => false) 0 false D Z P) := by
  have hn : cW x * cW y ≤ 144 := (wh_lt ⟨(cW_bd x).1, (cW_bd x).2, (cW_bd y).1, (cW_bd y).2⟩).2
  refine ⟨Nat.le_of_ble_eq_true rfl, ?_⟩
  show aq_W _ _ 0 [some (.ref 0), some (.int x), some (.int y), some (.int z)] [] _ _ _
  generalize hQ : (fun (r : Option Value) (h' : aq_H) => r = none ∧ h'.length = 47 ∧ CLS V h' (cW x) (cW y) (wX z) (wY z) (fun _ => false) 0 false D Z P) = Q
  have L1 : (h ++ [(.inr (0, [.int 0, .int 0, .int 0, .null, .null, .null, .null, .int 0]))] : aq_H).length = 2 := by rw [ap_l, hl]
  have F1 : (h ++ [(.inr (0, [.int 0, .int 0, .int 0, .null, .null, .null, .null, .int 0]))] : aq_H)[1]? = some (.inr (0, [.int 0, .int 0, .int 0, .null, .null, .null, .null, .int 0])) := by rw [ap_g, hl, if_pos rfl]
  have O1 : (h ++ [(.inr (0, [.int 0, .int 0, .int 0, .null, .null, .null, .null, .int 0]))] : aq_H)[0]? = some (.inr (9, [.null, .null, .null, .null, .null, .null, .null, .null, .null, .int 0])) := by rw [ap_g, hl, if_neg (by decide)]; exact h0
  simp only [s_X9_init_0, s_X9_init_1, s_X9_init_4, s_X9_init_5, s_X9_init_8, s_X9_init_9, s_X9_init_10, s_X9_init_11, s_X9_init_12, aq_gI, aq_gL, aq_gA, aq_isA, aq_s1, aq_s2, aq_kill, aq_ob, aq_sm, aq_arI, aq_arB, aq_isB, aq_arL, aq_arA, aq_arN, aq_sh, Value.category, List.getElem?_cons_zero, List.getElem?_cons_succ, List.length_cons, List.length_nil, Option.toList_some, Option.toList_none, List.cons_append, List.nil_append, true_and, and_true, List.set_cons_zero, List.set_cons_succ, aq_n1, aq_n2, aq_n3, aq_n4, aq_f1, aq_f2, aq_f3, aq_f4, aq_gs, aq_ty1, aq_ty2, aq_ty3, aq_ty4, aq_ty5, Nat.reduceAdd, Nat.reduceLT, Nat.reduceEqDiff, Nat.reduceSub, if_true, if_false, ne_eq, not_false_eq_true, not_true_eq_false, Option.map_some, Option.map_none, Nat.zero_add, reduceCtorEq, Nat.reduceLeDiff, one_ne_zero_a, zero_ne_one_a, aq_nb, aq_nb1, aq_nb0, aq_fb, aq_fb1, aq_fb0, aq_ofN, bB_t, bB_f, bB_v, vpn_b1, vpn_b0, nI_1, Bool.true_eq_false, Bool.false_eq_true, Bool.true_and, Bool.false_and, Bool.and_true, Bool.and_false, h0, ap_g, ap_l, hl]
  refine (t_board L1 F1 x y z).use ?_
  rintro _ h1 ⟨rfl, l1, S1, K_board⟩
  have o1 := (S1 0 (by decide)).trans O1
  have T2 : sm 0 0 h1 (h1.set 0 (.inr (9, [.ref 1, .null, .null, .null, .null, .null, .null, .null, .null, .int 0]))) := (sm.rf _ _ _).st (Nat.le_refl _) (Nat.le_refl _)
  have U2 : sm 6 6 (h1.set 0 (.inr (9, [.ref 1, .null, .null, .null, .null, .null, .null, .null, .null, .int 0]))) (h1.set 0 (.inr (9, [.ref 1, .null, .null, .null, .null, .null, .null, .null, .null, .int 0])) ++ [(.inr (6, [.null, .null, .null, .null, .null, .null, .null, .int 0]))] : aq_H) := (sm.rf _ _ _).ap (by rw [List.length_set, l1]) (Nat.le_refl _) (Nat.le_refl _)
  have L2 : (h1.set 0 (.inr (9, [.ref 1, .null, .null, .null, .null, .null, .null, .null, .null, .int 0])) ++ [(.inr (6, [.null, .null, .null, .null, .null, .null, .null, .int 0]))] : aq_H).length = 7 := by rw [ap_l, List.length_set, l1]
  have F2 : (h1.set 0 (.inr (9, [.ref 1, .null, .null, .null, .null, .null, .null, .null, .null, .int 0])) ++ [(.inr (6, [.null, .null, .null, .null, .null, .null, .null, .int 0]))] : aq_H)[6]? = some (.inr (6, [.null, .null, .null, .null, .null, .null, .null, .int 0])) := by rw [ap_g, List.length_set, l1, if_pos rfl]
  have O2 : (h1.set 0 (.inr (9, [.ref 1, .null, .null, .null, .null, .null, .null, .null, .null, .int 0])) ++ [(.inr (6, [.null, .null, .null, .null, .null, .null, .null, .int 0]))] : aq_H)[0]? = some (.inr (9, [.ref 1, .null, .null, .null, .null, .null, .null, .null, .null, .int 0])) := by rw [ap_g, List.length_set, l1, if_neg (by decide), aq_gs, if_pos rfl, o1]; rfl
  have K_board := (K_board.sm T2 (by omega)).sm U2 (by omega)
  obtain ⟨cut2, bes2, lead2, pas2, fr2, B, G2⟩ := id K_board
  simp only [s_X9_init_15, s_X9_init_18, s_X9_init_19, s_X9_init_22, s_X9_init_23, s_X9_init_24, s_X9_init_27, aq_gI, aq_gL, aq_gA, aq_isA, aq_s1, aq_s2, aq_kill, aq_ob, aq_sm, aq_arI, aq_arB, aq_isB, aq_arL, aq_arA, aq_arN, aq_sh, Value.category, List.getElem?_cons_zero, List.getElem?_cons_succ, List.length_cons, List.length_nil, Option.toList_some, Option.toList_none, List.cons_append, List.nil_append, true_and, and_true, List.set_cons_zero, List.set_cons_succ, aq_n1, aq_n2, aq_n3, aq_n4, aq_f1, aq_f2, aq_f3, aq_f4, aq_gs, aq_ty1, aq_ty2, aq_ty3, aq_ty4, aq_ty5, Nat.reduceAdd, Nat.reduceLT, Nat.reduceEqDiff, Nat.reduceSub, if_true, if_false, ne_eq, not_false_eq_true, not_true_eq_false, Option.map_some, Option.map_none, Nat.zero_add, reduceCtorEq, Nat.reduceLeDiff, one_ne_zero_a, zero_ne_one_a, aq_nb, aq_nb1, aq_nb0, aq_fb, aq_fb1, aq_fb0, aq_ofN, bB_t, bB_f, bB_v, vpn_b1, vpn_b0, nI_1, Bool.true_eq_false, Bool.false_eq_true, Bool.true_and, Bool.false_and, Bool.and_true, Bool.and_false, o1, ap_g, ap_l, List.length_set, l1]
  refine (t_stacks L2 F2 B hn).use ?_
  rintro _ h2 ⟨rfl, l2, S2, K_stacks⟩
  have o2 := (S2 0 (by decide)).trans O2
  have K_board := K_board.sm S2 (by omega)
  have K_stacks : cSt h2 (cW x * cW y) (fun _ => false) false D := by
    obtain ⟨q1, q2, q3, q4, q5, q6, q7, K⟩ := K_stacks
    exact ⟨q1, q2, q3, q4, q5, q6, q7, K, fun z => by cases z⟩
  have T3 : sm 0 0 h2 (h2.set 0 (.inr (9, [.ref 1, .ref 6, .null, .null, .null, .null, .null, .null, .null, .int 0]))) := (sm.rf _ _ _).st (Nat.le_refl _) (Nat.le_refl _)
  have U3 : sm 13 13 (h2.set 0 (.inr (9, [.ref 1, .ref 6, .null, .null, .null, .null, .null, .null, .null, .int 0]))) (h2.set 0 (.inr (9, [.ref 1, .ref 6, .null, .null, .null, .null, .null, .null, .null, .int 0])) ++ [(.inr (7, [.null, .null, .null]))] : aq_H) := (sm.rf _ _ _).ap (by rw [List.length_set, l2]) (Nat.le_refl _) (Nat.le_refl _)
  have L3 : (h2.set 0 (.inr (9, [.ref 1, .ref 6, .null, .null, .null, .null, .null, .null, .null, .int 0])) ++ [(.inr (7, [.null, .null, .null]))] : aq_H).length = 14 := by rw [ap_l, List.length_set, l2]
  have F3 : (h2.set 0 (.inr (9, [.ref 1, .ref 6, .null, .null, .null, .null, .null, .null, .null, .int 0])) ++ [(.inr (7, [.null, .null, .null]))] : aq_H)[13]? = some (.inr (7, [.null, .null, .null])) := by rw [ap_g, List.length_set, l2, if_pos rfl]
  have O3 : (h2.set 0 (.inr (9, [.ref 1, .ref 6, .null, .null, .null, .null, .null, .null, .null, .int 0])) ++ [(.inr (7, [.null, .null, .null]))] : aq_H)[0]? = some (.inr (9, [.ref 1, .ref 6, .null, .null, .null, .null, .null, .null, .null, .int 0])) := by rw [ap_g, List.length_set, l2, if_neg (by decide), aq_gs, if_pos rfl, o2]; rfl
  have K_board := (K_board.sm T3 (by omega)).sm U3 (by omega)
  have K_stacks := (K_stacks.sm T3 (by omega)).sm U3 (by omega)
  obtain ⟨cut3, bes3, lead3, pas3, fr3, B, G3⟩ := id K_board
  simp only [s_X9_init_30, s_X9_init_33, s_X9_init_34, s_X9_init_37, s_X9_init_38, s_X9_init_39, s_X9_init_42, aq_gI, aq_gL, aq_gA, aq_isA, aq_s1, aq_s2, aq_kill, aq_ob, aq_sm, aq_arI, aq_arB, aq_isB, aq_arL, aq_arA, aq_arN, aq_sh, Value.category, List.getElem?_cons_zero, List.getElem?_cons_succ, List.length_cons, List.length_nil, Option.toList_some, Option.toList_none, List.cons_append, List.nil_append, true_and, and_true, List.set_cons_zero, List.set_cons_succ, aq_n1, aq_n2, aq_n3, aq_n4, aq_f1, aq_f2, aq_f3, aq_f4, aq_gs, aq_ty1, aq_ty2, aq_ty3, aq_ty4, aq_ty5, Nat.reduceAdd, Nat.reduceLT, Nat.reduceEqDiff, Nat.reduceSub, if_true, if_false, ne_eq, not_false_eq_true, not_true_eq_false, Option.map_some, Option.map_none, Nat.zero_add, reduceCtorEq, Nat.reduceLeDiff, one_ne_zero_a, zero_ne_one_a, aq_nb, aq_nb1, aq_nb0, aq_fb, aq_fb1, aq_fb0, aq_ofN, bB_t, bB_f, bB_v, vpn_b1, vpn_b0, nI_1, Bool.true_eq_false, Bool.false_eq_true, Bool.true_and, Bool.false_and, Bool.and_true, Bool.and_false, o2, ap_g, ap_l, List.length_set, l2]
  refine (t_treeCount L3 F3 B hn).use ?_
  rintro _ h3 ⟨rfl, l3, S3, K_tree⟩
  have o3 := (S3 0 (by decide)).trans O3
  have K_board := K_board.sm S3 (by omega)
  have K_stacks := K_stacks.sm S3 (by omega)
  have T4 : sm 0 0 h3 (h3.set 0 (.inr (9, [.ref 1, .ref 6, .ref 13, .null, .null, .null, .null, .null, .null, .int 0]))) := (sm.rf _ _ _).st (Nat.le_refl _) (Nat.le_refl _)
  have U4 : sm 32 32 (h3.set 0 (.inr (9, [.ref 1, .ref 6, .ref 13, .null, .null, .null, .null, .null, .null, .int 0]))) (h3.set 0 (.inr (9, [.ref 1, .ref 6, .ref 13, .null, .null, .null, .null, .null, .null, .int 0])) ++ [(.inr (3, [.null, .null, .null, .null, .null, .int 0, .int 0, .int 0]))] : aq_H) := (sm.rf _ _ _).ap (by rw [List.length_set, l3]) (Nat.le_refl _) (Nat.le_refl _)
  have L4 : (h3.set 0 (.inr (9, [.ref 1, .ref 6, .ref 13, .null, .null, .null, .null, .null, .null, .int 0])) ++ [(.inr (3, [.null, .null, .null, .null, .null, .int 0, .int 0, .int 0]))] : aq_H).length = 33 := by rw [ap_l, List.length_set, l3]
  have F4 : (h3.set 0 (.inr (9, [.ref 1, .ref 6, .ref 13, .null, .null, .null, .null, .null, .null, .int 0])) ++ [(.inr (3, [.null, .null, .null, .null, .null, .int 0, .int 0, .int 0]))] : aq_H)[32]? = some (.inr (3, [.null, .null, .null, .null, .null, .int 0, .int 0, .int 0])) := by rw [ap_g, List.length_set, l3, if_pos rfl]
  have O4 : (h3.set 0 (.inr (9, [.ref 1, .ref 6, .ref 13, .null, .null, .null, .null, .null, .null, .int 0])) ++ [(.inr (3, [.null, .null, .null, .null, .null, .int 0, .int 0, .int 0]))] : aq_H)[0]? = some (.inr (9, [.ref 1, .ref 6, .ref 13, .null, .null, .null, .null, .null, .null, .int 0])) := by rw [ap_g, List.length_set, l3, if_neg (by decide), aq_gs, if_pos rfl, o3]; rfl
  have K_board := (K_board.sm T4 (by omega)).sm U4 (by omega)
  have K_stacks := (K_stacks.sm T4 (by omega)).sm U4 (by omega)
  have K_tree := (K_tree.sm T4 (by omega)).sm U4 (by omega)
  obtain ⟨cut4, bes4, lead4, pas4, fr4, B, G4⟩ := id K_board
  simp only [s_X9_init_45, s_X9_init_48, s_X9_init_49, s_X9_init_52, s_X9_init_53, s_X9_init_54, s_X9_init_57, aq_gI, aq_gL, aq_gA, aq_isA, aq_s1, aq_s2, aq_kill, aq_ob, aq_sm, aq_arI, aq_arB, aq_isB, aq_arL, aq_arA, aq_arN, aq_sh, Value.category, List.getElem?_cons_zero, List.getElem?_cons_succ, List.length_cons, List.length_nil, Option.toList_some, Option.toList_none, List.cons_append, List.nil_append, true_and, and_true, List.set_cons_zero, List.set_cons_succ, aq_n1, aq_n2, aq_n3, aq_n4, aq_f1, aq_f2, aq_f3, aq_f4, aq_gs, aq_ty1, aq_ty2, aq_ty3, aq_ty4, aq_ty5, Nat.reduceAdd, Nat.reduceLT, Nat.reduceEqDiff, Nat.reduceSub, if_true, if_false, ne_eq, not_false_eq_true, not_true_eq_false, Option.map_some, Option.map_none, Nat.zero_add, reduceCtorEq, Nat.reduceLeDiff, one_ne_zero_a, zero_ne_one_a, aq_nb, aq_nb1, aq_nb0, aq_fb, aq_fb1, aq_fb0, aq_ofN, bB_t, bB_f, bB_v, vpn_b1, vpn_b0, nI_1, Bool.true_eq_false, Bool.false_eq_true, Bool.true_and, Bool.false_and, Bool.and_true, Bool.and_false, o3, ap_g, ap_l, List.length_set, l3]
  refine (t_maze L4 F4 B hn).use ?_
  rintro _ h4 ⟨rfl, l4, S4, K_maze⟩
  have o4 := (S4 0 (by decide)).trans O4
  have K_board := K_board.sm S4 (by omega)
  have K_stacks := K_stacks.sm S4 (by omega)
  have K_tree := K_tree.sm S4 (by omega)
  have K_maze : cMz h4 (cW x * cW y * 2) false Z 0 := by
    obtain ⟨q1, q2, q3, q4, K⟩ := K_maze
    exact ⟨q1, q2, q3, q4, _, _, K, fun z => by cases z⟩
  have T5 : sm 0 0 h4 (h4.set 0 (.inr (9, [.ref 1, .ref 6, .ref 13, .ref 32, .null, .null, .null, .null, .null, .int 0]))) := (sm.rf _ _ _).st (Nat.le_refl _) (Nat.le_refl _)
  have U5 : sm 37 37 (h4.set 0 (.inr (9, [.ref 1, .ref 6, .ref 13, .ref 32, .null, .null, .null, .null, .null, .int 0]))) (h4.set 0 (.inr (9, [.ref 1, .ref 6, .ref 13, .ref 32, .null, .null, .null, .null, .null, .int 0])) ++ [(.inr (1, [.null, .null, .null, .null, .int 0]))] : aq_H) := (sm.rf _ _ _).ap (by rw [List.length_set, l4]) (Nat.le_refl _) (Nat.le_refl _)
  have L5 : (h4.set 0 (.inr (9, [.ref 1, .ref 6, .ref 13, .ref 32, .null, .null, .null, .null, .null, .int 0])) ++ [(.inr (1, [.null, .null, .null, .null, .int 0]))] : aq_H).length = 38 := by rw [ap_l, List.length_set, l4]
  have F5 : (h4.set 0 (.inr (9, [.ref 1, .ref 6, .ref 13, .ref 32, .null, .null, .null, .null, .null, .int 0])) ++ [(.inr (1, [.null, .null, .null, .null, .int 0]))] : aq_H)[37]? = some (.inr (1, [.null, .null, .null, .null, .int 0])) := by rw [ap_g, List.length_set, l4, if_pos rfl]
  have O5 : (h4.set 0 (.inr (9, [.ref 1, .ref 6, .ref 13, .ref 32, .null, .null, .null, .null, .null, .int 0])) ++ [(.inr (1, [.null, .null, .null, .null, .int 0]))] : aq_H)[0]? = some (.inr (9, [.ref 1, .ref 6, .ref 13, .ref 32, .null, .null, .null, .null, .null, .int 0])) := by rw [ap_g, List.length_set, l4, if_neg (by decide), aq_gs, if_pos rfl, o4]; rfl
  have K_board := (K_board.sm T5 (by omega)).sm U5 (by omega)
  have K_stacks := (K_stacks.sm T5 (by omega)).sm U5 (by omega)
  have K_tree := (K_tree.sm T5 (by omega)).sm U5 (by omega)
  have K_maze := (K_maze.sm T5 (by omega)).sm U5 (by omega)
  obtain ⟨cut5, bes5, lead5, pas5, fr5, B, G5⟩ := id K_board
  simp only [s_X9_init_60, s_X9_init_63, s_X9_init_64, s_X9_init_67, s_X9_init_68, s_X9_init_69, s_X9_init_72, s_X9_init_73, s_X9_init_76, aq_gI, aq_gL, aq_gA, aq_isA, aq_s1, aq_s2, aq_kill, aq_ob, aq_sm, aq_arI, aq_arB, aq_isB, aq_arL, aq_arA, aq_arN, aq_sh, Value.category, List.getElem?_cons_zero, List.getElem?_cons_succ, List.length_cons, List.length_nil, Option.toList_some, Option.toList_none, List.cons_append, List.nil_append, true_and, and_true, List.set_cons_zero, List.set_cons_succ, aq_n1, aq_n2, aq_n3, aq_n4, aq_f1, aq_f2, aq_f3, aq_f4, aq_gs, aq_ty1, aq_ty2, aq_ty3, aq_ty4, aq_ty5, Nat.reduceAdd, Nat.reduceLT, Nat.reduceEqDiff, Nat.reduceSub, if_true, if_false, ne_eq, not_false_eq_true, not_true_eq_false, Option.map_some, Option.map_none, Nat.zero_add, reduceCtorEq, Nat.reduceLeDiff, one_ne_zero_a, zero_ne_one_a, aq_nb, aq_nb1, aq_nb0, aq_fb, aq_fb1, aq_fb0, aq_ofN, bB_t, bB_f, bB_v, vpn_b1, vpn_b0, nI_1, Bool.true_eq_false, Bool.false_eq_true, Bool.true_and, Bool.false_and, Bool.and_true, Bool.and_false, o4, ap_g, ap_l, List.length_set, l4]
  refine (t_flood L5 F5 B hn).use ?_
  rintro _ h5 ⟨rfl, l5, S5, K_flood⟩
  have o5 := (S5 0 (by decide)).trans O5
  have K_board := K_board.sm S5 (by omega)
  have K_stacks := K_stacks.sm S5 (by omega)
  have K_tree := K_tree.sm S5 (by omega)
  have K_maze := K_maze.sm S5 (by omega)
  have T6 : sm 0 0 h5 (h5.set 0 (.inr (9, [.ref 1, .ref 6, .ref 13, .ref 32, .ref 37, .null, .null, .null, .null, .int 0]))) := (sm.rf _ _ _).st (Nat.le_refl _) (Nat.le_refl _)
  have U6 : sm 40 40 (h5.set 0 (.inr (9, [.ref 1, .ref 6, .ref 13, .ref 32, .ref 37, .null, .null, .null, .null, .int 0]))) (h5.set 0 (.inr (9, [.ref 1, .ref 6, .ref 13, .ref 32, .ref 37, .null, .null, .null, .null, .int 0])) ++ [(.inr (2, [.null, .null, .null]))] : aq_H) := (sm.rf _ _ _).ap (by rw [List.length_set, l5]) (Nat.le_refl _) (Nat.le_refl _)
  have L6 : (h5.set 0 (.inr (9, [.ref 1, .ref 6, .ref 13, .ref 32, .ref 37, .null, .null, .null, .null, .int 0])) ++ [(.inr (2, [.null, .null, .null]))] : aq_H).length = 41 := by rw [ap_l, List.length_set, l5]
  have F6 : (h5.set 0 (.inr (9, [.ref 1, .ref 6, .ref 13, .ref 32, .ref 37, .null, .null, .null, .null, .int 0])) ++ [(.inr (2, [.null, .null, .null]))] : aq_H)[40]? = some (.inr (2, [.null, .null, .null])) := by rw [ap_g, List.length_set, l5, if_pos rfl]
  have O6 : (h5.set 0 (.inr (9, [.ref 1, .ref 6, .ref 13, .ref 32, .ref 37, .null, .null, .null, .null, .int 0])) ++ [(.inr (2, [.null, .null, .null]))] : aq_H)[0]? = some (.inr (9, [.ref 1, .ref 6, .ref 13, .ref 32, .ref 37, .null, .null, .null, .null, .int 0])) := by rw [ap_g, List.length_set, l5, if_neg (by decide), aq_gs, if_pos rfl, o5]; rfl
  have K_board := (K_board.sm T6 (by omega)).sm U6 (by omega)
  have K_stacks := (K_stacks.sm T6 (by omega)).sm U6 (by omega)
  have K_tree := (K_tree.sm T6 (by omega)).sm U6 (by omega)
  have K_maze := (K_maze.sm T6 (by omega)).sm U6 (by omega)
  have K_flood := (K_flood.sm T6 (by omega)).sm U6 (by omega)
  simp only [s_X9_init_79, s_X9_init_82, s_X9_init_83, s_X9_init_86, s_X9_init_87, s_X9_init_88, s_X9_init_91, s_X9_init_92, s_X9_init_95, s_X9_init_96, s_X9_init_99, aq_gI, aq_gL, aq_gA, aq_isA, aq_s1, aq_s2, aq_kill, aq_ob, aq_sm, aq_arI, aq_arB, aq_isB, aq_arL, aq_arA, aq_arN, aq_sh, Value.category, List.getElem?_cons_zero, List.getElem?_cons_succ, List.length_cons, List.length_nil, Option.toList_some, Option.toList_none, List.cons_append, List.nil_append, true_and, and_true, List.set_cons_zero, List.set_cons_succ, aq_n1, aq_n2, aq_n3, aq_n4, aq_f1, aq_f2, aq_f3, aq_f4, aq_gs, aq_ty1, aq_ty2, aq_ty3, aq_ty4, aq_ty5, Nat.reduceAdd, Nat.reduceLT, Nat.reduceEqDiff, Nat.reduceSub, if_true, if_false, ne_eq, not_false_eq_true, not_true_eq_false, Option.map_some, Option.map_none, Nat.zero_add, reduceCtorEq, Nat.reduceLeDiff, one_ne_zero_a, zero_ne_one_a, aq_nb, aq_nb1, aq_nb0, aq_fb, aq_fb1, aq_fb0, aq_ofN, bB_t, bB_f, bB_v, vpn_b1, vpn_b0, nI_1, Bool.true_eq_false, Bool.false_eq_true, Bool.true_and, Bool.false_and, Bool.and_true, Bool.and_false, o5, ap_g, ap_l, List.length_set, l5]
  refine (t_keyPlacer F6).use ?_
  rintro _ h6 ⟨rfl, l6, S6, K_keyp⟩
  rw [L6] at l6
  have o6 := (S6 0 (by decide)).trans O6
  have K_board := K_board.sm S6 (by omega)
  have K_stacks := K_stacks.sm S6 (by omega)
  have K_tree := K_tree.sm S6 (by omega)
  have K_maze := K_maze.sm S6 (by omega)
  have K_flood := K_flood.sm S6 (by omega)
  have T7 : sm 0 0 h6 (h6.set 0 (.inr (9, [.ref 1, .ref 6, .ref 13, .ref 32, .ref 37, .ref 40, .null, .null, .null, .int 0]))) := (sm.rf _ _ _).st (Nat.le_refl _) (Nat.le_refl _)
  have U7 : sm 41 41 (h6.set 0 (.inr (9, [.ref 1, .ref 6, .ref 13, .ref 32, .ref 37, .ref 40, .null, .null, .null, .int 0]))) (h6.set 0 (.inr (9, [.ref 1, .ref 6, .ref 13, .ref 32, .ref 37, .ref 40, .null, .null, .null, .int 0])) ++ [(.inr (5, [.null, .null, .null, .null, .int 0, .int 0, .int 0, .int 0]))] : aq_H) := (sm.rf _ _ _).ap (by rw [List.length_set, l6]) (Nat.le_refl _) (Nat.le_refl _)
  have L7 : (h6.set 0 (.inr (9, [.ref 1, .ref 6, .ref 13, .ref 32, .ref 37, .ref 40, .null, .null, .null, .int 0])) ++ [(.inr (5, [.null, .null, .null, .null, .int 0, .int 0, .int 0, .int 0]))] : aq_H).length = 42 := by rw [ap_l, List.length_set, l6]
  have F7 : (h6.set 0 (.inr (9, [.ref 1, .ref 6, .ref 13, .ref 32, .ref 37, .ref 40, .null, .null, .null, .int 0])) ++ [(.inr (5, [.null, .null, .null, .null, .int 0, .int 0, .int 0, .int 0]))] : aq_H)[41]? = some (.inr (5, [.null, .null, .null, .null, .int 0, .int 0, .int 0, .int 0])) := by rw [ap_g, List.length_set, l6, if_pos rfl]
  have O7 : (h6.set 0 (.inr (9, [.ref 1, .ref 6, .ref 13, .ref 32, .ref 37, .ref 40, .null, .null, .null, .int 0])) ++ [(.inr (5, [.null, .null, .null, .null, .int 0, .int 0, .int 0, .int 0]))] : aq_H)[0]? = some (.inr (9, [.ref 1, .ref 6, .ref 13, .ref 32, .ref 37, .ref 40, .null, .null, .null, .int 0])) := by rw [ap_g, List.length_set, l6, if_neg (by decide), aq_gs, if_pos rfl, o6]; rfl
  have K_board := (K_board.sm T7 (by omega)).sm U7 (by omega)
  have K_stacks := (K_stacks.sm T7 (by omega)).sm U7 (by omega)
  have K_tree := (K_tree.sm T7 (by omega)).sm U7 (by omega)
  have K_maze := (K_maze.sm T7 (by omega)).sm U7 (by omega)
  have K_flood := (K_flood.sm T7 (by omega)).sm U7 (by omega)
  have K_keyp := (K_keyp.sm T7 (by omega)).sm U7 (by omega)
  obtain ⟨cut7, bes7, lead7, pas7, fr7, B, G7⟩ := id K_board
  simp only [s_X9_init_102, s_X9_init_105, s_X9_init_106, s_X9_init_109, s_X9_init_110, s_X9_init_111, s_X9_init_114, s_X9_init_115, s_X9_init_118, aq_gI, aq_gL, aq_gA, aq_isA, aq_s1, aq_s2, aq_kill, aq_ob, aq_sm, aq_arI, aq_arB, aq_isB, aq_arL, aq_arA, aq_arN, aq_sh, Value.category, List.getElem?_cons_zero, List.getElem?_cons_succ, List.length_cons, List.length_nil, Option.toList_some, Option.toList_none, List.cons_append, List.nil_append, true_and, and_true, List.set_cons_zero, List.set_cons_succ, aq_n1, aq_n2, aq_n3, aq_n4, aq_f1, aq_f2, aq_f3, aq_f4, aq_gs, aq_ty1, aq_ty2, aq_ty3, aq_ty4, aq_ty5, Nat.reduceAdd, Nat.reduceLT, Nat.reduceEqDiff, Nat.reduceSub, if_true, if_false, ne_eq, not_false_eq_true, not_true_eq_false, Option.map_some, Option.map_none, Nat.zero_add, reduceCtorEq, Nat.reduceLeDiff, one_ne_zero_a, zero_ne_one_a, aq_nb, aq_nb1, aq_nb0, aq_fb, aq_fb1, aq_fb0, aq_ofN, bB_t, bB_f, bB_v, vpn_b1, vpn_b0, nI_1, Bool.true_eq_false, Bool.false_eq_true, Bool.true_and, Bool.false_and, Bool.and_true, Bool.and_false, o6, ap_g, ap_l, List.length_set, l6]
  refine (t_route L7 F7 B hn).use ?_
  rintro _ h7 ⟨rfl, l7, S7, K_route⟩
  have o7 := (S7 0 (by decide)).trans O7
  have K_board := K_board.sm S7 (by omega)
  have K_stacks := K_stacks.sm S7 (by omega)
  have K_tree := K_tree.sm S7 (by omega)
  have K_maze := K_maze.sm S7 (by omega)
  have K_flood := K_flood.sm S7 (by omega)
  have K_keyp := K_keyp.sm S7 (by omega)
  have K_route : cRt h7 (cW x * cW y) 0 false (V Z) := by
    obtain ⟨q1, q2, q3, q4, q5, q6, K⟩ := K_route
    exact ⟨q1, q2, q3, q4, q5, q6, _, K, Or.inl rfl⟩
  have T8 : sm 0 0 h7 (h7.set 0 (.inr (9, [.ref 1, .ref 6, .ref 13, .ref 32, .ref 37, .ref 40, .ref 41, .null, .null, .int 0]))) := (sm.rf _ _ _).st (Nat.le_refl _) (Nat.le_refl _)
  have U8 : sm 45 45 (h7.set 0 (.inr (9, [.ref 1, .ref 6, .ref 13, .ref 32, .ref 37, .ref 40, .ref 41, .null, .null, .int 0]))) (h7.set 0 (.inr (9, [.ref 1, .ref 6, .ref 13, .ref 32, .ref 37, .ref 40, .ref 41, .null, .null, .int 0])) ++ [(.inr (8, [.null, .int 0, .int 0, .int 0]))] : aq_H) := (sm.rf _ _ _).ap (by rw [List.length_set, l7]) (Nat.le_refl _) (Nat.le_refl _)
  have L8 : (h7.set 0 (.inr (9, [.ref 1, .ref 6, .ref 13, .ref 32, .ref 37, .ref 40, .ref 41, .null, .null, .int 0])) ++ [(.inr (8, [.null, .int 0, .int 0, .int 0]))] : aq_H).length = 46 := by rw [ap_l, List.length_set, l7]
  have F8 : (h7.set 0 (.inr (9, [.ref 1, .ref 6, .ref 13, .ref 32, .ref 37, .ref 40, .ref 41, .null, .null, .int 0])) ++ [(.inr (8, [.null, .int 0, .int 0, .int 0]))] : aq_H)[45]? = some (.inr (8, [.null, .int 0, .int 0, .int 0])) := by rw [ap_g, List.length_set, l7, if_pos rfl]
  have O8 : (h7.set 0 (.inr (9, [.ref 1, .ref 6, .ref 13, .ref 32, .ref 37, .ref 40, .ref 41, .null, .null, .int 0])) ++ [(.inr (8, [.null, .int 0, .int 0, .int 0]))] : aq_H)[0]? = some (.inr (9, [.ref 1, .ref 6, .ref 13, .ref 32, .ref 37, .ref 40, .ref 41, .null, .null, .int 0])) := by rw [ap_g, List.length_set, l7, if_neg (by decide), aq_gs, if_pos rfl, o7]; rfl
  have K_board := (K_board.sm T8 (by omega)).sm U8 (by omega)
  have K_stacks := (K_stacks.sm T8 (by omega)).sm U8 (by omega)
  have K_tree := (K_tree.sm T8 (by omega)).sm U8 (by omega)
  have K_maze := (K_maze.sm T8 (by omega)).sm U8 (by omega)
  have K_flood := (K_flood.sm T8 (by omega)).sm U8 (by omega)
  have K_keyp := (K_keyp.sm T8 (by omega)).sm U8 (by omega)
  have K_route := (K_route.sm T8 (by omega)).sm U8 (by omega)
  simp only [s_X9_init_121, s_X9_init_124, s_X9_init_125, s_X9_init_128, s_X9_init_129, s_X9_init_130, s_X9_init_133, aq_gI, aq_gL, aq_gA, aq_isA, aq_s1, aq_s2, aq_kill, aq_ob, aq_sm, aq_arI, aq_arB, aq_isB, aq_arL, aq_arA, aq_arN, aq_sh, Value.category, List.getElem?_cons_zero, List.getElem?_cons_succ, List.length_cons, List.length_nil, Option.toList_some, Option.toList_none, List.cons_append, List.nil_append, true_and, and_true, List.set_cons_zero, List.set_cons_succ, aq_n1, aq_n2, aq_n3, aq_n4, aq_f1, aq_f2, aq_f3, aq_f4, aq_gs, aq_ty1, aq_ty2, aq_ty3, aq_ty4, aq_ty5, Nat.reduceAdd, Nat.reduceLT, Nat.reduceEqDiff, Nat.reduceSub, if_true, if_false, ne_eq, not_false_eq_true, not_true_eq_false, Option.map_some, Option.map_none, Nat.zero_add, reduceCtorEq, Nat.reduceLeDiff, one_ne_zero_a, zero_ne_one_a, aq_nb, aq_nb1, aq_nb0, aq_fb, aq_fb1, aq_fb0, aq_ofN, bB_t, bB_f, bB_v, vpn_b1, vpn_b0, nI_1, Bool.true_eq_false, Bool.false_eq_true, Bool.true_and, Bool.false_and, Bool.and_true, Bool.and_false, o7, ap_g, ap_l, List.length_set, l7]
  refine (t_walker F8).use ?_
  rintro _ h8 ⟨rfl, l8, S8, K_walker⟩
  rw [L8] at l8
  have o8 := (S8 0 (by decide)).trans O8
  have K_board := K_board.sm S8 (by omega)
  have K_stacks := K_stacks.sm S8 (by omega)
  have K_tree := K_tree.sm S8 (by omega)
  have K_maze := K_maze.sm S8 (by omega)
  have K_flood := K_flood.sm S8 (by omega)
  have K_keyp := K_keyp.sm S8 (by omega)
  have K_route := K_route.sm S8 (by omega)
  have K_walker : cWk h8 false P := by
    obtain ⟨q1, q2, q3, K⟩ := K_walker
    exact ⟨q1, q2, q3, K, fun z => by cases z⟩
  have T9 : sm 0 0 h8 (h8.set 0 (.inr (9, [.ref 1, .ref 6, .ref 13, .ref 32, .ref 37, .ref 40, .ref 41, .ref 45, .null, .int 0]))) := (sm.rf _ _ _).st (Nat.le_refl _) (Nat.le_refl _)
  have U9 : sm 46 46 (h8.set 0 (.inr (9, [.ref 1, .ref 6, .ref 13, .ref 32, .ref 37, .ref 40, .ref 41, .ref 45, .null, .int 0]))) (h8.set 0 (.inr (9, [.ref 1, .ref 6, .ref 13, .ref 32, .ref 37, .ref 40, .ref 41, .ref 45, .null, .int 0])) ++ [(.inr (4, [.null, .null]))] : aq_H) := (sm.rf _ _ _).ap (by rw [List.length_set, l8]) (Nat.le_refl _) (Nat.le_refl _)
  have L9 : (h8.set 0 (.inr (9, [.ref 1, .ref 6, .ref 13, .ref 32, .ref 37, .ref 40, .ref 41, .ref 45, .null, .int 0])) ++ [(.inr (4, [.null, .null]))] : aq_H).length = 47 := by rw [ap_l, List.length_set, l8]
  have F9 : (h8.set 0 (.inr (9, [.ref 1, .ref 6, .ref 13, .ref 32, .ref 37, .ref 40, .ref 41, .ref 45, .null, .int 0])) ++ [(.inr (4, [.null, .null]))] : aq_H)[46]? = some (.inr (4, [.null, .null])) := by rw [ap_g, List.length_set, l8, if_pos rfl]
  have O9 : (h8.set 0 (.inr (9, [.ref 1, .ref 6, .ref 13, .ref 32, .ref 37, .ref 40, .ref 41, .ref 45, .null, .int 0])) ++ [(.inr (4, [.null, .null]))] : aq_H)[0]? = some (.inr (9, [.ref 1, .ref 6, .ref 13, .ref 32, .ref 37, .ref 40, .ref 41, .ref 45, .null, .int 0])) := by rw [ap_g, List.length_set, l8, if_neg (by decide), aq_gs, if_pos rfl, o8]; rfl
  have K_board := (K_board.sm T9 (by omega)).sm U9 (by omega)
  have K_stacks := (K_stacks.sm T9 (by omega)).sm U9 (by omega)
  have K_tree := (K_tree.sm T9 (by omega)).sm U9 (by omega)
  have K_maze := (K_maze.sm T9 (by omega)).sm U9 (by omega)
  have K_flood := (K_flood.sm T9 (by omega)).sm U9 (by omega)
  have K_keyp := (K_keyp.sm T9 (by omega)).sm U9 (by omega)
  have K_route := (K_route.sm T9 (by omega)).sm U9 (by omega)
  have K_walker := (K_walker.sm T9 (by omega)).sm U9 (by omega)
  simp only [s_X9_init_136, s_X9_init_139, s_X9_init_140, s_X9_init_143, s_X9_init_144, s_X9_init_145, s_X9_init_148, s_X9_init_149, s_X9_init_152, aq_gI, aq_gL, aq_gA, aq_isA, aq_s1, aq_s2, aq_kill, aq_ob, aq_sm, aq_arI, aq_arB, aq_isB, aq_arL, aq_arA, aq_arN, aq_sh, Value.category, List.getElem?_cons_zero, List.getElem?_cons_succ, List.length_cons, List.length_nil, Option.toList_some, Option.toList_none, List.cons_append, List.nil_append, true_and, and_true, List.set_cons_zero, List.set_cons_succ, aq_n1, aq_n2, aq_n3, aq_n4, aq_f1, aq_f2, aq_f3, aq_f4, aq_gs, aq_ty1, aq_ty2, aq_ty3, aq_ty4, aq_ty5, Nat.reduceAdd, Nat.reduceLT, Nat.reduceEqDiff, Nat.reduceSub, if_true, if_false, ne_eq, not_false_eq_true, not_true_eq_false, Option.map_some, Option.map_none, Nat.zero_add, reduceCtorEq, Nat.reduceLeDiff, one_ne_zero_a, zero_ne_one_a, aq_nb, aq_nb1, aq_nb0, aq_fb, aq_fb1, aq_fb0, aq_ofN, bB_t, bB_f, bB_v, vpn_b1, vpn_b0, nI_1, Bool.true_eq_false, Bool.false_eq_true, Bool.true_and, Bool.false_and, Bool.and_true, Bool.and_false, o8, ap_g, ap_l, List.length_set, l8]
  refine (t_picture F9).use ?_
  rintro _ h9 ⟨rfl, l9, S9, K_pic⟩
  rw [L9] at l9
  have o9 := (S9 0 (by decide)).trans O9
  have K_board := K_board.sm S9 (by omega)
  have K_stacks := K_stacks.sm S9 (by omega)
  have K_tree := K_tree.sm S9 (by omega)
  have K_maze := K_maze.sm S9 (by omega)
  have K_flood := K_flood.sm S9 (by omega)
  have K_keyp := K_keyp.sm S9 (by omega)
  have K_route := K_route.sm S9 (by omega)
  have K_walker := K_walker.sm S9 (by omega)
  simp only [s_X9_init_155, s_X9_init_158, s_X9_init_159, s_X9_init_160, s_X9_init_163, aq_gI, aq_gL, aq_gA, aq_isA, aq_s1, aq_s2, aq_kill, aq_ob, aq_sm, aq_arI, aq_arB, aq_isB, aq_arL, aq_arA, aq_arN, aq_sh, Value.category, List.getElem?_cons_zero, List.getElem?_cons_succ, List.length_cons, List.length_nil, Option.toList_some, Option.toList_none, List.cons_append, List.nil_append, true_and, and_true, List.set_cons_zero, List.set_cons_succ, aq_n1, aq_n2, aq_n3, aq_n4, aq_f1, aq_f2, aq_f3, aq_f4, aq_gs, aq_ty1, aq_ty2, aq_ty3, aq_ty4, aq_ty5, Nat.reduceAdd, Nat.reduceLT, Nat.reduceEqDiff, Nat.reduceSub, if_true, if_false, ne_eq, not_false_eq_true, not_true_eq_false, Option.map_some, Option.map_none, Nat.zero_add, reduceCtorEq, Nat.reduceLeDiff, one_ne_zero_a, zero_ne_one_a, aq_nb, aq_nb1, aq_nb0, aq_fb, aq_fb1, aq_fb0, aq_ofN, bB_t, bB_f, bB_v, vpn_b1, vpn_b0, nI_1, Bool.true_eq_false, Bool.false_eq_true, Bool.true_and, Bool.false_and, Bool.and_true, Bool.and_false, o9, List.set_set]
  rw [← hQ]
  have T10 : sm 0 0 h9 (h9.set 0 (.inr (9, [.ref 1, .ref 6, .ref 13, .ref 32, .ref 37, .ref 40, .ref 41, .ref 45, .ref 46, .int 0]))) := (sm.rf _ _ _).st (Nat.le_refl _) (Nat.le_refl _)
  refine ⟨rfl, by rw [List.length_set, l9], K_board.sm T10 (by omega), ?_, K_stacks.sm T10 (by omega), K_tree.sm T10 (by omega), K_maze.sm T10 (by omega), K_flood.sm T10 (by omega), K_keyp.sm T10 (by omega), K_route.sm T10 (by omega), K_walker.sm T10 (by omega), K_pic.sm T10 (by omega), fun z => by cases z⟩
  unfold iDk
  rw [aq_gs, if_pos rfl, o9]
  rfl
end INK
