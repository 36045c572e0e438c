/-! the model's placeKeys, as a whole -/
theorem frc_ex {u : Nat → Bool} {N : Nat} : ∀ (n : Nat), N < frc u n → ∃ x, x < n ∧ u x = false ∧ frc u x = N
  | 0, h => by exact absurd h (Nat.not_lt_zero _)
  | n + 1, h => by
    by_cases c : N < frc u n
    · obtain ⟨x, x1, x2⟩ := frc_ex n c
      exact ⟨x, by omega, x2⟩
    · rw [frc_s] at h
      cases q : u n with
      | true => rw [q, if_pos rfl] at h; omega
      | false => rw [q, if_neg (by decide)] at h; exact ⟨n, Nat.lt_succ_self n, q, by omega⟩
section MPK
variable {h h' : aq_H} {w ht root : Nat} {wx wy hm : Bool} {cb : Nat → Bool} {D : drT} {Z : mzT} {P : plT} {wr thr th rt ci st ex pl hd sg : Int32} {mc mx mt mp mo md mw mk mr pc fa go : Nat → Int32} {tb : Nat → Int64} {ob : Nat → Bool} {dr on ky : Nat → Option Nat}
theorem pk_clear {Q : Option Value → aq_H → Prop} {x1 : Int32} (O : iMo h w ht wr thr th rt ci st ex pl hd sg) (A : iAr h mx mt mp mo md mw mk mr tb pc fa go)
    (K : ∀ (h2 : aq_H) (mk2 : Nat → Int32), sm 55 55 h h2 → iAr h2 mx mt mp mo md mw mk2 mr tb pc fa go → (∀ j, j < 4 → mk2 j = -1) → aq_W e_X10_placeKeys Q 42 [some (.ref 47), some (.int x1), some (.int (nI 4)), none, none, none, none, none, none] [] h2 0 0) :
    aq_W e_X10_placeKeys Q 24 [some (.ref 47), some (.int x1), some (.int (nI 0)), none, none, none, none, none, none] [] h 0 0 := by
  have one : ∀ (j k : Nat), k + j = 4 → ∀ (h2 : aq_H) (mk2 : Nat → Int32), sm 55 55 h h2 → iAr h2 mx mt mp mo md mw mk2 mr tb pc fa go → (∀ i, i < k → mk2 i = -1) → aq_W e_X10_placeKeys Q 24 [some (.ref 47), some (.int x1), some (.int (nI k)), none, none, none, none, none, none] [] h2 0 0 := by
    intro j
    induction j with
    | zero =>
      intro k hk h2 mk2 S A2 q
      have e : k = 4 := by omega
      subst e
      have h4 : (4 : Int32) ≤ nI 4 := by decide
      rw [s_X10_placeKeys_24]
      simp only [s_X10_placeKeys_25, s_X10_placeKeys_26, aq_gI, aq_gL, aq_gA, aq_isA, aq_s1, aq_s2, aq_kill, aq_ob, aq_sm, aq_arI, aq_arB, aq_isB, aq_arL, aq_arA, aq_arN, aq_sh, Value.category, List.getElem?_cons_zero, List.getElem?_cons_succ, List.length_cons, List.length_nil, Option.toList_some, Option.toList_none, List.cons_append, List.nil_append, true_and, and_true, List.set_cons_zero, List.set_cons_succ, aq_n1, aq_n2, aq_n3, aq_n4, aq_f1, aq_f2, aq_f3, aq_f4, aq_gs, aq_ty1, aq_ty2, aq_ty3, aq_ty4, aq_ty5, Nat.reduceAdd, Nat.reduceLT, Nat.reduceEqDiff, Nat.reduceSub, if_true, if_false, ne_eq, not_false_eq_true, not_true_eq_false, Option.map_some, Option.map_none, Nat.zero_add, reduceCtorEq, Nat.reduceLeDiff, one_ne_zero_a, zero_ne_one_a, aq_nb, aq_nb1, aq_nb0, aq_fb, aq_fb1, aq_fb0, aq_ofN, bB_t, bB_f, bB_v, vpn_b1, vpn_b0, nI_1, Bool.true_eq_false, Bool.false_eq_true, Bool.true_and, Bool.false_and, Bool.and_true, Bool.and_false, h4]
      exact K h2 mk2 S A2 q
    | succ j ih =>
      intro k hk h2 mk2 S A2 q
      have hk4 : k < 4 := by omega
      have h4 : ¬ (4 : Int32) ≤ nI k := by rw [nI_4]; exact nI_ge hk4 (by omega)
      have O2 := O.sm S (by decide)
      unfold iMo at O2
      rw [s_X10_placeKeys_24]
      simp only [s_X10_placeKeys_25, s_X10_placeKeys_26, s_X10_placeKeys_29, s_X10_placeKeys_30, s_X10_placeKeys_33, s_X10_placeKeys_34, s_X10_placeKeys_35, s_X10_placeKeys_36, s_X10_placeKeys_39, aq_gI, aq_gL, aq_gA, aq_isA, aq_s1, aq_s2, aq_kill, aq_ob, aq_sm, aq_arI, aq_arB, aq_isB, aq_arL, aq_arA, aq_arN, aq_sh, Value.category, List.getElem?_cons_zero, List.getElem?_cons_succ, List.length_cons, List.length_nil, Option.toList_some, Option.toList_none, List.cons_append, List.nil_append, true_and, and_true, List.set_cons_zero, List.set_cons_succ, aq_n1, aq_n2, aq_n3, aq_n4, aq_f1, aq_f2, aq_f3, aq_f4, aq_gs, aq_ty1, aq_ty2, aq_ty3, aq_ty4, aq_ty5, Nat.reduceAdd, Nat.reduceLT, Nat.reduceEqDiff, Nat.reduceSub, if_true, if_false, ne_eq, not_false_eq_true, not_true_eq_false, Option.map_some, Option.map_none, Nat.zero_add, reduceCtorEq, Nat.reduceLeDiff, one_ne_zero_a, zero_ne_one_a, aq_nb, aq_nb1, aq_nb0, aq_fb, aq_fb1, aq_fb0, aq_ofN, bB_t, bB_f, bB_v, vpn_b1, vpn_b0, nI_1, Bool.true_eq_false, Bool.false_eq_true, Bool.true_and, Bool.false_and, Bool.and_true, Bool.and_false, h4, O2, A2.2.2.2.2.2.2.1, vp_in_nI hk4 (show 4 < 2 ^ 31 by decide), nI_clamp (show k < 2 ^ 31 by omega)]
      refine ih (k + 1) (by omega) _ (upd mk2 k (-1)) (S.st (by decide) (by decide)) (A2.s56 _) (fun i hi => ?_)
      by_cases z : i = k
      · rw [z, upd_s]
      · rw [upd_n _ _ z]; exact q i (by omega)
  exact one 4 0 rfl h mk (sm.rf _ _ _) A (fun i hi => by omega)
theorem pk_count {Q : Option Value → aq_H → Prop} {x1 x2 x3 x4 x5 : Int32} {L8 : Option Value} (O : iMo h w ht wr thr th rt ci st ex pl hd sg) (A : iAr h mx mt mp mo md mw mk mr tb pc fa go) (hn : w * ht ≤ 144) {u : Nat → Bool} (hmr : ∀ j, j < w * ht → mr j = bB (!u j))
    (K : aq_W e_X10_placeKeys Q 130 [some (.ref 47), some (.int x1), some (.int x2), some (.int x3), some (.int x4), some (.int x5), some (.int (nI (frc u (w * ht)))), some (.int (nI (w * ht))), L8] [] h 0 0) :
    aq_W e_X10_placeKeys Q 95 [some (.ref 47), some (.int x1), some (.int x2), some (.int x3), some (.int x4), some (.int x5), some (.int (nI 0)), some (.int (nI 0)), L8] [] h 0 0 := by
  unfold iMo at O
  have one : ∀ (j c : Nat), c + j = w * ht → aq_W e_X10_placeKeys Q 95 [some (.ref 47), some (.int x1), some (.int x2), some (.int x3), some (.int x4), some (.int x5), some (.int (nI (frc u c))), some (.int (nI c)), L8] [] h 0 0 := by
    intro j
    induction j with
    | zero =>
      intro c hc
      have e : c = w * ht := by omega
      subst e
      rw [s_X10_placeKeys_95]
      simp only [s_X10_placeKeys_97, s_X10_placeKeys_98, s_X10_placeKeys_101, aq_gI, aq_gL, aq_gA, aq_isA, aq_s1, aq_s2, aq_kill, aq_ob, aq_sm, aq_arI, aq_arB, aq_isB, aq_arL, aq_arA, aq_arN, aq_sh, Value.category, List.getElem?_cons_zero, List.getElem?_cons_succ, List.length_cons, List.length_nil, Option.toList_some, Option.toList_none, List.cons_append, List.nil_append, true_and, and_true, List.set_cons_zero, List.set_cons_succ, aq_n1, aq_n2, aq_n3, aq_n4, aq_f1, aq_f2, aq_f3, aq_f4, aq_gs, aq_ty1, aq_ty2, aq_ty3, aq_ty4, aq_ty5, Nat.reduceAdd, Nat.reduceLT, Nat.reduceEqDiff, Nat.reduceSub, if_true, if_false, ne_eq, not_false_eq_true, not_true_eq_false, Option.map_some, Option.map_none, Nat.zero_add, reduceCtorEq, Nat.reduceLeDiff, one_ne_zero_a, zero_ne_one_a, aq_nb, aq_nb1, aq_nb0, aq_fb, aq_fb1, aq_fb0, aq_ofN, bB_t, bB_f, bB_v, vpn_b1, vpn_b0, nI_1, Bool.true_eq_false, Bool.false_eq_true, Bool.true_and, Bool.false_and, Bool.and_true, Bool.and_false, O, nI_le (Nat.le_refl (w * ht)) (show w * ht < 2 ^ 31 by omega)]
      exact K
    | succ j ih =>
      intro c hc
      have hc2 : c < w * ht := by omega
      have hnext := ih (c + 1) (by omega)
      rw [frc_s] at hnext
      rw [s_X10_placeKeys_95]
      simp only [s_X10_placeKeys_97, s_X10_placeKeys_98, s_X10_placeKeys_101, s_X10_placeKeys_104, s_X10_placeKeys_106, s_X10_placeKeys_107, s_X10_placeKeys_110, s_X10_placeKeys_112, aq_gI, aq_gL, aq_gA, aq_isA, aq_s1, aq_s2, aq_kill, aq_ob, aq_sm, aq_arI, aq_arB, aq_isB, aq_arL, aq_arA, aq_arN, aq_sh, Value.category, List.getElem?_cons_zero, List.getElem?_cons_succ, List.length_cons, List.length_nil, Option.toList_some, Option.toList_none, List.cons_append, List.nil_append, true_and, and_true, List.set_cons_zero, List.set_cons_succ, aq_n1, aq_n2, aq_n3, aq_n4, aq_f1, aq_f2, aq_f3, aq_f4, aq_gs, aq_ty1, aq_ty2, aq_ty3, aq_ty4, aq_ty5, Nat.reduceAdd, Nat.reduceLT, Nat.reduceEqDiff, Nat.reduceSub, if_true, if_false, ne_eq, not_false_eq_true, not_true_eq_false, Option.map_some, Option.map_none, Nat.zero_add, reduceCtorEq, Nat.reduceLeDiff, one_ne_zero_a, zero_ne_one_a, aq_nb, aq_nb1, aq_nb0, aq_fb, aq_fb1, aq_fb0, aq_ofN, bB_t, bB_f, bB_v, vpn_b1, vpn_b0, nI_1, Bool.true_eq_false, Bool.false_eq_true, Bool.true_and, Bool.false_and, Bool.and_true, Bool.and_false, O, nI_ge hc2 (show w * ht < 2 ^ 31 by omega), A.2.2.2.2.2.2.2.1, vp_in_nI (show c < 144 by omega) (show 144 < 2 ^ 31 by decide), nI_clamp (show c < 2 ^ 31 by omega), hmr c hc2]
      cases hu : u c with
      | true =>
        rw [hu, if_pos rfl, Nat.add_zero] at hnext
        simp only [s_X10_placeKeys_113, s_X10_placeKeys_120, s_X10_placeKeys_121, s_X10_placeKeys_122, s_X10_placeKeys_124, s_X10_placeKeys_127, aq_gI, aq_gL, aq_gA, aq_isA, aq_s1, aq_s2, aq_kill, aq_ob, aq_sm, aq_arI, aq_arB, aq_isB, aq_arL, aq_arA, aq_arN, aq_sh, Value.category, List.getElem?_cons_zero, List.getElem?_cons_succ, List.length_cons, List.length_nil, Option.toList_some, Option.toList_none, List.cons_append, List.nil_append, true_and, and_true, List.set_cons_zero, List.set_cons_succ, aq_n1, aq_n2, aq_n3, aq_n4, aq_f1, aq_f2, aq_f3, aq_f4, aq_gs, aq_ty1, aq_ty2, aq_ty3, aq_ty4, aq_ty5, Nat.reduceAdd, Nat.reduceLT, Nat.reduceEqDiff, Nat.reduceSub, if_true, if_false, ne_eq, not_false_eq_true, not_true_eq_false, Option.map_some, Option.map_none, Nat.zero_add, reduceCtorEq, Nat.reduceLeDiff, one_ne_zero_a, zero_ne_one_a, aq_nb, aq_nb1, aq_nb0, aq_fb, aq_fb1, aq_fb0, aq_ofN, bB_t, bB_f, bB_v, vpn_b1, vpn_b0, nI_1, Bool.true_eq_false, Bool.false_eq_true, Bool.true_and, Bool.false_and, Bool.and_true, Bool.and_false, Bool.not_true, n0a]
        exact hnext
      | false =>
        rw [hu, if_neg (by decide)] at hnext
        simp only [s_X10_placeKeys_113, s_X10_placeKeys_116, s_X10_placeKeys_117, s_X10_placeKeys_121, s_X10_placeKeys_122, s_X10_placeKeys_124, s_X10_placeKeys_127, aq_gI, aq_gL, aq_gA, aq_isA, aq_s1, aq_s2, aq_kill, aq_ob, aq_sm, aq_arI, aq_arB, aq_isB, aq_arL, aq_arA, aq_arN, aq_sh, Value.category, List.getElem?_cons_zero, List.getElem?_cons_succ, List.length_cons, List.length_nil, Option.toList_some, Option.toList_none, List.cons_append, List.nil_append, true_and, and_true, List.set_cons_zero, List.set_cons_succ, aq_n1, aq_n2, aq_n3, aq_n4, aq_f1, aq_f2, aq_f3, aq_f4, aq_gs, aq_ty1, aq_ty2, aq_ty3, aq_ty4, aq_ty5, Nat.reduceAdd, Nat.reduceLT, Nat.reduceEqDiff, Nat.reduceSub, if_true, if_false, ne_eq, not_false_eq_true, not_true_eq_false, Option.map_some, Option.map_none, Nat.zero_add, reduceCtorEq, Nat.reduceLeDiff, one_ne_zero_a, zero_ne_one_a, aq_nb, aq_nb1, aq_nb0, aq_fb, aq_fb1, aq_fb0, aq_ofN, bB_t, bB_f, bB_v, vpn_b1, vpn_b0, nI_1, Bool.true_eq_false, Bool.false_eq_true, Bool.true_and, Bool.false_and, Bool.and_true, Bool.and_false, Bool.not_false]
        exact hnext
  exact one (w * ht) 0 (Nat.zero_add _)
theorem pk_put {Q : Option Value → aq_H → Prop} {x1 x2 x3 x4 x6 : Int32} {k N : Nat} (hk : k < 4) (O : iMo h w ht wr thr th rt ci st ex pl hd sg) (A : iAr h mx mt mp mo md mw mk mr tb pc fa go) (hn : w * ht ≤ 144) {u : Nat → Bool} (hmr : ∀ j, j < w * ht → mr j = bB (!u j)) (hN : N < 2 ^ 30)
    (K : ∀ (h2 : aq_H) (mk2 : Nat → Int32) (x7 : Int32), sm 55 55 h h2 → iAr h2 mx mt mp mo md mw mk2 mr tb pc fa go → (∀ j, j ≠ k → mk2 j = mk j) → (∀ x, x < w * ht → u x = false → frc u x = N → mk2 k = nI x) → aq_W e_X10_placeKeys Q 202 [some (.ref 47), some (.int x1), some (.int x2), some (.int x3), some (.int x4), some (.int (nI k)), some (.int x6), some (.int x7), some (.int (nI (w * ht)))] [] h2 0 0) :
    aq_W e_X10_placeKeys Q 150 [some (.ref 47), some (.int x1), some (.int x2), some (.int x3), some (.int x4), some (.int (nI k)), some (.int x6), some (.int (nI N)), some (.int (nI 0))] [] h 0 0 := by
  have one : ∀ (j c : Nat), c + j = w * ht → ∀ (h2 : aq_H) (mk2 : Nat → Int32), sm 55 55 h h2 → iAr h2 mx mt mp mo md mw mk2 mr tb pc fa go → (∀ j, j ≠ k → mk2 j = mk j) → (∀ x, x < c → u x = false → frc u x = N → mk2 k = nI x) → aq_W e_X10_placeKeys Q 150 [some (.ref 47), some (.int x1), some (.int x2), some (.int x3), some (.int x4), some (.int (nI k)), some (.int x6), some (.int (nI N - nI (frc u c))), some (.int (nI c))] [] h2 0 0 := by
    intro j
    induction j with
    | zero =>
      intro c hc h2 mk2 S A2 q1 q2
      have e : c = w * ht := by omega
      subst e
      have O2 := O.sm S (by decide)
      unfold iMo at O2
      rw [s_X10_placeKeys_150]
      simp only [s_X10_placeKeys_152, s_X10_placeKeys_153, s_X10_placeKeys_156, aq_gI, aq_gL, aq_gA, aq_isA, aq_s1, aq_s2, aq_kill, aq_ob, aq_sm, aq_arI, aq_arB, aq_isB, aq_arL, aq_arA, aq_arN, aq_sh, Value.category, List.getElem?_cons_zero, List.getElem?_cons_succ, List.length_cons, List.length_nil, Option.toList_some, Option.toList_none, List.cons_append, List.nil_append, true_and, and_true, List.set_cons_zero, List.set_cons_succ, aq_n1, aq_n2, aq_n3, aq_n4, aq_f1, aq_f2, aq_f3, aq_f4, aq_gs, aq_ty1, aq_ty2, aq_ty3, aq_ty4, aq_ty5, Nat.reduceAdd, Nat.reduceLT, Nat.reduceEqDiff, Nat.reduceSub, if_true, if_false, ne_eq, not_false_eq_true, not_true_eq_false, Option.map_some, Option.map_none, Nat.zero_add, reduceCtorEq, Nat.reduceLeDiff, one_ne_zero_a, zero_ne_one_a, aq_nb, aq_nb1, aq_nb0, aq_fb, aq_fb1, aq_fb0, aq_ofN, bB_t, bB_f, bB_v, vpn_b1, vpn_b0, nI_1, Bool.true_eq_false, Bool.false_eq_true, Bool.true_and, Bool.false_and, Bool.and_true, Bool.and_false, O2, nI_le (Nat.le_refl (w * ht)) (show w * ht < 2 ^ 31 by omega)]
      exact K h2 mk2 _ S A2 q1 q2
    | succ j ih =>
      intro c hc h2 mk2 S A2 q1 q2
      have hc2 : c < w * ht := by omega
      have hfl := frc_le u c
      have hnext := ih (c + 1) (by omega)
      rw [frc_s] at hnext
      have O2 := O.sm S (by decide)
      unfold iMo at O2
      rw [s_X10_placeKeys_150]
      simp only [s_X10_placeKeys_152, s_X10_placeKeys_153, s_X10_placeKeys_156, s_X10_placeKeys_159, s_X10_placeKeys_160, s_X10_placeKeys_163, s_X10_placeKeys_165, aq_gI, aq_gL, aq_gA, aq_isA, aq_s1, aq_s2, aq_kill, aq_ob, aq_sm, aq_arI, aq_arB, aq_isB, aq_arL, aq_arA, aq_arN, aq_sh, Value.category, List.getElem?_cons_zero, List.getElem?_cons_succ, List.length_cons, List.length_nil, Option.toList_some, Option.toList_none, List.cons_append, List.nil_append, true_and, and_true, List.set_cons_zero, List.set_cons_succ, aq_n1, aq_n2, aq_n3, aq_n4, aq_f1, aq_f2, aq_f3, aq_f4, aq_gs, aq_ty1, aq_ty2, aq_ty3, aq_ty4, aq_ty5, Nat.reduceAdd, Nat.reduceLT, Nat.reduceEqDiff, Nat.reduceSub, if_true, if_false, ne_eq, not_false_eq_true, not_true_eq_false, Option.map_some, Option.map_none, Nat.zero_add, reduceCtorEq, Nat.reduceLeDiff, one_ne_zero_a, zero_ne_one_a, aq_nb, aq_nb1, aq_nb0, aq_fb, aq_fb1, aq_fb0, aq_ofN, bB_t, bB_f, bB_v, vpn_b1, vpn_b0, nI_1, Bool.true_eq_false, Bool.false_eq_true, Bool.true_and, Bool.false_and, Bool.and_true, Bool.and_false, O2, nI_ge hc2 (show w * ht < 2 ^ 31 by omega), A2.2.2.2.2.2.2.2.1, vp_in_nI (show c < 144 by omega) (show 144 < 2 ^ 31 by decide), nI_clamp (show c < 2 ^ 31 by omega), hmr c hc2]
      cases hu : u c with
      | true =>
        rw [hu, if_pos rfl, Nat.add_zero] at hnext
        simp only [s_X10_placeKeys_166, s_X10_placeKeys_196, s_X10_placeKeys_199, aq_gI, aq_gL, aq_gA, aq_isA, aq_s1, aq_s2, aq_kill, aq_ob, aq_sm, aq_arI, aq_arB, aq_isB, aq_arL, aq_arA, aq_arN, aq_sh, Value.category, List.getElem?_cons_zero, List.getElem?_cons_succ, List.length_cons, List.length_nil, Option.toList_some, Option.toList_none, List.cons_append, List.nil_append, true_and, and_true, List.set_cons_zero, List.set_cons_succ, aq_n1, aq_n2, aq_n3, aq_n4, aq_f1, aq_f2, aq_f3, aq_f4, aq_gs, aq_ty1, aq_ty2, aq_ty3, aq_ty4, aq_ty5, Nat.reduceAdd, Nat.reduceLT, Nat.reduceEqDiff, Nat.reduceSub, if_true, if_false, ne_eq, not_false_eq_true, not_true_eq_false, Option.map_some, Option.map_none, Nat.zero_add, reduceCtorEq, Nat.reduceLeDiff, one_ne_zero_a, zero_ne_one_a, aq_nb, aq_nb1, aq_nb0, aq_fb, aq_fb1, aq_fb0, aq_ofN, bB_t, bB_f, bB_v, vpn_b1, vpn_b0, nI_1, Bool.true_eq_false, Bool.false_eq_true, Bool.true_and, Bool.false_and, Bool.and_true, Bool.and_false, Bool.not_true]
        refine hnext h2 mk2 S A2 q1 (fun x hx hux => ?_)
        by_cases z : x = c
        · rw [z, hu] at hux; cases hux
        · exact q2 x (by omega) hux
      | false =>
        rw [hu, if_neg (by decide)] at hnext
        have hz := sub_z (a := N) (b := frc u c) hN (by omega)
        by_cases eN : N = frc u c
        · simp only [s_X10_placeKeys_166, s_X10_placeKeys_169, s_X10_placeKeys_170, s_X10_placeKeys_173, s_X10_placeKeys_175, s_X10_placeKeys_177, s_X10_placeKeys_180, s_X10_placeKeys_182, s_X10_placeKeys_192, s_X10_placeKeys_193, s_X10_placeKeys_196, s_X10_placeKeys_199, aq_gI, aq_gL, aq_gA, aq_isA, aq_s1, aq_s2, aq_kill, aq_ob, aq_sm, aq_arI, aq_arB, aq_isB, aq_arL, aq_arA, aq_arN, aq_sh, Value.category, List.getElem?_cons_zero, List.getElem?_cons_succ, List.length_cons, List.length_nil, Option.toList_some, Option.toList_none, List.cons_append, List.nil_append, true_and, and_true, List.set_cons_zero, List.set_cons_succ, aq_n1, aq_n2, aq_n3, aq_n4, aq_f1, aq_f2, aq_f3, aq_f4, aq_gs, aq_ty1, aq_ty2, aq_ty3, aq_ty4, aq_ty5, Nat.reduceAdd, Nat.reduceLT, Nat.reduceEqDiff, Nat.reduceSub, if_true, if_false, ne_eq, not_false_eq_true, not_true_eq_false, Option.map_some, Option.map_none, Nat.zero_add, reduceCtorEq, Nat.reduceLeDiff, one_ne_zero_a, zero_ne_one_a, aq_nb, aq_nb1, aq_nb0, aq_fb, aq_fb1, aq_fb0, aq_ofN, bB_t, bB_f, bB_v, vpn_b1, vpn_b0, nI_1, Bool.true_eq_false, Bool.false_eq_true, Bool.true_and, Bool.false_and, Bool.and_true, Bool.and_false, Bool.not_false, O2, A2.2.2.2.2.2.2.1, hz.mpr eN, vp_in_nI hk (show 4 < 2 ^ 31 by decide), nI_clamp (show k < 2 ^ 31 by omega)]
          have hs := sub_s N (frc u c)
          rw [hz.mpr eN] at hs
          rw [hs]
          refine hnext _ (upd mk2 k (nI c)) (S.st (by decide) (by decide)) (A2.s56 _) (fun j hj => by rw [upd_n _ _ hj]; exact q1 j hj) (fun x hx hux hf => ?_)
          by_cases z : x = c
          · rw [z, upd_s]
          · have := frc_mn (u := u) (a := x + 1) c (by omega)
            rw [frc_s, hux, if_neg (by decide)] at this
            omega
        · have hz' : ¬ nI N - nI (frc u c) = 0 := fun z => eN (hz.mp z)
          simp only [s_X10_placeKeys_166, s_X10_placeKeys_169, s_X10_placeKeys_170, s_X10_placeKeys_173, s_X10_placeKeys_175, s_X10_placeKeys_177, s_X10_placeKeys_185, s_X10_placeKeys_186, s_X10_placeKeys_189, s_X10_placeKeys_191, s_X10_placeKeys_192, s_X10_placeKeys_193, s_X10_placeKeys_196, s_X10_placeKeys_199, aq_gI, aq_gL, aq_gA, aq_isA, aq_s1, aq_s2, aq_kill, aq_ob, aq_sm, aq_arI, aq_arB, aq_isB, aq_arL, aq_arA, aq_arN, aq_sh, Value.category, List.getElem?_cons_zero, List.getElem?_cons_succ, List.length_cons, List.length_nil, Option.toList_some, Option.toList_none, List.cons_append, List.nil_append, true_and, and_true, List.set_cons_zero, List.set_cons_succ, aq_n1, aq_n2, aq_n3, aq_n4, aq_f1, aq_f2, aq_f3, aq_f4, aq_gs, aq_ty1, aq_ty2, aq_ty3, aq_ty4, aq_ty5, Nat.reduceAdd, Nat.reduceLT, Nat.reduceEqDiff, Nat.reduceSub, if_true, if_false, ne_eq, not_false_eq_true, not_true_eq_false, Option.map_some, Option.map_none, Nat.zero_add, reduceCtorEq, Nat.reduceLeDiff, one_ne_zero_a, zero_ne_one_a, aq_nb, aq_nb1, aq_nb0, aq_fb, aq_fb1, aq_fb0, aq_ofN, bB_t, bB_f, bB_v, vpn_b1, vpn_b0, nI_1, Bool.true_eq_false, Bool.false_eq_true, Bool.true_and, Bool.false_and, Bool.and_true, Bool.and_false, Bool.not_false, O2, A2.2.2.2.2.2.2.1, hz', vp_in_nI hk (show 4 < 2 ^ 31 by decide), nI_clamp (show k < 2 ^ 31 by omega), sub_s]
          refine hnext _ (upd mk2 k (mk2 k)) (S.st (by decide) (by decide)) (A2.s56 _) (fun j hj => by rw [upd_n _ _ hj]; exact q1 j hj) (fun x hx hux hf => ?_)
          rw [upd_s]
          by_cases z : x = c
          · rw [z] at hf; exact absurd hf.symm eN
          · exact q2 x (by omega) hux hf
  have := one (w * ht) 0 (Nat.zero_add _) h mk (sm.rf _ _ _) A (fun _ _ => rfl) (fun x hx => by omega)
  rw [show frc u 0 = 0 from rfl, show nI N - nI 0 = nI N from Int32.sub_zero _] at this
  exact this
theorem m_placeKeys (T : MDL h w ht wx wy cb hm D Z P) (seed : Int32) : aq_T e_X10_placeKeys 9 0 0 [.ref 47, .int seed] h (fun r h' => match (if hm = true then Z.2.2.2.2.2 else none) with
    | none => mR h (-1) w ht wx wy cb hm D Z P r h'
    | some e => mR h (bB (aPk w ht wx wy cb Z e seed).1) w ht wx wy cb true D (Z.1, Z.2.1, Z.2.2.1, (aPk w ht wx wy cb Z e seed).2, Z.2.2.2.2) P r h') := by
  refine ⟨Nat.le_of_ble_eq_true rfl, ?_⟩
  show aq_W _ _ 0 [some (.ref 47), some (.int seed), none, none, none, none, none, none, none] [] _ _ _
  obtain ⟨wr, thr, rt, ci, st, ex, pl, hd, sg, mc, mx, mt, mp, mo, md, mw, mk, mr, tb, pc, fa, go, O0, G0, A0, g⟩ := T
  have OO := O0
  unfold iMo at OO
  simp only [s_X10_placeKeys_0, s_X10_placeKeys_1, s_X10_placeKeys_2, aq_gI, aq_gL, aq_gA, aq_isA, aq_s1, aq_s2, aq_kill, aq_ob, aq_sm, aq_arI, aq_arB, aq_isB, aq_arL, aq_arA, aq_arN, aq_sh, Value.category, List.getElem?_cons_zero, List.getElem?_cons_succ, List.length_cons, List.length_nil, Option.toList_some, Option.toList_none, List.cons_append, List.nil_append, true_and, and_true, List.set_cons_zero, List.set_cons_succ, aq_n1, aq_n2, aq_n3, aq_n4, aq_f1, aq_f2, aq_f3, aq_f4, aq_gs, aq_ty1, aq_ty2, aq_ty3, aq_ty4, aq_ty5, Nat.reduceAdd, Nat.reduceLT, Nat.reduceEqDiff, Nat.reduceSub, if_true, if_false, ne_eq, not_false_eq_true, not_true_eq_false, Option.map_some, Option.map_none, Nat.zero_add, reduceCtorEq, Nat.reduceLeDiff, one_ne_zero_a, zero_ne_one_a, OO]
  have O := O0.st (bB hm) wr 0 rt ci st ex pl hd sg
  have G := G0.s48 (mOb w ht wr 0 (bB hm) rt ci st ex pl hd sg)
  have A := A0.s48 (mOb w ht wr 0 (bB hm) rt ci st ex pl hd sg)
  have S : sm 47 60 h (h.set 47 (mOb w ht wr 0 (bB hm) rt ci st ex pl hd sg)) := (sm.rf _ _ _).st (by decide) (by decide)
  change aq_W _ _ _ _ _ (h.set 47 (mOb w ht wr 0 (bB hm) rt ci st ex pl hd sg)) _ _
  generalize h.set 47 (mOb w ht wr 0 (bB hm) rt ci st ex pl hd sg) = h1 at O G A S ⊢
  have O1 := O
  unfold iMo at O1
  have hn := wh_lt G.1
  cases hm with
  | false =>
    simp only [s_X10_placeKeys_5, s_X10_placeKeys_6, s_X10_placeKeys_9, s_X10_placeKeys_20, s_X10_placeKeys_21, aq_gI, aq_gL, aq_gA, aq_isA, aq_s1, aq_s2, aq_kill, aq_ob, aq_sm, aq_arI, aq_arB, aq_isB, aq_arL, aq_arA, aq_arN, aq_sh, Value.category, List.getElem?_cons_zero, List.getElem?_cons_succ, List.length_cons, List.length_nil, Option.toList_some, Option.toList_none, List.cons_append, List.nil_append, true_and, and_true, List.set_cons_zero, List.set_cons_succ, aq_n1, aq_n2, aq_n3, aq_n4, aq_f1, aq_f2, aq_f3, aq_f4, aq_gs, aq_ty1, aq_ty2, aq_ty3, aq_ty4, aq_ty5, Nat.reduceAdd, Nat.reduceLT, Nat.reduceEqDiff, Nat.reduceSub, if_true, if_false, ne_eq, not_false_eq_true, not_true_eq_false, Option.map_some, Option.map_none, Nat.zero_add, reduceCtorEq, Nat.reduceLeDiff, one_ne_zero_a, zero_ne_one_a, aq_nb, aq_nb1, aq_nb0, aq_fb, aq_fb1, aq_fb0, aq_ofN, bB_t, bB_f, bB_v, vpn_b1, vpn_b0, nI_1, Bool.true_eq_false, Bool.false_eq_true, Bool.true_and, Bool.false_and, Bool.and_true, Bool.and_false, O1]
    exact ⟨rfl, S, MDL_mk O G A g⟩
  | true =>
    obtain ⟨g1, g2, g3, ⟨g4, g5, g6, g7, g8⟩, g9, g10⟩ := g rfl
    cases he : Z.2.2.2.2.2 with
    | none =>
      rw [he] at g5
      simp only [s_X10_placeKeys_5, s_X10_placeKeys_6, s_X10_placeKeys_9, s_X10_placeKeys_12, s_X10_placeKeys_13, s_X10_placeKeys_16, s_X10_placeKeys_17, s_X10_placeKeys_20, s_X10_placeKeys_21, aq_gI, aq_gL, aq_gA, aq_isA, aq_s1, aq_s2, aq_kill, aq_ob, aq_sm, aq_arI, aq_arB, aq_isB, aq_arL, aq_arA, aq_arN, aq_sh, Value.category, List.getElem?_cons_zero, List.getElem?_cons_succ, List.length_cons, List.length_nil, Option.toList_some, Option.toList_none, List.cons_append, List.nil_append, true_and, and_true, List.set_cons_zero, List.set_cons_succ, aq_n1, aq_n2, aq_n3, aq_n4, aq_f1, aq_f2, aq_f3, aq_f4, aq_gs, aq_ty1, aq_ty2, aq_ty3, aq_ty4, aq_ty5, Nat.reduceAdd, Nat.reduceLT, Nat.reduceEqDiff, Nat.reduceSub, if_true, if_false, ne_eq, not_false_eq_true, not_true_eq_false, Option.map_some, Option.map_none, Nat.zero_add, reduceCtorEq, Nat.reduceLeDiff, one_ne_zero_a, zero_ne_one_a, aq_nb, aq_nb1, aq_nb0, aq_fb, aq_fb1, aq_fb0, aq_ofN, bB_t, bB_f, bB_v, vpn_b1, vpn_b0, nI_1, Bool.true_eq_false, Bool.false_eq_true, Bool.true_and, Bool.false_and, Bool.and_true, Bool.and_false, O1, g5, oI]
      exact ⟨rfl, S, MDL_mk O G A g⟩
    | some e =>
      have g5' := g5
      rw [he] at g5'
      have hee := g10.2.1 e he
      simp only [s_X10_placeKeys_5, s_X10_placeKeys_6, s_X10_placeKeys_9, s_X10_placeKeys_12, s_X10_placeKeys_13, s_X10_placeKeys_16, s_X10_placeKeys_17, s_X10_placeKeys_22, s_X10_placeKeys_23, aq_gI, aq_gL, aq_gA, aq_isA, aq_s1, aq_s2, aq_kill, aq_ob, aq_sm, aq_arI, aq_arB, aq_isB, aq_arL, aq_arA, aq_arN, aq_sh, Value.category, List.getElem?_cons_zero, List.getElem?_cons_succ, List.length_cons, List.length_nil, Option.toList_some, Option.toList_none, List.cons_append, List.nil_append, true_and, and_true, List.set_cons_zero, List.set_cons_succ, aq_n1, aq_n2, aq_n3, aq_n4, aq_f1, aq_f2, aq_f3, aq_f4, aq_gs, aq_ty1, aq_ty2, aq_ty3, aq_ty4, aq_ty5, Nat.reduceAdd, Nat.reduceLT, Nat.reduceEqDiff, Nat.reduceSub, if_true, if_false, ne_eq, not_false_eq_true, not_true_eq_false, Option.map_some, Option.map_none, Nat.zero_add, reduceCtorEq, Nat.reduceLeDiff, one_ne_zero_a, zero_ne_one_a, aq_nb, aq_nb1, aq_nb0, aq_fb, aq_fb1, aq_fb0, aq_ofN, bB_t, bB_f, bB_v, vpn_b1, vpn_b0, nI_1, Bool.true_eq_false, Bool.false_eq_true, Bool.true_and, Bool.false_and, Bool.and_true, Bool.and_false, O1, g5', oI, nI_ne_m1 (show e < 2 ^ 31 by omega)]
      rw [← nI_0]
      generalize hR : aPk w ht wx wy cb Z e seed = R
      unfold aPk at hR
      generalize hf : (fun put c d => stf w ht wx wy cb Z.1 Z.2.1 Z.2.2.1 c d (nI put)) = f at hR
      generalize hg : (fun c d => (wkp w ht wx wy cb Z.1 Z.2.2.1 c d).bind Z.2.1) = gg at hR
      have O0 := O
      subst g4
      have one : ∀ (t n : Nat), n + t = 5 → ∀ (ky : Nat → Option Nat) (put : Nat) (x : Int32) (h2 : aq_H) (mk mr : Nat → Int32) (L5 L6 L7 L8 : Option Value), put < 16 → sm 47 60 h h2 → iMo h2 w ht wr 0 1 rt ci (nI Z.2.2.2.2.1) ex pl hd sg → gMb h2 w ht wx wy cb wr mc → iAr h2 mx mt mp mo md mw mk mr tb pc fa go → (∀ k, k < 4 → mk k = oI (ky k)) → (∀ i m, i < 4 → ky i = some m → m < w * ht ∧ cb m = false) → pkf (w * ht) f gg Z.2.2.2.2.1 e t ky put x = R → aq_W e_X10_placeKeys (mR h (bB R.1) w ht wx wy cb true D (Z.1, Z.2.1, Z.2.2.1, R.2, Z.2.2.2.2) P) 49 [some (.ref 47), some (.int seed), some (.int (nI put)), some (.int x), some (.int (nI n)), L5, L6, L7, L8] [] h2 0 0 := by
        intro t
        induction t with
        | zero =>
          intro n hn5 ky put x h2 mk mr L5 L6 L7 L8 hput S2 O2 G2 A2 hk hw hpk
          have e5 : n = 5 := by omega
          subst e5
          have h5 : (5 : Int32) ≤ nI 5 := by decide
          unfold pkf at hpk
          subst hpk
          rw [s_X10_placeKeys_49]
          simp only [s_X10_placeKeys_51, s_X10_placeKeys_52, s_X10_placeKeys_215, s_X10_placeKeys_216, aq_gI, aq_gL, aq_gA, aq_isA, aq_s1, aq_s2, aq_kill, aq_ob, aq_sm, aq_arI, aq_arB, aq_isB, aq_arL, aq_arA, aq_arN, aq_sh, Value.category, List.getElem?_cons_zero, List.getElem?_cons_succ, List.length_cons, List.length_nil, Option.toList_some, Option.toList_none, List.cons_append, List.nil_append, true_and, and_true, List.set_cons_zero, List.set_cons_succ, aq_n1, aq_n2, aq_n3, aq_n4, aq_f1, aq_f2, aq_f3, aq_f4, aq_gs, aq_ty1, aq_ty2, aq_ty3, aq_ty4, aq_ty5, Nat.reduceAdd, Nat.reduceLT, Nat.reduceEqDiff, Nat.reduceSub, if_true, if_false, ne_eq, not_false_eq_true, not_true_eq_false, Option.map_some, Option.map_none, Nat.zero_add, reduceCtorEq, Nat.reduceLeDiff, one_ne_zero_a, zero_ne_one_a, aq_nb, aq_nb1, aq_nb0, aq_fb, aq_fb1, aq_fb0, aq_ofN, bB_t, bB_f, bB_v, vpn_b1, vpn_b0, nI_1, Bool.true_eq_false, Bool.false_eq_true, Bool.true_and, Bool.false_and, Bool.and_true, Bool.and_false, h5]
          exact ⟨rfl, S2, MDL_mk O2 G2 A2 (fun _ => ⟨g1, g2, hk, ⟨rfl, g5, g6, g7, g8⟩, g9, g10.1, g10.2.1, hw, g10.2.2.2⟩)⟩
        | succ t ih =>
          intro n hn5 ky put x h2 mk mr L5 L6 L7 L8 hput S2 O2 G2 A2 hk hw hpk
          have h5 : ¬ (5 : Int32) ≤ nI n := by
            rw [show (5 : Int32) = nI 5 from rfl]; exact nI_ge (show n < 5 by omega) (by decide)
          have O3 := O2
          unfold iMo at O3
          rw [s_X10_placeKeys_49]
          simp only [s_X10_placeKeys_51, s_X10_placeKeys_52, s_X10_placeKeys_55, s_X10_placeKeys_56, s_X10_placeKeys_57, aq_gI, aq_gL, aq_gA, aq_isA, aq_s1, aq_s2, aq_kill, aq_ob, aq_sm, aq_arI, aq_arB, aq_isB, aq_arL, aq_arA, aq_arN, aq_sh, Value.category, List.getElem?_cons_zero, List.getElem?_cons_succ, List.length_cons, List.length_nil, Option.toList_some, Option.toList_none, List.cons_append, List.nil_append, true_and, and_true, List.set_cons_zero, List.set_cons_succ, aq_n1, aq_n2, aq_n3, aq_n4, aq_f1, aq_f2, aq_f3, aq_f4, aq_gs, aq_ty1, aq_ty2, aq_ty3, aq_ty4, aq_ty5, Nat.reduceAdd, Nat.reduceLT, Nat.reduceEqDiff, Nat.reduceSub, if_true, if_false, ne_eq, not_false_eq_true, not_true_eq_false, Option.map_some, Option.map_none, Nat.zero_add, reduceCtorEq, Nat.reduceLeDiff, one_ne_zero_a, zero_ne_one_a, aq_nb, aq_nb1, aq_nb0, aq_fb, aq_fb1, aq_fb0, aq_ofN, bB_t, bB_f, bB_v, vpn_b1, vpn_b0, nI_1, Bool.true_eq_false, Bool.false_eq_true, Bool.true_and, Bool.false_and, Bool.and_true, Bool.and_false, h5, O3]
          refine (m_reach O2 G2 A2 g2 g9.1 g10.1.1 (nI put)).use ?_
          rintro _ h3 ⟨rfl, S3, mr3, u, b8, hmr, hu⟩
          have O4 := O2.sm S3 (by decide)
          have G4 := G2.sm S3 (by decide)
          have A4 := iAr_rr A2 S3 b8
          have S4 := S2.tr (S3.mo (by decide) (by decide))
          have O5 := O4
          unfold iMo at O5
          have hu2 := rB_u hu
          rw [show (fun c d => stf w ht wx wy cb Z.1 Z.2.1 Z.2.2.1 c d (nI put)) = f put by rw [← hf]] at hu hu2
          have hub : ∀ c, (!u c) = rB (f put) Z.2.2.2.2.1 c := fun c => by rw [hu2]; exact Bool.not_not _
          unfold pkf at hpk
          simp only [s_X10_placeKeys_60, s_X10_placeKeys_61, s_X10_placeKeys_64, s_X10_placeKeys_65, s_X10_placeKeys_68, aq_gI, aq_gL, aq_gA, aq_isA, aq_s1, aq_s2, aq_kill, aq_ob, aq_sm, aq_arI, aq_arB, aq_isB, aq_arL, aq_arA, aq_arN, aq_sh, Value.category, List.getElem?_cons_zero, List.getElem?_cons_succ, List.length_cons, List.length_nil, Option.toList_some, Option.toList_none, List.cons_append, List.nil_append, true_and, and_true, List.set_cons_zero, List.set_cons_succ, aq_n1, aq_n2, aq_n3, aq_n4, aq_f1, aq_f2, aq_f3, aq_f4, aq_gs, aq_ty1, aq_ty2, aq_ty3, aq_ty4, aq_ty5, Nat.reduceAdd, Nat.reduceLT, Nat.reduceEqDiff, Nat.reduceSub, if_true, if_false, ne_eq, not_false_eq_true, not_true_eq_false, Option.map_some, Option.map_none, Nat.zero_add, reduceCtorEq, Nat.reduceLeDiff, one_ne_zero_a, zero_ne_one_a, aq_nb, aq_nb1, aq_nb0, aq_fb, aq_fb1, aq_fb0, aq_ofN, bB_t, bB_f, bB_v, vpn_b1, vpn_b0, nI_1, Bool.true_eq_false, Bool.false_eq_true, Bool.true_and, Bool.false_and, Bool.and_true, Bool.and_false, O5, b8, g5', oI, vp_in_nI (show e < 144 by omega) (show 144 < 2 ^ 31 by decide), nI_clamp (show e < 2 ^ 31 by omega), hmr e hee.1, hub e]
          cases eb : rB (f put) Z.2.2.2.2.1 e with
          | true =>
            rw [eb, if_pos rfl] at hpk
            subst hpk
            simp only [s_X10_placeKeys_69, s_X10_placeKeys_72, s_X10_placeKeys_73, aq_gI, aq_gL, aq_gA, aq_isA, aq_s1, aq_s2, aq_kill, aq_ob, aq_sm, aq_arI, aq_arB, aq_isB, aq_arL, aq_arA, aq_arN, aq_sh, Value.category, List.getElem?_cons_zero, List.getElem?_cons_succ, List.length_cons, List.length_nil, Option.toList_some, Option.toList_none, List.cons_append, List.nil_append, true_and, and_true, List.set_cons_zero, List.set_cons_succ, aq_n1, aq_n2, aq_n3, aq_n4, aq_f1, aq_f2, aq_f3, aq_f4, aq_gs, aq_ty1, aq_ty2, aq_ty3, aq_ty4, aq_ty5, Nat.reduceAdd, Nat.reduceLT, Nat.reduceEqDiff, Nat.reduceSub, if_true, if_false, ne_eq, not_false_eq_true, not_true_eq_false, Option.map_some, Option.map_none, Nat.zero_add, reduceCtorEq, Nat.reduceLeDiff, one_ne_zero_a, zero_ne_one_a, aq_nb, aq_nb1, aq_nb0, aq_fb, aq_fb1, aq_fb0, aq_ofN, bB_t, bB_f, bB_v, vpn_b1, vpn_b0, nI_1, Bool.true_eq_false, Bool.false_eq_true, Bool.true_and, Bool.false_and, Bool.and_true, Bool.and_false]
            exact ⟨rfl, S4, MDL_mk O4 G4 A4 (fun _ => ⟨g1, g2, hk, ⟨rfl, g5, g6, g7, g8⟩, g9, g10.1, g10.2.1, hw, g10.2.2.2⟩)⟩
          | false =>
            rw [eb, if_neg (by decide)] at hpk
            simp only [s_X10_placeKeys_69, s_X10_placeKeys_74, s_X10_placeKeys_75, s_X10_placeKeys_76, aq_gI, aq_gL, aq_gA, aq_isA, aq_s1, aq_s2, aq_kill, aq_ob, aq_sm, aq_arI, aq_arB, aq_isB, aq_arL, aq_arA, aq_arN, aq_sh, Value.category, List.getElem?_cons_zero, List.getElem?_cons_succ, List.length_cons, List.length_nil, Option.toList_some, Option.toList_none, List.cons_append, List.nil_append, true_and, and_true, List.set_cons_zero, List.set_cons_succ, aq_n1, aq_n2, aq_n3, aq_n4, aq_f1, aq_f2, aq_f3, aq_f4, aq_gs, aq_ty1, aq_ty2, aq_ty3, aq_ty4, aq_ty5, Nat.reduceAdd, Nat.reduceLT, Nat.reduceEqDiff, Nat.reduceSub, if_true, if_false, ne_eq, not_false_eq_true, not_true_eq_false, Option.map_some, Option.map_none, Nat.zero_add, reduceCtorEq, Nat.reduceLeDiff, one_ne_zero_a, zero_ne_one_a, aq_nb, aq_nb1, aq_nb0, aq_fb, aq_fb1, aq_fb0, aq_ofN, bB_t, bB_f, bB_v, vpn_b1, vpn_b0, nI_1, Bool.true_eq_false, Bool.false_eq_true, Bool.true_and, Bool.false_and, Bool.and_true, Bool.and_false, O5]
            refine (m_wanted O4 G4 A4 g2 g9.1 hmr hput).use ?_
            rintro _ h3 ⟨rfl, rfl⟩
            rw [show (fun c d => (wkp w ht wx wy cb Z.1 Z.2.2.1 c d).bind Z.2.1) = gg from hg, show (fun c => !u c) = rB (f put) Z.2.2.2.2.1 from funext hub]
            cases el : lop (fun k => wkB (w * ht) (rB (f put) Z.2.2.2.2.1) gg k && !put.testBit k) 4 0 with
            | none =>
              rw [el] at hpk
              subst hpk
              simp only [s_X10_placeKeys_79, s_X10_placeKeys_81, s_X10_placeKeys_83, s_X10_placeKeys_84, s_X10_placeKeys_87, s_X10_placeKeys_88, aq_gI, aq_gL, aq_gA, aq_isA, aq_s1, aq_s2, aq_kill, aq_ob, aq_sm, aq_arI, aq_arB, aq_isB, aq_arL, aq_arA, aq_arN, aq_sh, Value.category, List.getElem?_cons_zero, List.getElem?_cons_succ, List.length_cons, List.length_nil, Option.toList_some, Option.toList_none, List.cons_append, List.nil_append, true_and, and_true, List.set_cons_zero, List.set_cons_succ, aq_n1, aq_n2, aq_n3, aq_n4, aq_f1, aq_f2, aq_f3, aq_f4, aq_gs, aq_ty1, aq_ty2, aq_ty3, aq_ty4, aq_ty5, Nat.reduceAdd, Nat.reduceLT, Nat.reduceEqDiff, Nat.reduceSub, if_true, if_false, ne_eq, not_false_eq_true, not_true_eq_false, Option.map_some, Option.map_none, Nat.zero_add, reduceCtorEq, Nat.reduceLeDiff, one_ne_zero_a, zero_ne_one_a, aq_nb, aq_nb1, aq_nb0, aq_fb, aq_fb1, aq_fb0, aq_ofN, bB_t, bB_f, bB_v, vpn_b1, vpn_b0, nI_1, Bool.true_eq_false, Bool.false_eq_true, Bool.true_and, Bool.false_and, Bool.and_true, Bool.and_false, oI]
              exact ⟨rfl, S4, MDL_mk O4 G4 A4 (fun _ => ⟨g1, g2, hk, ⟨rfl, g5, g6, g7, g8⟩, g9, g10.1, g10.2.1, hw, g10.2.2.2⟩)⟩
            | some k =>
              rw [el] at hpk
              have hk4 : k < 4 := by have := lop_ok 4 0 el; omega
              simp only [s_X10_placeKeys_79, s_X10_placeKeys_81, s_X10_placeKeys_83, s_X10_placeKeys_84, s_X10_placeKeys_89, s_X10_placeKeys_90, s_X10_placeKeys_92, s_X10_placeKeys_93, aq_gI, aq_gL, aq_gA, aq_isA, aq_s1, aq_s2, aq_kill, aq_ob, aq_sm, aq_arI, aq_arB, aq_isB, aq_arL, aq_arA, aq_arN, aq_sh, Value.category, List.getElem?_cons_zero, List.getElem?_cons_succ, List.length_cons, List.length_nil, Option.toList_some, Option.toList_none, List.cons_append, List.nil_append, true_and, and_true, List.set_cons_zero, List.set_cons_succ, aq_n1, aq_n2, aq_n3, aq_n4, aq_f1, aq_f2, aq_f3, aq_f4, aq_gs, aq_ty1, aq_ty2, aq_ty3, aq_ty4, aq_ty5, Nat.reduceAdd, Nat.reduceLT, Nat.reduceEqDiff, Nat.reduceSub, if_true, if_false, ne_eq, not_false_eq_true, not_true_eq_false, Option.map_some, Option.map_none, Nat.zero_add, reduceCtorEq, Nat.reduceLeDiff, one_ne_zero_a, zero_ne_one_a, aq_nb, aq_nb1, aq_nb0, aq_fb, aq_fb1, aq_fb0, aq_ofN, bB_t, bB_f, bB_v, vpn_b1, vpn_b0, nI_1, Bool.true_eq_false, Bool.false_eq_true, Bool.true_and, Bool.false_and, Bool.and_true, Bool.and_false, oI, nI_ne_m1 (show k < 2 ^ 31 by omega)]
              rw [← nI_0]
              refine pk_count O4 A4 (by omega) hmr ?_
              have hus : u Z.2.2.2.2.1 = false := (hu _).mpr Rc.rt
              have hp := frc_pos (n := w * ht) g10.1.1 hus
              have hfl := frc_le u (w * ht)
              have hnx : x * 1664525 + 1013904223 = nxt x := rfl
              have hcl := chs_lt (nxt x) hp
              simp only [s_X10_placeKeys_130, s_X10_placeKeys_131, s_X10_placeKeys_133, s_X10_placeKeys_134, s_X10_placeKeys_136, s_X10_placeKeys_137, s_X10_placeKeys_138, s_X10_placeKeys_139, s_X10_placeKeys_141, s_X10_placeKeys_142, s_X10_placeKeys_144, s_X10_placeKeys_145, s_X10_placeKeys_147, s_X10_placeKeys_148, aq_gI, aq_gL, aq_gA, aq_isA, aq_s1, aq_s2, aq_kill, aq_ob, aq_sm, aq_arI, aq_arB, aq_isB, aq_arL, aq_arA, aq_arN, aq_sh, Value.category, List.getElem?_cons_zero, List.getElem?_cons_succ, List.length_cons, List.length_nil, Option.toList_some, Option.toList_none, List.cons_append, List.nil_append, true_and, and_true, List.set_cons_zero, List.set_cons_succ, aq_n1, aq_n2, aq_n3, aq_n4, aq_f1, aq_f2, aq_f3, aq_f4, aq_gs, aq_ty1, aq_ty2, aq_ty3, aq_ty4, aq_ty5, Nat.reduceAdd, Nat.reduceLT, Nat.reduceEqDiff, Nat.reduceSub, if_true, if_false, ne_eq, not_false_eq_true, not_true_eq_false, Option.map_some, Option.map_none, Nat.zero_add, reduceCtorEq, Nat.reduceLeDiff, one_ne_zero_a, zero_ne_one_a, aq_nb, aq_nb1, aq_nb0, aq_fb, aq_fb1, aq_fb0, aq_ofN, bB_t, bB_f, bB_v, vpn_b1, vpn_b0, nI_1, Bool.true_eq_false, Bool.false_eq_true, Bool.true_and, Bool.false_and, Bool.and_true, Bool.and_false, hnx, ushr16, nI_ne0 hp (show frc u (w * ht) < 2 ^ 31 by omega), rem16 (nxt x) hp (show frc u (w * ht) < 2 ^ 31 by omega)]
              rw [← nI_0]
              refine pk_put hk4 O4 A4 (by omega) hmr (by omega) ?_
              intro h6 mk6 x7 S6 A6 q1 q2
              simp only [s_X10_placeKeys_202, s_X10_placeKeys_203, s_X10_placeKeys_204, s_X10_placeKeys_206, s_X10_placeKeys_207, s_X10_placeKeys_208, s_X10_placeKeys_209, s_X10_placeKeys_212, aq_gI, aq_gL, aq_gA, aq_isA, aq_s1, aq_s2, aq_kill, aq_ob, aq_sm, aq_arI, aq_arB, aq_isB, aq_arL, aq_arA, aq_arN, aq_sh, Value.category, List.getElem?_cons_zero, List.getElem?_cons_succ, List.length_cons, List.length_nil, Option.toList_some, Option.toList_none, List.cons_append, List.nil_append, true_and, and_true, List.set_cons_zero, List.set_cons_succ, aq_n1, aq_n2, aq_n3, aq_n4, aq_f1, aq_f2, aq_f3, aq_f4, aq_gs, aq_ty1, aq_ty2, aq_ty3, aq_ty4, aq_ty5, Nat.reduceAdd, Nat.reduceLT, Nat.reduceEqDiff, Nat.reduceSub, if_true, if_false, ne_eq, not_false_eq_true, not_true_eq_false, Option.map_some, Option.map_none, Nat.zero_add, reduceCtorEq, Nat.reduceLeDiff, one_ne_zero_a, zero_ne_one_a, aq_nb, aq_nb1, aq_nb0, aq_fb, aq_fb1, aq_fb0, aq_ofN, bB_t, bB_f, bB_v, vpn_b1, vpn_b0, nI_1, Bool.true_eq_false, Bool.false_eq_true, Bool.true_and, Bool.false_and, Bool.and_true, Bool.and_false, shl_bit k hk4, nI_or16 _ hput _ (bit_lt k hk4)]
              rw [← hu2] at hpk
              obtain ⟨y, y1, y2, y3⟩ := frc_ex (w * ht) hcl
              have hnt : nthc (rB (f put) Z.2.2.2.2.1) (w * ht) 0 (chs (nxt x) (frc u (w * ht))) = some y := by
                rw [← (funext hub : (fun c => !u c) = rB (f put) Z.2.2.2.2.1)]
                exact nthc_fr (w * ht) 0 y _ (Nat.zero_le _) (by omega) y2 (by rw [y3]; exact Nat.zero_add _)
              rw [hnt] at hpk
              have hyc : y < w * ht ∧ cb y = false := by
                refine Rc_ok (Q := fun c => c < w * ht ∧ cb c = false) g10.1 (fun c d m hc hd hx => ?_) ((hu y).mp y2)
                rw [← hf] at hx
                have hx2 := nx_ok G.1.2.1 G.1.2.2.2 hc.1 hd (stf_nx hx)
                exact ⟨hx2.1, hx2.2.2.2.1⟩
              refine ih (n + 1) (by omega) (fs ky k (some y)) (put ||| 1 <<< k) (nxt x) h6 mk6 mr3 _ _ _ _ (or16 _ hput _ (bit_lt k hk4)) (S4.tr (S6.mo (by decide) (by decide))) (O4.sm S6 (by decide)) (G4.sm S6 (by decide)) A6 (fun i hi => ?_) (fun i m hi hm => ?_) hpk
              · by_cases z : i = k
                · rw [z, fs_s]; exact q2 y y1 y2 y3
                · rw [fs_n _ _ z, q1 i z]; exact hk i hi
              · by_cases z : i = k
                · rw [z, fs_s] at hm; cases hm; exact hyc
                · rw [fs_n _ _ z] at hm; exact hw i m hi hm
      refine pk_clear O A ?_
      intro h2 mk2 S2 A2 q
      simp only [s_X10_placeKeys_42, s_X10_placeKeys_43, s_X10_placeKeys_44, s_X10_placeKeys_45, s_X10_placeKeys_46, s_X10_placeKeys_47, aq_gI, aq_gL, aq_gA, aq_isA, aq_s1, aq_s2, aq_kill, aq_ob, aq_sm, aq_arI, aq_arB, aq_isB, aq_arL, aq_arA, aq_arN, aq_sh, Value.category, List.getElem?_cons_zero, List.getElem?_cons_succ, List.length_cons, List.length_nil, Option.toList_some, Option.toList_none, List.cons_append, List.nil_append, true_and, and_true, List.set_cons_zero, List.set_cons_succ, aq_n1, aq_n2, aq_n3, aq_n4, aq_f1, aq_f2, aq_f3, aq_f4, aq_gs, aq_ty1, aq_ty2, aq_ty3, aq_ty4, aq_ty5, Nat.reduceAdd, Nat.reduceLT, Nat.reduceEqDiff, Nat.reduceSub, if_true, if_false, ne_eq, not_false_eq_true, not_true_eq_false, Option.map_some, Option.map_none, Nat.zero_add, reduceCtorEq, Nat.reduceLeDiff, one_ne_zero_a, zero_ne_one_a, aq_nb, aq_nb1, aq_nb0, aq_fb, aq_fb1, aq_fb0, aq_ofN, bB_t, bB_f, bB_v, vpn_b1, vpn_b0, nI_1, Bool.true_eq_false, Bool.false_eq_true, Bool.true_and, Bool.false_and, Bool.and_true, Bool.and_false]
      rw [← nI_0]
      exact one 5 0 rfl (fun _ => none) 0 seed h2 mk2 mr _ _ _ _ (by decide) (S.tr (S2.mo (by decide) (by decide))) (O.sm S2 (by decide)) (G.sm S2 (by decide)) A2 (fun k hk => q k hk) (fun i m _ hm => by cases hm) hR
end MPK
