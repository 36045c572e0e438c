/-! the desk's count of trees -/
theorem va_s (k : Nat) : va_rf (some k) = .ref k := rfl
def updM (mx : Nat → Nat → Int64) (r c : Nat) (x : Int64) : Nat → Nat → Int64 := fun i => if i = r then vp_updL (mx r) c x else mx i
theorem updM_s (mx : Nat → Nat → Int64) (r c : Nat) (x : Int64) : updM mx r c x r c = x := by unfold updM; rw [if_pos rfl]; exact pk_uLs
theorem updM_n (mx : Nat → Nat → Int64) {r c i j : Nat} (x : Int64) (h : i ≠ r ∨ j ≠ c) : updM mx r c x i j = mx i j := by
  unfold updM
  by_cases e : i = r
  · rw [if_pos e]
    rcases h with h | h
    · exact absurd e h
    · rw [pk_uLn h, e]
  · rw [if_neg e]
theorem mul_bd {x y : Int} (h1 : -1073741824 ≤ x) (h2 : x ≤ 1073741824) (h3 : -1073741824 ≤ y) (h4 : y ≤ 1073741824) : -1152921504606846976 ≤ x * y ∧ x * y ≤ 1152921504606846976 := by
  have : (x * y).natAbs ≤ 1073741824 * 1073741824 := by
    rw [Int.natAbs_mul]
    exact Nat.mul_le_mul (by omega) (by omega)
  omega
section TRE
variable {h h' : aq_H} {w ht n m k : Nat} {wx wy hm : Bool} {cb : Nat → Bool} {cut bes lead pas : Nat → Int32} {fr : Int32} {ro : Nat → Int32} {mx : Nat → Nat → Int64} {M : Nat → Nat → Int}
theorem iTc.sm (T : iTc h n ro mx) {a b : Nat} (S : sm a b h h') (hab : b < 13 ∨ 31 < a) : iTc h' n ro mx := by
  obtain ⟨m1, m2, m3, m4⟩ := T
  exact ⟨(S 13 (by omega)).trans m1, (S 14 (by omega)).trans m2, (S 15 (by omega)).trans m3, fun i hi => (S (16 + i) (by omega)).trans (m4 i hi)⟩
theorem iTc.st (T : iTc h n ro mx) {r : Nat} (hr : r < 16) (f : Nat → Int64) : iTc (h.set (16 + r) (.inl (.long, 16, .inr (.inl f)))) n ro (fs mx r f) := by
  obtain ⟨m1, m2, m3, m4⟩ := T
  refine ⟨by rw [aq_gs, if_neg (by omega)]; exact m1, by rw [aq_gs, if_neg (by omega)]; exact m2, by rw [aq_gs, if_neg (by omega)]; exact m3, fun i hi => ?_⟩
  rw [aq_gs]
  by_cases e : i = r
  · rw [if_pos (by omega), e, fs_s, m4 r hr]; rfl
  · rw [if_neg (by omega), fs_n _ _ e]; exact m4 i hi
theorem t_fillL {a : Nat} {f : Nat → Int64} (ha : h[a]? = some (.inl (.long, n, .inr (.inl f)))) (hn : n < 2 ^ 31) (v : Int64) : aq_T e_J7_fill_d0a16 5 0 0 [.ref a, .long v] h (fun r h' => r = none ∧ ∃ g, h' = h.set a (.inl (.long, n, .inr (.inl g))) ∧ ∀ j, j < n → g j = v) := by
  refine ⟨Nat.le_of_ble_eq_true rfl, ?_⟩
  show aq_W _ _ 0 [some (.ref a), some (.long v), none, none, none] [] _ _ _
  have key : ∀ (k i : Nat), i + k = n → ∀ (g : Nat → Int64), (∀ j, j < i → g j = v) → aq_W e_J7_fill_d0a16 (fun r h' => r = none ∧ ∃ g, h' = h.set a (.inl (.long, n, .inr (.inl g))) ∧ ∀ j, j < n → g j = v) 6 [some (.ref a), some (.long v), none, some (.int (nI i)), some (.int (nI n))] [] (h.set a (.inl (.long, n, .inr (.inl g)))) 0 0 := by
    intro k
    induction k with
    | zero =>
      intro i hi g hg
      have e : i = n := by omega
      subst e
      rw [s_J7_fill_d0a16_6]
      simp only [s_J7_fill_d0a16_0, s_J7_fill_d0a16_1, s_J7_fill_d0a16_2, s_J7_fill_d0a16_3, s_J7_fill_d0a16_4, s_J7_fill_d0a16_7, s_J7_fill_d0a16_9, s_J7_fill_d0a16_12, s_J7_fill_d0a16_13, s_J7_fill_d0a16_14, s_J7_fill_d0a16_15, s_J7_fill_d0a16_16, s_J7_fill_d0a16_19, s_J7_fill_d0a16_22, aq_gI, aq_gL, aq_gA, aq_isA, aq_s1, aq_s2, aq_kill, aq_ob, aq_sm, aq_arI, aq_arB, aq_isB, aq_arL, aq_arA, aq_arN, aq_sh, Value.category, List.getElem?_cons_zero, List.getElem?_cons_succ, List.length_cons, List.length_nil, Option.toList_some, Option.toList_none, List.cons_append, List.nil_append, true_and, and_true, List.set_cons_zero, List.set_cons_succ, aq_n1, aq_n2, aq_n3, aq_n4, aq_f1, aq_f2, aq_f3, aq_f4, aq_gs, aq_ty1, aq_ty2, aq_ty3, aq_ty4, aq_ty5, Nat.reduceAdd, Nat.reduceLT, Nat.reduceEqDiff, Nat.reduceSub, if_true, if_false, ne_eq, not_false_eq_true, not_true_eq_false, Option.map_some, Option.map_none, Nat.zero_add, reduceCtorEq, Nat.reduceLeDiff, one_ne_zero_a, zero_ne_one_a, nI_le (Nat.le_refl i) hn]
      exact ⟨g, rfl, hg⟩
    | succ k ih =>
      intro i hi g hg
      rw [s_J7_fill_d0a16_6]
      simp only [s_J7_fill_d0a16_0, s_J7_fill_d0a16_1, s_J7_fill_d0a16_2, s_J7_fill_d0a16_3, s_J7_fill_d0a16_4, s_J7_fill_d0a16_7, s_J7_fill_d0a16_9, s_J7_fill_d0a16_12, s_J7_fill_d0a16_13, s_J7_fill_d0a16_14, s_J7_fill_d0a16_15, s_J7_fill_d0a16_16, s_J7_fill_d0a16_19, s_J7_fill_d0a16_22, aq_gI, aq_gL, aq_gA, aq_isA, aq_s1, aq_s2, aq_kill, aq_ob, aq_sm, aq_arI, aq_arB, aq_isB, aq_arL, aq_arA, aq_arN, aq_sh, Value.category, List.getElem?_cons_zero, List.getElem?_cons_succ, List.length_cons, List.length_nil, Option.toList_some, Option.toList_none, List.cons_append, List.nil_append, true_and, and_true, List.set_cons_zero, List.set_cons_succ, aq_n1, aq_n2, aq_n3, aq_n4, aq_f1, aq_f2, aq_f3, aq_f4, aq_gs, aq_ty1, aq_ty2, aq_ty3, aq_ty4, aq_ty5, Nat.reduceAdd, Nat.reduceLT, Nat.reduceEqDiff, Nat.reduceSub, if_true, if_false, ne_eq, not_false_eq_true, not_true_eq_false, Option.map_some, Option.map_none, Nat.zero_add, reduceCtorEq, Nat.reduceLeDiff, one_ne_zero_a, zero_ne_one_a, nI_ge (show i < n by omega) hn, ha, nI_clamp (show i < 2 ^ 31 by omega), vp_in_nI (show i < n by omega) hn, List.set_set, nI_1]
      refine ih (i + 1) (by omega) _ (fun j hj => ?_)
      by_cases e : j = i
      · rw [e]; exact pk_uLs
      · rw [pk_uLn e]; exact hg j (by omega)
  have e0 : h = h.set a (.inl (.long, n, .inr (.inl f))) := by
    apply List.ext_getElem?
    intro j
    rw [aq_gs]
    split
    · rename_i e; rw [← e, ha]; rfl
    · rfl
  simp only [s_J7_fill_d0a16_0, s_J7_fill_d0a16_1, s_J7_fill_d0a16_2, s_J7_fill_d0a16_3, s_J7_fill_d0a16_4, s_J7_fill_d0a16_7, s_J7_fill_d0a16_9, s_J7_fill_d0a16_12, s_J7_fill_d0a16_13, s_J7_fill_d0a16_14, s_J7_fill_d0a16_15, s_J7_fill_d0a16_16, s_J7_fill_d0a16_19, s_J7_fill_d0a16_22, aq_gI, aq_gL, aq_gA, aq_isA, aq_s1, aq_s2, aq_kill, aq_ob, aq_sm, aq_arI, aq_arB, aq_isB, aq_arL, aq_arA, aq_arN, aq_sh, Value.category, List.getElem?_cons_zero, List.getElem?_cons_succ, List.length_cons, List.length_nil, Option.toList_some, Option.toList_none, List.cons_append, List.nil_append, true_and, and_true, List.set_cons_zero, List.set_cons_succ, aq_n1, aq_n2, aq_n3, aq_n4, aq_f1, aq_f2, aq_f3, aq_f4, aq_gs, aq_ty1, aq_ty2, aq_ty3, aq_ty4, aq_ty5, Nat.reduceAdd, Nat.reduceLT, Nat.reduceEqDiff, Nat.reduceSub, if_true, if_false, ne_eq, not_false_eq_true, not_true_eq_false, Option.map_some, Option.map_none, Nat.zero_add, reduceCtorEq, Nat.reduceLeDiff, one_ne_zero_a, zero_ne_one_a, ha]
  have k0 := key n 0 (by omega) f (fun j hj => by omega)
  rw [← e0] at k0
  exact k0
theorem t_numberRows (B : iBd h w ht cut bes lead pas fr) (G : gBd w ht wx wy cb cut bes lead pas fr) (T : iTc h (w * ht) ro mx) : aq_T e_X7_numberRows 3 0 0 [.ref 13] h (fun r h' => r = none ∧ sm 14 14 h h' ∧ ∃ ro', iTc h' (w * ht) ro' mx ∧ ∀ c, c < w * ht → cb c = false → ro' c = nI (frc cb c)) := by
  have hn := wh_lt G.1
  refine ⟨Nat.le_of_ble_eq_true rfl, ?_⟩
  show aq_W _ _ 0 [some (.ref 13), none, none] [] _ _ _
  have one : ∀ (j c : Nat), c + j = w * ht → ∀ (h2 : aq_H) (ro' : Nat → Int32), sm 14 14 h h2 → iTc h2 (w * ht) ro' mx → (∀ x, x < c → cb x = false → ro' x = nI (frc cb x)) → aq_W e_X7_numberRows (fun r h' => r = none ∧ sm 14 14 h h' ∧ ∃ ro', iTc h' (w * ht) ro' mx ∧ ∀ c, c < w * ht → cb c = false → ro' c = nI (frc cb c)) 4 [some (.ref 13), some (.int (nI (frc cb c))), some (.int (nI c))] [] h2 0 0 := by
    intro j
    induction j with
    | zero =>
      intro c hc h2 ro' S T2 q
      have e : c = w * ht := by omega
      subst e
      have B2 := B.sm S (by omega)
      rw [s_X7_numberRows_4]
      simp only [s_X7_numberRows_5, s_X7_numberRows_6, s_X7_numberRows_9, aq_gI, aq_gL, aq_gA, aq_isA, aq_s1, aq_s2, aq_kill, aq_ob, aq_sm, aq_arI, aq_arB, aq_isB, aq_arL, aq_arA, aq_arN, aq_sh, Value.category, List.getElem?_cons_zero, List.getElem?_cons_succ, List.length_cons, List.length_nil, Option.toList_some, Option.toList_none, List.cons_append, List.nil_append, true_and, and_true, List.set_cons_zero, List.set_cons_succ, aq_n1, aq_n2, aq_n3, aq_n4, aq_f1, aq_f2, aq_f3, aq_f4, aq_gs, aq_ty1, aq_ty2, aq_ty3, aq_ty4, aq_ty5, Nat.reduceAdd, Nat.reduceLT, Nat.reduceEqDiff, Nat.reduceSub, if_true, if_false, ne_eq, not_false_eq_true, not_true_eq_false, Option.map_some, Option.map_none, Nat.zero_add, reduceCtorEq, Nat.reduceLeDiff, one_ne_zero_a, zero_ne_one_a, aq_nb, aq_nb1, aq_nb0, aq_fb, aq_fb1, aq_fb0, aq_ofN, bB_t, bB_f, bB_v, vpn_b1, vpn_b0, nI_1, Bool.true_eq_false, Bool.false_eq_true, Bool.true_and, Bool.false_and, Bool.and_true, Bool.and_false, T2.1, B2.1]
      refine (t_cells B2).use ?_
      rintro _ h2 ⟨rfl, rfl⟩
      simp only [s_X7_numberRows_12, s_X7_numberRows_42, aq_gI, aq_gL, aq_gA, aq_isA, aq_s1, aq_s2, aq_kill, aq_ob, aq_sm, aq_arI, aq_arB, aq_isB, aq_arL, aq_arA, aq_arN, aq_sh, Value.category, List.getElem?_cons_zero, List.getElem?_cons_succ, List.length_cons, List.length_nil, Option.toList_some, Option.toList_none, List.cons_append, List.nil_append, true_and, and_true, List.set_cons_zero, List.set_cons_succ, aq_n1, aq_n2, aq_n3, aq_n4, aq_f1, aq_f2, aq_f3, aq_f4, aq_gs, aq_ty1, aq_ty2, aq_ty3, aq_ty4, aq_ty5, Nat.reduceAdd, Nat.reduceLT, Nat.reduceEqDiff, Nat.reduceSub, if_true, if_false, ne_eq, not_false_eq_true, not_true_eq_false, Option.map_some, Option.map_none, Nat.zero_add, reduceCtorEq, Nat.reduceLeDiff, one_ne_zero_a, zero_ne_one_a, aq_nb, aq_nb1, aq_nb0, aq_fb, aq_fb1, aq_fb0, aq_ofN, bB_t, bB_f, bB_v, vpn_b1, vpn_b0, nI_1, Bool.true_eq_false, Bool.false_eq_true, Bool.true_and, Bool.false_and, Bool.and_true, Bool.and_false, nI_le (Nat.le_refl (w * ht)) (show w * ht < 2 ^ 31 by omega)]
      exact ⟨S, ro', T2, q⟩
    | succ j ih =>
      intro c hc h2 ro' S T2 q
      have hc2 : c < w * ht := by omega
      have hnext := ih (c + 1) (by omega)
      rw [frc_s] at hnext
      have B2 := B.sm S (by omega)
      rw [s_X7_numberRows_4]
      simp only [s_X7_numberRows_5, s_X7_numberRows_6, s_X7_numberRows_9, aq_gI, aq_gL, aq_gA, aq_isA, aq_s1, aq_s2, aq_kill, aq_ob, aq_sm, aq_arI, aq_arB, aq_isB, aq_arL, aq_arA, aq_arN, aq_sh, Value.category, List.getElem?_cons_zero, List.getElem?_cons_succ, List.length_cons, List.length_nil, Option.toList_some, Option.toList_none, List.cons_append, List.nil_append, true_and, and_true, List.set_cons_zero, List.set_cons_succ, aq_n1, aq_n2, aq_n3, aq_n4, aq_f1, aq_f2, aq_f3, aq_f4, aq_gs, aq_ty1, aq_ty2, aq_ty3, aq_ty4, aq_ty5, Nat.reduceAdd, Nat.reduceLT, Nat.reduceEqDiff, Nat.reduceSub, if_true, if_false, ne_eq, not_false_eq_true, not_true_eq_false, Option.map_some, Option.map_none, Nat.zero_add, reduceCtorEq, Nat.reduceLeDiff, one_ne_zero_a, zero_ne_one_a, aq_nb, aq_nb1, aq_nb0, aq_fb, aq_fb1, aq_fb0, aq_ofN, bB_t, bB_f, bB_v, vpn_b1, vpn_b0, nI_1, Bool.true_eq_false, Bool.false_eq_true, Bool.true_and, Bool.false_and, Bool.and_true, Bool.and_false, T2.1, B2.1]
      refine (t_cells B2).use ?_
      rintro _ h2 ⟨rfl, rfl⟩
      simp only [s_X7_numberRows_12, s_X7_numberRows_15, s_X7_numberRows_16, s_X7_numberRows_19, s_X7_numberRows_20, aq_gI, aq_gL, aq_gA, aq_isA, aq_s1, aq_s2, aq_kill, aq_ob, aq_sm, aq_arI, aq_arB, aq_isB, aq_arL, aq_arA, aq_arN, aq_sh, Value.category, List.getElem?_cons_zero, List.getElem?_cons_succ, List.length_cons, List.length_nil, Option.toList_some, Option.toList_none, List.cons_append, List.nil_append, true_and, and_true, List.set_cons_zero, List.set_cons_succ, aq_n1, aq_n2, aq_n3, aq_n4, aq_f1, aq_f2, aq_f3, aq_f4, aq_gs, aq_ty1, aq_ty2, aq_ty3, aq_ty4, aq_ty5, Nat.reduceAdd, Nat.reduceLT, Nat.reduceEqDiff, Nat.reduceSub, if_true, if_false, ne_eq, not_false_eq_true, not_true_eq_false, Option.map_some, Option.map_none, Nat.zero_add, reduceCtorEq, Nat.reduceLeDiff, one_ne_zero_a, zero_ne_one_a, aq_nb, aq_nb1, aq_nb0, aq_fb, aq_fb1, aq_fb0, aq_ofN, bB_t, bB_f, bB_v, vpn_b1, vpn_b0, nI_1, Bool.true_eq_false, Bool.false_eq_true, Bool.true_and, Bool.false_and, Bool.and_true, Bool.and_false, T2.1, B2.1, nI_ge hc2 (show w * ht < 2 ^ 31 by omega)]
      refine (t_isFree B2 G (nI c)).use ?_
      rintro _ h2 ⟨rfl, rfl⟩
      rw [inC_nI hc2 (show w * ht < 2 ^ 31 by omega), nI_clamp (show c < 2 ^ 31 by omega), Bool.true_and]
      cases hb : cb c with
      | true =>
        rw [hb, if_pos rfl, Nat.add_zero] at hnext
        simp only [s_X7_numberRows_23, s_X7_numberRows_36, s_X7_numberRows_39, aq_gI, aq_gL, aq_gA, aq_isA, aq_s1, aq_s2, aq_kill, aq_ob, aq_sm, aq_arI, aq_arB, aq_isB, aq_arL, aq_arA, aq_arN, aq_sh, Value.category, List.getElem?_cons_zero, List.getElem?_cons_succ, List.length_cons, List.length_nil, Option.toList_some, Option.toList_none, List.cons_append, List.nil_append, true_and, and_true, List.set_cons_zero, List.set_cons_succ, aq_n1, aq_n2, aq_n3, aq_n4, aq_f1, aq_f2, aq_f3, aq_f4, aq_gs, aq_ty1, aq_ty2, aq_ty3, aq_ty4, aq_ty5, Nat.reduceAdd, Nat.reduceLT, Nat.reduceEqDiff, Nat.reduceSub, if_true, if_false, ne_eq, not_false_eq_true, not_true_eq_false, Option.map_some, Option.map_none, Nat.zero_add, reduceCtorEq, Nat.reduceLeDiff, one_ne_zero_a, zero_ne_one_a, aq_nb, aq_nb1, aq_nb0, aq_fb, aq_fb1, aq_fb0, aq_ofN, bB_t, bB_f, bB_v, vpn_b1, vpn_b0, nI_1, Bool.true_eq_false, Bool.false_eq_true, Bool.true_and, Bool.false_and, Bool.and_true, Bool.and_false, Bool.not_true]
        refine hnext h2 ro' S T2 (fun x hx hbx => ?_)
        by_cases z : x = c
        · rw [z, hb] at hbx; cases hbx
        · exact q x (by omega) hbx
      | false =>
        rw [hb, if_neg (by decide)] at hnext
        obtain ⟨m1, m2, m3, m4⟩ := T2
        simp only [s_X7_numberRows_23, s_X7_numberRows_26, s_X7_numberRows_27, s_X7_numberRows_30, s_X7_numberRows_31, s_X7_numberRows_32, s_X7_numberRows_33, s_X7_numberRows_36, s_X7_numberRows_39, aq_gI, aq_gL, aq_gA, aq_isA, aq_s1, aq_s2, aq_kill, aq_ob, aq_sm, aq_arI, aq_arB, aq_isB, aq_arL, aq_arA, aq_arN, aq_sh, Value.category, List.getElem?_cons_zero, List.getElem?_cons_succ, List.length_cons, List.length_nil, Option.toList_some, Option.toList_none, List.cons_append, List.nil_append, true_and, and_true, List.set_cons_zero, List.set_cons_succ, aq_n1, aq_n2, aq_n3, aq_n4, aq_f1, aq_f2, aq_f3, aq_f4, aq_gs, aq_ty1, aq_ty2, aq_ty3, aq_ty4, aq_ty5, Nat.reduceAdd, Nat.reduceLT, Nat.reduceEqDiff, Nat.reduceSub, if_true, if_false, ne_eq, not_false_eq_true, not_true_eq_false, Option.map_some, Option.map_none, Nat.zero_add, reduceCtorEq, Nat.reduceLeDiff, one_ne_zero_a, zero_ne_one_a, aq_nb, aq_nb1, aq_nb0, aq_fb, aq_fb1, aq_fb0, aq_ofN, bB_t, bB_f, bB_v, vpn_b1, vpn_b0, nI_1, Bool.true_eq_false, Bool.false_eq_true, Bool.true_and, Bool.false_and, Bool.and_true, Bool.and_false, Bool.not_false, m1, m2, vp_in_nI hc2 (show w * ht < 2 ^ 31 by omega), nI_clamp (show c < 2 ^ 31 by omega)]
        refine hnext _ (upd ro' c (nI (frc cb c))) (S.st (by decide) (by decide)) ⟨by simp only [aq_gI, aq_gL, aq_gA, aq_isA, aq_s1, aq_s2, aq_kill, aq_ob, aq_sm, aq_arI, aq_arB, aq_isB, aq_arL, aq_arA, aq_arN, aq_sh, Value.category, List.getElem?_cons_zero, List.getElem?_cons_succ, List.length_cons, List.length_nil, Option.toList_some, Option.toList_none, List.cons_append, List.nil_append, true_and, and_true, List.set_cons_zero, List.set_cons_succ, aq_n1, aq_n2, aq_n3, aq_n4, aq_f1, aq_f2, aq_f3, aq_f4, aq_gs, aq_ty1, aq_ty2, aq_ty3, aq_ty4, aq_ty5, Nat.reduceAdd, Nat.reduceLT, Nat.reduceEqDiff, Nat.reduceSub, if_true, if_false, ne_eq, not_false_eq_true, not_true_eq_false, Option.map_some, Option.map_none, Nat.zero_add, reduceCtorEq, Nat.reduceLeDiff, one_ne_zero_a, zero_ne_one_a, m1], by simp only [aq_gI, aq_gL, aq_gA, aq_isA, aq_s1, aq_s2, aq_kill, aq_ob, aq_sm, aq_arI, aq_arB, aq_isB, aq_arL, aq_arA, aq_arN, aq_sh, Value.category, List.getElem?_cons_zero, List.getElem?_cons_succ, List.length_cons, List.length_nil, Option.toList_some, Option.toList_none, List.cons_append, List.nil_append, true_and, and_true, List.set_cons_zero, List.set_cons_succ, aq_n1, aq_n2, aq_n3, aq_n4, aq_f1, aq_f2, aq_f3, aq_f4, aq_gs, aq_ty1, aq_ty2, aq_ty3, aq_ty4, aq_ty5, Nat.reduceAdd, Nat.reduceLT, Nat.reduceEqDiff, Nat.reduceSub, if_true, if_false, ne_eq, not_false_eq_true, not_true_eq_false, Option.map_some, Option.map_none, Nat.zero_add, reduceCtorEq, Nat.reduceLeDiff, one_ne_zero_a, zero_ne_one_a, m2], by simp only [aq_gI, aq_gL, aq_gA, aq_isA, aq_s1, aq_s2, aq_kill, aq_ob, aq_sm, aq_arI, aq_arB, aq_isB, aq_arL, aq_arA, aq_arN, aq_sh, Value.category, List.getElem?_cons_zero, List.getElem?_cons_succ, List.length_cons, List.length_nil, Option.toList_some, Option.toList_none, List.cons_append, List.nil_append, true_and, and_true, List.set_cons_zero, List.set_cons_succ, aq_n1, aq_n2, aq_n3, aq_n4, aq_f1, aq_f2, aq_f3, aq_f4, aq_gs, aq_ty1, aq_ty2, aq_ty3, aq_ty4, aq_ty5, Nat.reduceAdd, Nat.reduceLT, Nat.reduceEqDiff, Nat.reduceSub, if_true, if_false, ne_eq, not_false_eq_true, not_true_eq_false, Option.map_some, Option.map_none, Nat.zero_add, reduceCtorEq, Nat.reduceLeDiff, one_ne_zero_a, zero_ne_one_a, m3], fun i hi => by rw [aq_gs, if_neg (by omega)]; exact m4 i hi⟩ (fun x hx hbx => ?_)
        by_cases z : x = c
        · rw [z, upd_s]
        · rw [upd_n _ _ z]; exact q x (by omega) hbx
  simp only [s_X7_numberRows_0, s_X7_numberRows_1, s_X7_numberRows_2, s_X7_numberRows_3, aq_gI, aq_gL, aq_gA, aq_isA, aq_s1, aq_s2, aq_kill, aq_ob, aq_sm, aq_arI, aq_arB, aq_isB, aq_arL, aq_arA, aq_arN, aq_sh, Value.category, List.getElem?_cons_zero, List.getElem?_cons_succ, List.length_cons, List.length_nil, Option.toList_some, Option.toList_none, List.cons_append, List.nil_append, true_and, and_true, List.set_cons_zero, List.set_cons_succ, aq_n1, aq_n2, aq_n3, aq_n4, aq_f1, aq_f2, aq_f3, aq_f4, aq_gs, aq_ty1, aq_ty2, aq_ty3, aq_ty4, aq_ty5, Nat.reduceAdd, Nat.reduceLT, Nat.reduceEqDiff, Nat.reduceSub, if_true, if_false, ne_eq, not_false_eq_true, not_true_eq_false, Option.map_some, Option.map_none, Nat.zero_add, reduceCtorEq, Nat.reduceLeDiff, one_ne_zero_a, zero_ne_one_a, aq_nb, aq_nb1, aq_nb0, aq_fb, aq_fb1, aq_fb0, aq_ofN, bB_t, bB_f, bB_v, vpn_b1, vpn_b0, nI_1, Bool.true_eq_false, Bool.false_eq_true, Bool.true_and, Bool.false_and, Bool.and_true, Bool.and_false]
  rw [← nI_0]
  exact one (w * ht) 0 (Nat.zero_add _) h ro (sm.rf _ _ _) T (fun x hx => by omega)
theorem t_fillMatrix (B : iBd h w ht cut bes lead pas fr) (G : gBd w ht wx wy cb cut bes lead pas fr) (T : iTc h (w * ht) ro mx) (hro : ∀ c, c < w * ht → cb c = false → ro c = nI (frc cb c)) (hn : frc cb (w * ht) = n) (hn16 : n ≤ 16) : aq_T e_X7_fillMatrix 5 0 0 [.ref 13, .int (nI n)] h (fun r h' => r = none ∧ sm 16 31 h h' ∧ ∃ mx', iTc h' (w * ht) ro mx' ∧ ∀ i j, i < n → j < n → mx' i j = lI (lpM w ht wx wy cb (4 * (w * ht)) i j)) := by
  have hnn := wh_lt G.1
  refine ⟨Nat.le_of_ble_eq_true rfl, ?_⟩
  show aq_W _ _ 0 [some (.ref 13), some (.int (nI n)), none, none, none] [] _ _ _
  generalize hQ : (fun (r : Option Value) (h' : aq_H) => r = none ∧ sm 16 31 h h' ∧ ∃ mx', iTc h' (w * ht) ro mx' ∧ ∀ i j, i < n → j < n → mx' i j = lI (lpM w ht wx wy cb (4 * (w * ht)) i j)) = Q
  have two : ∀ (j c : Nat), c + j = w * ht → ∀ (h2 : aq_H) (mx' : Nat → Nat → Int64) (L3 L4 : Option Value), sm 16 31 h h2 → iTc h2 (w * ht) ro mx' → (∀ i j, i < n → j < n → mx' i j = lI (lpM w ht wx wy cb (4 * c) i j)) → aq_W e_X7_fillMatrix Q 25 [some (.ref 13), some (.int (nI n)), some (.int (nI c)), L3, L4] [] h2 0 0 := by
    intro j
    induction j with
    | zero =>
      intro c hc h2 mx' L3 L4 S T2 q
      have e : c = w * ht := by omega
      subst e
      have B2 := B.sm S (by omega)
      rw [s_X7_fillMatrix_25]
      simp only [s_X7_fillMatrix_26, s_X7_fillMatrix_27, s_X7_fillMatrix_30, aq_gI, aq_gL, aq_gA, aq_isA, aq_s1, aq_s2, aq_kill, aq_ob, aq_sm, aq_arI, aq_arB, aq_isB, aq_arL, aq_arA, aq_arN, aq_sh, Value.category, List.getElem?_cons_zero, List.getElem?_cons_succ, List.length_cons, List.length_nil, Option.toList_some, Option.toList_none, List.cons_append, List.nil_append, true_and, and_true, List.set_cons_zero, List.set_cons_succ, aq_n1, aq_n2, aq_n3, aq_n4, aq_f1, aq_f2, aq_f3, aq_f4, aq_gs, aq_ty1, aq_ty2, aq_ty3, aq_ty4, aq_ty5, Nat.reduceAdd, Nat.reduceLT, Nat.reduceEqDiff, Nat.reduceSub, if_true, if_false, ne_eq, not_false_eq_true, not_true_eq_false, Option.map_some, Option.map_none, Nat.zero_add, reduceCtorEq, Nat.reduceLeDiff, one_ne_zero_a, zero_ne_one_a, aq_nb, aq_nb1, aq_nb0, aq_fb, aq_fb1, aq_fb0, aq_ofN, bB_t, bB_f, bB_v, vpn_b1, vpn_b0, nI_1, Bool.true_eq_false, Bool.false_eq_true, Bool.true_and, Bool.false_and, Bool.and_true, Bool.and_false, T2.1, B2.1]
      refine (t_cells B2).use ?_
      rintro _ h2 ⟨rfl, rfl⟩
      simp only [s_X7_fillMatrix_33, s_X7_fillMatrix_117, aq_gI, aq_gL, aq_gA, aq_isA, aq_s1, aq_s2, aq_kill, aq_ob, aq_sm, aq_arI, aq_arB, aq_isB, aq_arL, aq_arA, aq_arN, aq_sh, Value.category, List.getElem?_cons_zero, List.getElem?_cons_succ, List.length_cons, List.length_nil, Option.toList_some, Option.toList_none, List.cons_append, List.nil_append, true_and, and_true, List.set_cons_zero, List.set_cons_succ, aq_n1, aq_n2, aq_n3, aq_n4, aq_f1, aq_f2, aq_f3, aq_f4, aq_gs, aq_ty1, aq_ty2, aq_ty3, aq_ty4, aq_ty5, Nat.reduceAdd, Nat.reduceLT, Nat.reduceEqDiff, Nat.reduceSub, if_true, if_false, ne_eq, not_false_eq_true, not_true_eq_false, Option.map_some, Option.map_none, Nat.zero_add, reduceCtorEq, Nat.reduceLeDiff, one_ne_zero_a, zero_ne_one_a, aq_nb, aq_nb1, aq_nb0, aq_fb, aq_fb1, aq_fb0, aq_ofN, bB_t, bB_f, bB_v, vpn_b1, vpn_b0, nI_1, Bool.true_eq_false, Bool.false_eq_true, Bool.true_and, Bool.false_and, Bool.and_true, Bool.and_false, nI_le (Nat.le_refl (w * ht)) (show w * ht < 2 ^ 31 by omega)]
      rw [← hQ]
      exact ⟨rfl, S, mx', T2, q⟩
    | succ j ih =>
      intro c hc h2 mx' L3 L4 S T2 q
      have hc2 : c < w * ht := by omega
      have inn : ∀ (k d : Nat), d + k = 4 → ∀ (h2 : aq_H) (mx' : Nat → Nat → Int64) (L4 : Option Value), sm 16 31 h h2 → iTc h2 (w * ht) ro mx' → (∀ i j, i < n → j < n → mx' i j = lI (lpM w ht wx wy cb (4 * c + d) i j)) → aq_W e_X7_fillMatrix Q 38 [some (.ref 13), some (.int (nI n)), some (.int (nI c)), some (.int (nI d)), L4] [] h2 0 0 := by
        intro k
        induction k with
        | zero =>
          intro d hd h2 mx' L4 S T2 q
          have e : d = 4 := by omega
          subst e
          have h4 : (4 : Int32) ≤ nI 4 := by decide
          rw [s_X7_fillMatrix_38]
          simp only [s_X7_fillMatrix_39, s_X7_fillMatrix_40, s_X7_fillMatrix_111, s_X7_fillMatrix_114, aq_gI, aq_gL, aq_gA, aq_isA, aq_s1, aq_s2, aq_kill, aq_ob, aq_sm, aq_arI, aq_arB, aq_isB, aq_arL, aq_arA, aq_arN, aq_sh, Value.category, List.getElem?_cons_zero, List.getElem?_cons_succ, List.length_cons, List.length_nil, Option.toList_some, Option.toList_none, List.cons_append, List.nil_append, true_and, and_true, List.set_cons_zero, List.set_cons_succ, aq_n1, aq_n2, aq_n3, aq_n4, aq_f1, aq_f2, aq_f3, aq_f4, aq_gs, aq_ty1, aq_ty2, aq_ty3, aq_ty4, aq_ty5, Nat.reduceAdd, Nat.reduceLT, Nat.reduceEqDiff, Nat.reduceSub, if_true, if_false, ne_eq, not_false_eq_true, not_true_eq_false, Option.map_some, Option.map_none, Nat.zero_add, reduceCtorEq, Nat.reduceLeDiff, one_ne_zero_a, zero_ne_one_a, aq_nb, aq_nb1, aq_nb0, aq_fb, aq_fb1, aq_fb0, aq_ofN, bB_t, bB_f, bB_v, vpn_b1, vpn_b0, nI_1, Bool.true_eq_false, Bool.false_eq_true, Bool.true_and, Bool.false_and, Bool.and_true, Bool.and_false, h4]
          exact ih (c + 1) (by omega) h2 mx' _ _ S T2 q
        | succ k ih2 =>
          intro d hd h2 mx' L4 S T2 q
          have hd4 : d < 4 := by omega
          have h4 : ¬ (4 : Int32) ≤ nI d := by rw [nI_4]; exact nI_ge hd4 (by omega)
          have B2 := B.sm S (by omega)
          rw [s_X7_fillMatrix_38]
          simp only [s_X7_fillMatrix_39, s_X7_fillMatrix_40, s_X7_fillMatrix_43, s_X7_fillMatrix_44, s_X7_fillMatrix_47, s_X7_fillMatrix_48, s_X7_fillMatrix_49, aq_gI, aq_gL, aq_gA, aq_isA, aq_s1, aq_s2, aq_kill, aq_ob, aq_sm, aq_arI, aq_arB, aq_isB, aq_arL, aq_arA, aq_arN, aq_sh, Value.category, List.getElem?_cons_zero, List.getElem?_cons_succ, List.length_cons, List.length_nil, Option.toList_some, Option.toList_none, List.cons_append, List.nil_append, true_and, and_true, List.set_cons_zero, List.set_cons_succ, aq_n1, aq_n2, aq_n3, aq_n4, aq_f1, aq_f2, aq_f3, aq_f4, aq_gs, aq_ty1, aq_ty2, aq_ty3, aq_ty4, aq_ty5, Nat.reduceAdd, Nat.reduceLT, Nat.reduceEqDiff, Nat.reduceSub, if_true, if_false, ne_eq, not_false_eq_true, not_true_eq_false, Option.map_some, Option.map_none, Nat.zero_add, reduceCtorEq, Nat.reduceLeDiff, one_ne_zero_a, zero_ne_one_a, aq_nb, aq_nb1, aq_nb0, aq_fb, aq_fb1, aq_fb0, aq_ofN, bB_t, bB_f, bB_v, vpn_b1, vpn_b0, nI_1, Bool.true_eq_false, Bool.false_eq_true, Bool.true_and, Bool.false_and, Bool.and_true, Bool.and_false, h4, T2.1, B2.1]
          refine (t_ahead B2 G (nI c) (nI d)).use ?_
          rintro _ h2 ⟨rfl, rfl⟩
          rw [NX_in hc2 (by omega) hd4]
          cases hx : nx w ht wx wy cb c d with
          | none =>
            simp only [oI, s_X7_fillMatrix_52, s_X7_fillMatrix_54, s_X7_fillMatrix_56, s_X7_fillMatrix_57, s_X7_fillMatrix_105, s_X7_fillMatrix_108, aq_gI, aq_gL, aq_gA, aq_isA, aq_s1, aq_s2, aq_kill, aq_ob, aq_sm, aq_arI, aq_arB, aq_isB, aq_arL, aq_arA, aq_arN, aq_sh, Value.category, List.getElem?_cons_zero, List.getElem?_cons_succ, List.length_cons, List.length_nil, Option.toList_some, Option.toList_none, List.cons_append, List.nil_append, true_and, and_true, List.set_cons_zero, List.set_cons_succ, aq_n1, aq_n2, aq_n3, aq_n4, aq_f1, aq_f2, aq_f3, aq_f4, aq_gs, aq_ty1, aq_ty2, aq_ty3, aq_ty4, aq_ty5, Nat.reduceAdd, Nat.reduceLT, Nat.reduceEqDiff, Nat.reduceSub, if_true, if_false, ne_eq, not_false_eq_true, not_true_eq_false, Option.map_some, Option.map_none, Nat.zero_add, reduceCtorEq, Nat.reduceLeDiff, one_ne_zero_a, zero_ne_one_a, aq_nb, aq_nb1, aq_nb0, aq_fb, aq_fb1, aq_fb0, aq_ofN, bB_t, bB_f, bB_v, vpn_b1, vpn_b0, nI_1, Bool.true_eq_false, Bool.false_eq_true, Bool.true_and, Bool.false_and, Bool.and_true, Bool.and_false]
            refine ih2 (d + 1) (by omega) h2 mx' _ S T2 (fun i j hi hj => ?_)
            rw [q i j hi hj]
            unfold lpM
            rw [show 4 * c + (d + 1) = 4 * c + d + 1 from rfl, lpS_n hd4 hx]
          | some m =>
            obtain ⟨m1, m2, m3, m4, m5⟩ := nx_ok G.1.2.1 G.1.2.2.2 hc2 hd4 hx
            have hr := frc_lt (cb := cb) m3 hc2
            have hr2 := frc_lt (cb := cb) m4 m1
            have hne : frc cb m ≠ frc cb c := fun z => m2 (frc_inj m4 m3 z)
            have hrc := hro c hc2 m3
            have hrm := hro m m1 m4
            rw [hn] at hr hr2
            generalize hR : frc cb c = r at hr hne hrc
            generalize hR2 : frc cb m = r2 at hr2 hne hrm
            have T3 := T2
            obtain ⟨t1, t2, t3, t4⟩ := T2
            have t4r := t4 r (by omega)
            simp only [oI, s_X7_fillMatrix_52, s_X7_fillMatrix_54, s_X7_fillMatrix_56, s_X7_fillMatrix_57, s_X7_fillMatrix_60, s_X7_fillMatrix_61, s_X7_fillMatrix_64, s_X7_fillMatrix_65, s_X7_fillMatrix_68, s_X7_fillMatrix_69, s_X7_fillMatrix_70, s_X7_fillMatrix_71, s_X7_fillMatrix_72, s_X7_fillMatrix_75, s_X7_fillMatrix_76, s_X7_fillMatrix_77, s_X7_fillMatrix_78, s_X7_fillMatrix_79, s_X7_fillMatrix_80, s_X7_fillMatrix_81, aq_gI, aq_gL, aq_gA, aq_isA, aq_s1, aq_s2, aq_kill, aq_ob, aq_sm, aq_arI, aq_arB, aq_isB, aq_arL, aq_arA, aq_arN, aq_sh, Value.category, List.getElem?_cons_zero, List.getElem?_cons_succ, List.length_cons, List.length_nil, Option.toList_some, Option.toList_none, List.cons_append, List.nil_append, true_and, and_true, List.set_cons_zero, List.set_cons_succ, aq_n1, aq_n2, aq_n3, aq_n4, aq_f1, aq_f2, aq_f3, aq_f4, aq_gs, aq_ty1, aq_ty2, aq_ty3, aq_ty4, aq_ty5, Nat.reduceAdd, Nat.reduceLT, Nat.reduceEqDiff, Nat.reduceSub, if_true, if_false, ne_eq, not_false_eq_true, not_true_eq_false, Option.map_some, Option.map_none, Nat.zero_add, reduceCtorEq, Nat.reduceLeDiff, one_ne_zero_a, zero_ne_one_a, aq_nb, aq_nb1, aq_nb0, aq_fb, aq_fb1, aq_fb0, aq_ofN, bB_t, bB_f, bB_v, vpn_b1, vpn_b0, nI_1, Bool.true_eq_false, Bool.false_eq_true, Bool.true_and, Bool.false_and, Bool.and_true, Bool.and_false, nI_ne_m1 (show m < 2 ^ 31 by omega), t1, t2, t3, vp_in_nI hc2 (show w * ht < 2 ^ 31 by omega), nI_clamp (show c < 2 ^ 31 by omega), hrc, vp_in_nI (show r < 16 by omega) (show 16 < 2 ^ 31 by decide), nI_clamp (show r < 2 ^ 31 by omega), va_s, t4r]
            have T4 := T3.st (show r < 16 by omega) (vp_updL (mx' r) r (mx' r r + 1))
            have S4 : sm 16 31 h (h2.set (16 + r) (.inl (.long, 16, .inr (.inl (vp_updL (mx' r) r (mx' r r + 1)))))) := S.st (by omega) (by omega)
            generalize h2.set (16 + r) (.inl (.long, 16, .inr (.inl (vp_updL (mx' r) r (mx' r r + 1))))) = h3 at T4 S4 ⊢
            have T5 := T4
            obtain ⟨u1, u2, u3, u4⟩ := T4
            have u4r := u4 r (by omega)
            rw [fs_s] at u4r
            simp only [s_X7_fillMatrix_82, s_X7_fillMatrix_83, s_X7_fillMatrix_86, s_X7_fillMatrix_87, s_X7_fillMatrix_90, s_X7_fillMatrix_91, s_X7_fillMatrix_92, s_X7_fillMatrix_93, s_X7_fillMatrix_94, s_X7_fillMatrix_97, s_X7_fillMatrix_99, s_X7_fillMatrix_100, s_X7_fillMatrix_101, s_X7_fillMatrix_102, s_X7_fillMatrix_103, s_X7_fillMatrix_104, s_X7_fillMatrix_105, s_X7_fillMatrix_108, aq_gI, aq_gL, aq_gA, aq_isA, aq_s1, aq_s2, aq_kill, aq_ob, aq_sm, aq_arI, aq_arB, aq_isB, aq_arL, aq_arA, aq_arN, aq_sh, Value.category, List.getElem?_cons_zero, List.getElem?_cons_succ, List.length_cons, List.length_nil, Option.toList_some, Option.toList_none, List.cons_append, List.nil_append, true_and, and_true, List.set_cons_zero, List.set_cons_succ, aq_n1, aq_n2, aq_n3, aq_n4, aq_f1, aq_f2, aq_f3, aq_f4, aq_gs, aq_ty1, aq_ty2, aq_ty3, aq_ty4, aq_ty5, Nat.reduceAdd, Nat.reduceLT, Nat.reduceEqDiff, Nat.reduceSub, if_true, if_false, ne_eq, not_false_eq_true, not_true_eq_false, Option.map_some, Option.map_none, Nat.zero_add, reduceCtorEq, Nat.reduceLeDiff, one_ne_zero_a, zero_ne_one_a, aq_nb, aq_nb1, aq_nb0, aq_fb, aq_fb1, aq_fb0, aq_ofN, bB_t, bB_f, bB_v, vpn_b1, vpn_b0, nI_1, Bool.true_eq_false, Bool.false_eq_true, Bool.true_and, Bool.false_and, Bool.and_true, Bool.and_false, u1, u2, u3, vp_in_nI hc2 (show w * ht < 2 ^ 31 by omega), nI_clamp (show c < 2 ^ 31 by omega), hrc, vp_in_nI m1 (show w * ht < 2 ^ 31 by omega), nI_clamp (show m < 2 ^ 31 by omega), hrm, vp_in_nI (show r < 16 by omega) (show 16 < 2 ^ 31 by decide), nI_clamp (show r < 2 ^ 31 by omega), vp_in_nI (show r2 < 16 by omega) (show 16 < 2 ^ 31 by decide), nI_clamp (show r2 < 2 ^ 31 by omega), va_s, u4r]
            refine ih2 (d + 1) (by omega) _ _ _ (S4.st (by omega) (by omega)) (T5.st (show r < 16 by omega) _) (fun i j hi hj => ?_)
            unfold lpM
            rw [show 4 * c + (d + 1) = 4 * c + d + 1 from rfl, lpS_s hd4 hx, hR, hR2]
            have qij := q i j hi hj
            unfold lpM at qij
            by_cases e1 : i = r
            · subst e1
              rw [fs_s]
              by_cases e2 : j = r2
              · subst e2
                rw [pk_uLs, pk_uLn hne, if_neg (fun z => hne z.2), if_pos ⟨rfl, rfl⟩, qij, lI_s1]
                congr 1
                omega
              · rw [pk_uLn e2]
                by_cases e3 : j = i
                · subst e3
                  rw [pk_uLs, if_pos ⟨rfl, rfl⟩, if_neg (fun z => e2 z.2), qij, lI_a1]
                  congr 1
                  omega
                · rw [pk_uLn e3, if_neg (fun z => e3 z.2), if_neg (fun z => e2 z.2), qij]
                  congr 1
                  omega
            · rw [fs_n _ _ e1, fs_n _ _ e1, if_neg (fun z => e1 z.1), if_neg (fun z => e1 z.1), qij]
              congr 1
              omega
      have B2 := B.sm S (by omega)
      rw [s_X7_fillMatrix_25]
      simp only [s_X7_fillMatrix_26, s_X7_fillMatrix_27, s_X7_fillMatrix_30, aq_gI, aq_gL, aq_gA, aq_isA, aq_s1, aq_s2, aq_kill, aq_ob, aq_sm, aq_arI, aq_arB, aq_isB, aq_arL, aq_arA, aq_arN, aq_sh, Value.category, List.getElem?_cons_zero, List.getElem?_cons_succ, List.length_cons, List.length_nil, Option.toList_some, Option.toList_none, List.cons_append, List.nil_append, true_and, and_true, List.set_cons_zero, List.set_cons_succ, aq_n1, aq_n2, aq_n3, aq_n4, aq_f1, aq_f2, aq_f3, aq_f4, aq_gs, aq_ty1, aq_ty2, aq_ty3, aq_ty4, aq_ty5, Nat.reduceAdd, Nat.reduceLT, Nat.reduceEqDiff, Nat.reduceSub, if_true, if_false, ne_eq, not_false_eq_true, not_true_eq_false, Option.map_some, Option.map_none, Nat.zero_add, reduceCtorEq, Nat.reduceLeDiff, one_ne_zero_a, zero_ne_one_a, aq_nb, aq_nb1, aq_nb0, aq_fb, aq_fb1, aq_fb0, aq_ofN, bB_t, bB_f, bB_v, vpn_b1, vpn_b0, nI_1, Bool.true_eq_false, Bool.false_eq_true, Bool.true_and, Bool.false_and, Bool.and_true, Bool.and_false, T2.1, B2.1]
      refine (t_cells B2).use ?_
      rintro _ h2 ⟨rfl, rfl⟩
      simp only [s_X7_fillMatrix_33, s_X7_fillMatrix_36, s_X7_fillMatrix_37, aq_gI, aq_gL, aq_gA, aq_isA, aq_s1, aq_s2, aq_kill, aq_ob, aq_sm, aq_arI, aq_arB, aq_isB, aq_arL, aq_arA, aq_arN, aq_sh, Value.category, List.getElem?_cons_zero, List.getElem?_cons_succ, List.length_cons, List.length_nil, Option.toList_some, Option.toList_none, List.cons_append, List.nil_append, true_and, and_true, List.set_cons_zero, List.set_cons_succ, aq_n1, aq_n2, aq_n3, aq_n4, aq_f1, aq_f2, aq_f3, aq_f4, aq_gs, aq_ty1, aq_ty2, aq_ty3, aq_ty4, aq_ty5, Nat.reduceAdd, Nat.reduceLT, Nat.reduceEqDiff, Nat.reduceSub, if_true, if_false, ne_eq, not_false_eq_true, not_true_eq_false, Option.map_some, Option.map_none, Nat.zero_add, reduceCtorEq, Nat.reduceLeDiff, one_ne_zero_a, zero_ne_one_a, aq_nb, aq_nb1, aq_nb0, aq_fb, aq_fb1, aq_fb0, aq_ofN, bB_t, bB_f, bB_v, vpn_b1, vpn_b0, nI_1, Bool.true_eq_false, Bool.false_eq_true, Bool.true_and, Bool.false_and, Bool.and_true, Bool.and_false, nI_ge hc2 (show w * ht < 2 ^ 31 by omega)]
      rw [← nI_0]
      exact inn 4 0 rfl h2 mx' _ S T2 q
  have one : ∀ (j r : Nat), r + j = n → ∀ (h2 : aq_H) (mx' : Nat → Nat → Int64), sm 16 31 h h2 → iTc h2 (w * ht) ro mx' → (∀ i j, i < r → j < 16 → mx' i j = 0) → aq_W e_X7_fillMatrix Q 2 [some (.ref 13), some (.int (nI n)), some (.int (nI r)), none, none] [] h2 0 0 := by
    intro j
    induction j with
    | zero =>
      intro r hr h2 mx' S T2 q
      have e : r = n := by omega
      subst e
      rw [s_X7_fillMatrix_2]
      simp only [s_X7_fillMatrix_3, s_X7_fillMatrix_4, s_X7_fillMatrix_23, s_X7_fillMatrix_24, aq_gI, aq_gL, aq_gA, aq_isA, aq_s1, aq_s2, aq_kill, aq_ob, aq_sm, aq_arI, aq_arB, aq_isB, aq_arL, aq_arA, aq_arN, aq_sh, Value.category, List.getElem?_cons_zero, List.getElem?_cons_succ, List.length_cons, List.length_nil, Option.toList_some, Option.toList_none, List.cons_append, List.nil_append, true_and, and_true, List.set_cons_zero, List.set_cons_succ, aq_n1, aq_n2, aq_n3, aq_n4, aq_f1, aq_f2, aq_f3, aq_f4, aq_gs, aq_ty1, aq_ty2, aq_ty3, aq_ty4, aq_ty5, Nat.reduceAdd, Nat.reduceLT, Nat.reduceEqDiff, Nat.reduceSub, if_true, if_false, ne_eq, not_false_eq_true, not_true_eq_false, Option.map_some, Option.map_none, Nat.zero_add, reduceCtorEq, Nat.reduceLeDiff, one_ne_zero_a, zero_ne_one_a, aq_nb, aq_nb1, aq_nb0, aq_fb, aq_fb1, aq_fb0, aq_ofN, bB_t, bB_f, bB_v, vpn_b1, vpn_b0, nI_1, Bool.true_eq_false, Bool.false_eq_true, Bool.true_and, Bool.false_and, Bool.and_true, Bool.and_false, nI_le (Nat.le_refl r) (show r < 2 ^ 31 by omega)]
      rw [← nI_0]
      exact two (w * ht) 0 (Nat.zero_add _) h2 mx' _ _ S T2 (fun i j hi hj => q i j hi (by omega))
    | succ j ih =>
      intro r hr h2 mx' S T2 q
      have T3 := T2
      obtain ⟨t1, t2, t3, t4⟩ := T2
      have t4r := t4 r (by omega)
      rw [s_X7_fillMatrix_2]
      simp only [s_X7_fillMatrix_3, s_X7_fillMatrix_4, s_X7_fillMatrix_7, s_X7_fillMatrix_8, s_X7_fillMatrix_11, s_X7_fillMatrix_12, s_X7_fillMatrix_13, s_X7_fillMatrix_14, aq_gI, aq_gL, aq_gA, aq_isA, aq_s1, aq_s2, aq_kill, aq_ob, aq_sm, aq_arI, aq_arB, aq_isB, aq_arL, aq_arA, aq_arN, aq_sh, Value.category, List.getElem?_cons_zero, List.getElem?_cons_succ, List.length_cons, List.length_nil, Option.toList_some, Option.toList_none, List.cons_append, List.nil_append, true_and, and_true, List.set_cons_zero, List.set_cons_succ, aq_n1, aq_n2, aq_n3, aq_n4, aq_f1, aq_f2, aq_f3, aq_f4, aq_gs, aq_ty1, aq_ty2, aq_ty3, aq_ty4, aq_ty5, Nat.reduceAdd, Nat.reduceLT, Nat.reduceEqDiff, Nat.reduceSub, if_true, if_false, ne_eq, not_false_eq_true, not_true_eq_false, Option.map_some, Option.map_none, Nat.zero_add, reduceCtorEq, Nat.reduceLeDiff, one_ne_zero_a, zero_ne_one_a, aq_nb, aq_nb1, aq_nb0, aq_fb, aq_fb1, aq_fb0, aq_ofN, bB_t, bB_f, bB_v, vpn_b1, vpn_b0, nI_1, Bool.true_eq_false, Bool.false_eq_true, Bool.true_and, Bool.false_and, Bool.and_true, Bool.and_false, nI_ge (show r < n by omega) (show n < 2 ^ 31 by omega), t1, t3, vp_in_nI (show r < 16 by omega) (show 16 < 2 ^ 31 by decide), nI_clamp (show r < 2 ^ 31 by omega), va_s]
      refine (t_fillL t4r (by decide) 0).use ?_
      rintro _ h3 ⟨rfl, g, rfl, hg⟩
      simp only [s_X7_fillMatrix_17, s_X7_fillMatrix_20, aq_gI, aq_gL, aq_gA, aq_isA, aq_s1, aq_s2, aq_kill, aq_ob, aq_sm, aq_arI, aq_arB, aq_isB, aq_arL, aq_arA, aq_arN, aq_sh, Value.category, List.getElem?_cons_zero, List.getElem?_cons_succ, List.length_cons, List.length_nil, Option.toList_some, Option.toList_none, List.cons_append, List.nil_append, true_and, and_true, List.set_cons_zero, List.set_cons_succ, aq_n1, aq_n2, aq_n3, aq_n4, aq_f1, aq_f2, aq_f3, aq_f4, aq_gs, aq_ty1, aq_ty2, aq_ty3, aq_ty4, aq_ty5, Nat.reduceAdd, Nat.reduceLT, Nat.reduceEqDiff, Nat.reduceSub, if_true, if_false, ne_eq, not_false_eq_true, not_true_eq_false, Option.map_some, Option.map_none, Nat.zero_add, reduceCtorEq, Nat.reduceLeDiff, one_ne_zero_a, zero_ne_one_a, aq_nb, aq_nb1, aq_nb0, aq_fb, aq_fb1, aq_fb0, aq_ofN, bB_t, bB_f, bB_v, vpn_b1, vpn_b0, nI_1, Bool.true_eq_false, Bool.false_eq_true, Bool.true_and, Bool.false_and, Bool.and_true, Bool.and_false]
      refine ih (r + 1) (by omega) _ _ (S.st (by omega) (by omega)) (T3.st (by omega) g) (fun i j hi hj => ?_)
      by_cases e : i = r
      · rw [e, fs_s]; exact hg j hj
      · rw [fs_n _ _ e]; exact q i j (by omega) hj
  simp only [s_X7_fillMatrix_0, s_X7_fillMatrix_1, aq_gI, aq_gL, aq_gA, aq_isA, aq_s1, aq_s2, aq_kill, aq_ob, aq_sm, aq_arI, aq_arB, aq_isB, aq_arL, aq_arA, aq_arN, aq_sh, Value.category, List.getElem?_cons_zero, List.getElem?_cons_succ, List.length_cons, List.length_nil, Option.toList_some, Option.toList_none, List.cons_append, List.nil_append, true_and, and_true, List.set_cons_zero, List.set_cons_succ, aq_n1, aq_n2, aq_n3, aq_n4, aq_f1, aq_f2, aq_f3, aq_f4, aq_gs, aq_ty1, aq_ty2, aq_ty3, aq_ty4, aq_ty5, Nat.reduceAdd, Nat.reduceLT, Nat.reduceEqDiff, Nat.reduceSub, if_true, if_false, ne_eq, not_false_eq_true, not_true_eq_false, Option.map_some, Option.map_none, Nat.zero_add, reduceCtorEq, Nat.reduceLeDiff, one_ne_zero_a, zero_ne_one_a, aq_nb, aq_nb1, aq_nb0, aq_fb, aq_fb1, aq_fb0, aq_ofN, bB_t, bB_f, bB_v, vpn_b1, vpn_b0, nI_1, Bool.true_eq_false, Bool.false_eq_true, Bool.true_and, Bool.false_and, Bool.and_true, Bool.and_false]
  rw [← nI_0]
  exact one n 0 (Nat.zero_add _) h mx (sm.rf _ _ _) T (fun i j hi => by omega)
theorem bz_b30 (I : bzI m M k) (hk : k < m) (hm : m ≤ 15) {i j : Nat} (hi : k ≤ i) (him : i < m) (hj : k ≤ j) (hjm : j < m) : -1073741824 ≤ bzB M k i j ∧ bzB M k i j ≤ 1073741824 := by
  have h1 := I.abs i j hi him hj hjm
  have h2 := I.top
  have h3 := pow4 (k + 1) (by omega)
  rw [Int.pow_succ] at h3
  omega
theorem bz_d30 (I : bzI m M k) (hk : k ≤ 15) : 0 < bzD M k ∧ bzD M k ≤ 1073741824 := by
  have h1 := I.pos
  have h2 := I.top
  have h3 := pow4 k hk
  omega
theorem t_eliminate (T : iTc h n ro mx) (hm : m ≤ 15) (I : bzI m M k) {row : Nat} (hk : k < row) (hrow : row < m) (hmx : ∀ j, k ≤ j → j < m → mx k j = lI (bzB M k k j) ∧ mx row j = lI (bzB M k row j)) :
    aq_T e_X7_eliminate 11 0 0 [.ref 13, .int (nI row), .int (nI k), .int (nI m), .long (lI (bzD M k))] h (fun r h' => r = none ∧ sm 16 31 h h' ∧ ∃ mx', iTc h' n ro mx' ∧ (∀ i j, i ≠ row → mx' i j = mx i j) ∧ ∀ j, k < j → j < m → mx' row j = lI (bzB M (k + 1) row j)) := by
  have hD := bz_d30 I (by omega)
  have hDz : ¬ lI (bzD M k) = 0 := fun z => by have := (lI_z (by omega) (by omega)).mp z; omega
  have hcz : ¬ lg_cmp (lI (bzD M k)) 0 = 0 := fun z => hDz ((lg_cmp_eq _ _).mp z)
  obtain ⟨t1, t2, t3, t4⟩ := T
  have t4k := t4 k (by omega)
  have t4r := t4 row (by omega)
  refine ⟨Nat.le_of_ble_eq_true rfl, ?_⟩
  show aq_W _ _ 0 [some (.ref 13), some (.int (nI row)), some (.int (nI k)), some (.int (nI m)), some (.long (lI (bzD M k))), none, none, none, none, none, none] [] _ _ _
  generalize hQ : (fun (r : Option Value) (h' : aq_H) => r = none ∧ sm 16 31 h h' ∧ ∃ mx', iTc h' n ro mx' ∧ (∀ i j, i ≠ row → mx' i j = mx i j) ∧ ∀ j, k < j → j < m → mx' row j = lI (bzB M (k + 1) row j)) = Q
  have one : ∀ (j c : Nat), c + j = m → k < c → ∀ (h2 : aq_H) (mx' : Nat → Nat → Int64), sm 16 31 h h2 → iTc h2 n ro mx' → (∀ i j, i ≠ row → mx' i j = mx i j) → (∀ j, k < j → j < c → mx' row j = lI (bzB M (k + 1) row j)) → (∀ j, c ≤ j → j < m → mx' row j = lI (bzB M k row j)) →
      aq_W e_X7_eliminate Q 33 [some (.ref 13), some (.int (nI row)), some (.int (nI k)), some (.int (nI m)), some (.long (lI (bzD M k))), none, some (.long (lI (bzB M k k k))), none, some (.long (lI (bzB M k row k))), none, some (.int (nI c))] [] h2 0 0 := by
    intro j
    induction j with
    | zero =>
      intro c hc hkc h2 mx' S T2 q1 q2 q3
      have e : c = m := by omega
      subst e
      rw [s_X7_eliminate_33]
      simp only [s_X7_eliminate_35, s_X7_eliminate_36, s_X7_eliminate_82, aq_gI, aq_gL, aq_gA, aq_isA, aq_s1, aq_s2, aq_kill, aq_ob, aq_sm, aq_arI, aq_arB, aq_isB, aq_arL, aq_arA, aq_arN, aq_sh, Value.category, List.getElem?_cons_zero, List.getElem?_cons_succ, List.length_cons, List.length_nil, Option.toList_some, Option.toList_none, List.cons_append, List.nil_append, true_and, and_true, List.set_cons_zero, List.set_cons_succ, aq_n1, aq_n2, aq_n3, aq_n4, aq_f1, aq_f2, aq_f3, aq_f4, aq_gs, aq_ty1, aq_ty2, aq_ty3, aq_ty4, aq_ty5, Nat.reduceAdd, Nat.reduceLT, Nat.reduceEqDiff, Nat.reduceSub, if_true, if_false, ne_eq, not_false_eq_true, not_true_eq_false, Option.map_some, Option.map_none, Nat.zero_add, reduceCtorEq, Nat.reduceLeDiff, one_ne_zero_a, zero_ne_one_a, aq_nb, aq_nb1, aq_nb0, aq_fb, aq_fb1, aq_fb0, aq_ofN, bB_t, bB_f, bB_v, vpn_b1, vpn_b0, nI_1, Bool.true_eq_false, Bool.false_eq_true, Bool.true_and, Bool.false_and, Bool.and_true, Bool.and_false, nI_le (Nat.le_refl c) (show c < 2 ^ 31 by omega)]
      rw [← hQ]
      exact ⟨rfl, S, mx', T2, q1, q2⟩
    | succ j ih =>
      intro c hc hkc h2 mx' S T2 q1 q2 q3
      have hcm : c < m := by omega
      have T3 := T2
      obtain ⟨u1, u2, u3, u4⟩ := T2
      have u4k := u4 k (by omega)
      have u4r := u4 row (by omega)
      have hkc2 : mx' k c = lI (bzB M k k c) := by rw [q1 k c (by omega)]; exact (hmx c (by omega) hcm).1
      have hrc := q3 c (Nat.le_refl c) hcm
      have b1 := bz_b30 I (by omega) hm (i := row) (j := c) (by omega) hrow (by omega) hcm
      have b2 := bz_b30 I (by omega) hm (i := k) (j := k) (by omega) (by omega) (by omega) (by omega)
      have b3 := bz_b30 I (by omega) hm (i := row) (j := k) (by omega) hrow (by omega) (by omega)
      have b4 := bz_b30 I (by omega) hm (i := k) (j := c) (by omega) (by omega) (by omega) hcm
      have p1 := mul_bd b1.1 b1.2 b2.1 b2.2
      have p2 := mul_bd b3.1 b3.2 b4.1 b4.2
      have hval : (lI (bzB M k row c) * lI (bzB M k k k) - lI (bzB M k row k) * lI (bzB M k k c)) / lI (bzD M k) = lI (bzB M (k + 1) row c) := by
        rw [lI_mul, lI_mul, lI_sub, lI_div (by omega) (by omega) (by omega) (by omega), bzB_s]
      rw [s_X7_eliminate_33]
      simp only [s_X7_eliminate_35, s_X7_eliminate_36, s_X7_eliminate_39, s_X7_eliminate_40, s_X7_eliminate_43, s_X7_eliminate_44, s_X7_eliminate_45, s_X7_eliminate_47, s_X7_eliminate_48, s_X7_eliminate_51, s_X7_eliminate_52, s_X7_eliminate_53, s_X7_eliminate_55, s_X7_eliminate_56, s_X7_eliminate_58, s_X7_eliminate_59, s_X7_eliminate_61, s_X7_eliminate_62, s_X7_eliminate_65, s_X7_eliminate_66, s_X7_eliminate_67, s_X7_eliminate_69, s_X7_eliminate_70, s_X7_eliminate_71, s_X7_eliminate_72, s_X7_eliminate_74, s_X7_eliminate_75, s_X7_eliminate_76, s_X7_eliminate_79, aq_gI, aq_gL, aq_gA, aq_isA, aq_s1, aq_s2, aq_kill, aq_ob, aq_sm, aq_arI, aq_arB, aq_isB, aq_arL, aq_arA, aq_arN, aq_sh, Value.category, List.getElem?_cons_zero, List.getElem?_cons_succ, List.length_cons, List.length_nil, Option.toList_some, Option.toList_none, List.cons_append, List.nil_append, true_and, and_true, List.set_cons_zero, List.set_cons_succ, aq_n1, aq_n2, aq_n3, aq_n4, aq_f1, aq_f2, aq_f3, aq_f4, aq_gs, aq_ty1, aq_ty2, aq_ty3, aq_ty4, aq_ty5, Nat.reduceAdd, Nat.reduceLT, Nat.reduceEqDiff, Nat.reduceSub, if_true, if_false, ne_eq, not_false_eq_true, not_true_eq_false, Option.map_some, Option.map_none, Nat.zero_add, reduceCtorEq, Nat.reduceLeDiff, one_ne_zero_a, zero_ne_one_a, aq_nb, aq_nb1, aq_nb0, aq_fb, aq_fb1, aq_fb0, aq_ofN, bB_t, bB_f, bB_v, vpn_b1, vpn_b0, nI_1, Bool.true_eq_false, Bool.false_eq_true, Bool.true_and, Bool.false_and, Bool.and_true, Bool.and_false, nI_ge hcm (show m < 2 ^ 31 by omega), u1, u3, vp_in_nI (show row < 16 by omega) (show 16 < 2 ^ 31 by decide), nI_clamp (show row < 2 ^ 31 by omega), vp_in_nI (show k < 16 by omega) (show 16 < 2 ^ 31 by decide), nI_clamp (show k < 2 ^ 31 by omega), vp_in_nI (show c < 16 by omega) (show 16 < 2 ^ 31 by decide), nI_clamp (show c < 2 ^ 31 by omega), va_s, u4k, u4r, hkc2, hrc, hval, hDz]
      refine ih (c + 1) (by omega) (by omega) _ _ (S.st (by omega) (by omega)) (T3.st (by omega) _) (fun i j hi => ?_) (fun j h1 h2 => ?_) (fun j h1 h2 => ?_)
      · rw [fs_n _ _ hi]; exact q1 i j hi
      · rw [fs_s]
        by_cases z : j = c
        · rw [z]; exact pk_uLs
        · rw [pk_uLn z]; exact q2 j h1 (by omega)
      · rw [fs_s, pk_uLn (by omega)]; exact q3 j (by omega) h2
  simp only [s_X7_eliminate_0, s_X7_eliminate_2, s_X7_eliminate_3, s_X7_eliminate_4, s_X7_eliminate_8, s_X7_eliminate_9, s_X7_eliminate_12, s_X7_eliminate_13, s_X7_eliminate_14, s_X7_eliminate_15, s_X7_eliminate_16, s_X7_eliminate_18, s_X7_eliminate_19, s_X7_eliminate_22, s_X7_eliminate_23, s_X7_eliminate_24, s_X7_eliminate_25, s_X7_eliminate_26, s_X7_eliminate_28, s_X7_eliminate_29, s_X7_eliminate_30, s_X7_eliminate_31, aq_gI, aq_gL, aq_gA, aq_isA, aq_s1, aq_s2, aq_kill, aq_ob, aq_sm, aq_arI, aq_arB, aq_isB, aq_arL, aq_arA, aq_arN, aq_sh, Value.category, List.getElem?_cons_zero, List.getElem?_cons_succ, List.length_cons, List.length_nil, Option.toList_some, Option.toList_none, List.cons_append, List.nil_append, true_and, and_true, List.set_cons_zero, List.set_cons_succ, aq_n1, aq_n2, aq_n3, aq_n4, aq_f1, aq_f2, aq_f3, aq_f4, aq_gs, aq_ty1, aq_ty2, aq_ty3, aq_ty4, aq_ty5, Nat.reduceAdd, Nat.reduceLT, Nat.reduceEqDiff, Nat.reduceSub, if_true, if_false, ne_eq, not_false_eq_true, not_true_eq_false, Option.map_some, Option.map_none, Nat.zero_add, reduceCtorEq, Nat.reduceLeDiff, one_ne_zero_a, zero_ne_one_a, aq_nb, aq_nb1, aq_nb0, aq_fb, aq_fb1, aq_fb0, aq_ofN, bB_t, bB_f, bB_v, vpn_b1, vpn_b0, nI_1, Bool.true_eq_false, Bool.false_eq_true, Bool.true_and, Bool.false_and, Bool.and_true, Bool.and_false, hcz, t1, t3, vp_in_nI (show row < 16 by omega) (show 16 < 2 ^ 31 by decide), nI_clamp (show row < 2 ^ 31 by omega), vp_in_nI (show k < 16 by omega) (show 16 < 2 ^ 31 by decide), nI_clamp (show k < 2 ^ 31 by omega), va_s, t4k, t4r, (hmx k (Nat.le_refl k) (by omega)).1, (hmx k (Nat.le_refl k) (by omega)).2]
  exact one (m - (k + 1)) (k + 1) (by omega) (by omega) h mx (sm.rf _ _ _) ⟨t1, t2, t3, t4⟩ (fun _ _ _ => rfl) (fun j h1 h2 => by omega) (fun j h1 h2 => (hmx j (by omega) h2).2)
end TRE
