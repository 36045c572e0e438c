/-! the model's count of trees, as a whole -/
theorem nI_17 (r : Nat) : 17 * nI r = nI (17 * r) := by rw [show (17 : Int32) = nI 17 from rfl, pk_mul]
section MTS
variable {h h' : aq_H} {w ht n m k : Nat} {wx wy hm : Bool} {cb : Nat → Bool} {D : drT} {Z : mzT} {P : plT} {wr thr th rt ci st ex pl hd sg : Int32} {mc mx mt mp mo md mw mk mr pc fa go : Nat → Int32} {tb : Nat → Int64}
def tFl (w ht : Nat) (wx wy : Bool) (cb : Nat → Bool) (n : Nat) (tb : Nat → Int64) (T : Nat) (t : Nat → Nat → Int) : Prop := tbG n tb t ∧ (∀ i j, i < n → j < n → i ≠ j → 0 ≤ t i j ∧ t i j < 2147483647 ∧ cg (t i j) (lpM w ht wx wy cb T i j)) ∧ (∀ i, i < n → t i i = lpM w ht wx wy cb T i i)
theorem m_count (O : iMo h w ht wr thr th rt ci st ex pl hd sg) (G : gMb h w ht wx wy cb wr mc) (b : h[57]? = some (.inl (.long, 256, .inr (.inl tb)))) (bp : h[58]? = some (.inl (.int, 144, .inl pc))) (hpc : ∀ c, c < w * ht → pc c = nI (frc cb c)) (hn : frc cb (w * ht) = m + 1) (hm : m ≤ 15) : aq_T e_X10_count 5 0 0 [.ref 47, .int (nI (m + 1))] h (pCo h (lI (bzA m (lpM w ht wx wy cb (4 * (w * ht))) m 0))) := by
  have hnn := wh_lt G.1
  refine ⟨Nat.le_of_ble_eq_true rfl, ?_⟩
  show aq_W _ _ 0 [some (.ref 47), some (.int (nI (m + 1))), none, none, none] [] _ _ _
  generalize hQ : pCo h (lI (bzA m (lpM w ht wx wy cb (4 * (w * ht))) m 0)) = Q
  have two : ∀ (j c : Nat), c + j = w * ht → ∀ (h2 : aq_H) (tb' : Nat → Int64) (t : Nat → Nat → Int) (L3 L4 : Option Value), sm 57 57 h h2 → h2[57]? = some (.inl (.long, 256, .inr (.inl tb'))) → tFl w ht wx wy cb (m + 1) tb' (4 * c) t → aq_W e_X10_count Q 24 [some (.ref 47), some (.int (nI (m + 1))), some (.int (nI c)), L3, L4] [] h2 0 0 := by
    intro j
    induction j with
    | zero =>
      intro c hc h2 tb' t L3 L4 S b2 T
      have e : c = w * ht := by omega
      subst e
      have O2 := O.sm S (by decide)
      have O3 := O2
      unfold iMo at O3
      rw [s_X10_count_24]
      simp only [s_X10_count_25, s_X10_count_26, s_X10_count_29, s_X10_count_137, s_X10_count_138, s_X10_count_139, s_X10_count_140, s_X10_count_141, aq_gI, aq_gL, aq_gA, aq_isA, aq_s1, aq_s2, aq_kill, aq_ob, aq_sm, aq_arI, aq_arB, aq_isB, aq_arL, aq_arA, aq_arN, aq_sh, Value.category, List.getElem?_cons_zero, List.getElem?_cons_succ, List.length_cons, List.length_nil, Option.toList_some, Option.toList_none, List.cons_append, List.nil_append, true_and, and_true, List.set_cons_zero, List.set_cons_succ, aq_n1, aq_n2, aq_n3, aq_n4, aq_f1, aq_f2, aq_f3, aq_f4, aq_gs, aq_ty1, aq_ty2, aq_ty3, aq_ty4, aq_ty5, Nat.reduceAdd, Nat.reduceLT, Nat.reduceEqDiff, Nat.reduceSub, if_true, if_false, ne_eq, not_false_eq_true, not_true_eq_false, Option.map_some, Option.map_none, Nat.zero_add, reduceCtorEq, Nat.reduceLeDiff, one_ne_zero_a, zero_ne_one_a, aq_nb, aq_nb1, aq_nb0, aq_fb, aq_fb1, aq_fb0, aq_ofN, bB_t, bB_f, bB_v, vpn_b1, vpn_b0, nI_1, Bool.true_eq_false, Bool.false_eq_true, Bool.true_and, Bool.false_and, Bool.and_true, Bool.and_false, O3, nI_le (Nat.le_refl (w * ht)) (show w * ht < 2 ^ 31 by omega), nI_sm1]
      refine (m_corner O2 b2 hm (lp_Lap (wx := wx) (wy := wy) G.1 hn) (t := t) (fun i j hi hj => T.1 i j (by omega) (by omega)) (fun i j _ hi _ hj => ?_)).use ?_
      · rw [bzD_z, bzB_z, Int.one_mul]
        by_cases e : i = j
        · subst e
          obtain ⟨a, a1, a2, rfl⟩ := frc_ex (u := cb) (N := i) (w * ht) (by omega)
          have h1 := lp_dia (wx := wx) (wy := wy) G.1 a2 (4 * (w * ht)) (Nat.le_refl _)
          rw [T.2.2 _ (by omega)]
          exact ⟨h1.1, by omega, cg.rf _⟩
        · exact T.2.1 i j (by omega) (by omega) e
      · rintro _ h3 ⟨rfl, S3, tb3, b3⟩
        simp only [s_X10_count_144, aq_gI, aq_gL, aq_gA, aq_isA, aq_s1, aq_s2, aq_kill, aq_ob, aq_sm, aq_arI, aq_arB, aq_isB, aq_arL, aq_arA, aq_arN, aq_sh, Value.category, List.getElem?_cons_zero, List.getElem?_cons_succ, List.length_cons, List.length_nil, Option.toList_some, Option.toList_none, List.cons_append, List.nil_append, true_and, and_true, List.set_cons_zero, List.set_cons_succ, aq_n1, aq_n2, aq_n3, aq_n4, aq_f1, aq_f2, aq_f3, aq_f4, aq_gs, aq_ty1, aq_ty2, aq_ty3, aq_ty4, aq_ty5, Nat.reduceAdd, Nat.reduceLT, Nat.reduceEqDiff, Nat.reduceSub, if_true, if_false, ne_eq, not_false_eq_true, not_true_eq_false, Option.map_some, Option.map_none, Nat.zero_add, reduceCtorEq, Nat.reduceLeDiff, one_ne_zero_a, zero_ne_one_a, aq_nb, aq_nb1, aq_nb0, aq_fb, aq_fb1, aq_fb0, aq_ofN, bB_t, bB_f, bB_v, vpn_b1, vpn_b0, nI_1, Bool.true_eq_false, Bool.false_eq_true, Bool.true_and, Bool.false_and, Bool.and_true, Bool.and_false]
        rw [← hQ]
        exact ⟨rfl, S.tr S3, tb3, b3⟩
    | succ j ih =>
      intro c hc h2 tb' t L3 L4 S b2 T
      have hc2 : c < w * ht := by omega
      have inn : ∀ (k d : Nat), d + k = 4 → ∀ (h2 : aq_H) (tb' : Nat → Int64) (t : Nat → Nat → Int) (L4 : Option Value), sm 57 57 h h2 → h2[57]? = some (.inl (.long, 256, .inr (.inl tb'))) → tFl w ht wx wy cb (m + 1) tb' (4 * c + d) t → aq_W e_X10_count Q 34 [some (.ref 47), some (.int (nI (m + 1))), some (.int (nI c)), some (.int (nI d)), L4] [] h2 0 0 := by
        intro k
        induction k with
        | zero =>
          intro d hd h2 tb' t L4 S b2 T
          have e : d = 4 := by omega
          subst e
          have h4 : (4 : Int32) ≤ nI 4 := by decide
          rw [s_X10_count_34]
          simp only [s_X10_count_35, s_X10_count_36, s_X10_count_131, s_X10_count_134, aq_gI, aq_gL, aq_gA, aq_isA, aq_s1, aq_s2, aq_kill, aq_ob, aq_sm, aq_arI, aq_arB, aq_isB, aq_arL, aq_arA, aq_arN, aq_sh, Value.category, List.getElem?_cons_zero, List.getElem?_cons_succ, List.length_cons, List.length_nil, Option.toList_some, Option.toList_none, List.cons_append, List.nil_append, true_and, and_true, List.set_cons_zero, List.set_cons_succ, aq_n1, aq_n2, aq_n3, aq_n4, aq_f1, aq_f2, aq_f3, aq_f4, aq_gs, aq_ty1, aq_ty2, aq_ty3, aq_ty4, aq_ty5, Nat.reduceAdd, Nat.reduceLT, Nat.reduceEqDiff, Nat.reduceSub, if_true, if_false, ne_eq, not_false_eq_true, not_true_eq_false, Option.map_some, Option.map_none, Nat.zero_add, reduceCtorEq, Nat.reduceLeDiff, one_ne_zero_a, zero_ne_one_a, aq_nb, aq_nb1, aq_nb0, aq_fb, aq_fb1, aq_fb0, aq_ofN, bB_t, bB_f, bB_v, vpn_b1, vpn_b0, nI_1, Bool.true_eq_false, Bool.false_eq_true, Bool.true_and, Bool.false_and, Bool.and_true, Bool.and_false, h4]
          exact ih (c + 1) (by omega) h2 tb' t _ _ S b2 T
        | succ k ih2 =>
          intro d hd h2 tb' t L4 S b2 T
          have hd4 : d < 4 := by omega
          have h4 : ¬ (4 : Int32) ≤ nI d := by rw [nI_4]; exact nI_ge hd4 (by omega)
          have O2 := O.sm S (by decide)
          have G2 := G.sm S (by decide)
          have O3 := O2
          unfold iMo at O3
          have bp2 := (S 58 (by omega)).trans bp
          rw [s_X10_count_34]
          simp only [s_X10_count_35, s_X10_count_36, s_X10_count_39, s_X10_count_40, s_X10_count_41, s_X10_count_42, aq_gI, aq_gL, aq_gA, aq_isA, aq_s1, aq_s2, aq_kill, aq_ob, aq_sm, aq_arI, aq_arB, aq_isB, aq_arL, aq_arA, aq_arN, aq_sh, Value.category, List.getElem?_cons_zero, List.getElem?_cons_succ, List.length_cons, List.length_nil, Option.toList_some, Option.toList_none, List.cons_append, List.nil_append, true_and, and_true, List.set_cons_zero, List.set_cons_succ, aq_n1, aq_n2, aq_n3, aq_n4, aq_f1, aq_f2, aq_f3, aq_f4, aq_gs, aq_ty1, aq_ty2, aq_ty3, aq_ty4, aq_ty5, Nat.reduceAdd, Nat.reduceLT, Nat.reduceEqDiff, Nat.reduceSub, if_true, if_false, ne_eq, not_false_eq_true, not_true_eq_false, Option.map_some, Option.map_none, Nat.zero_add, reduceCtorEq, Nat.reduceLeDiff, one_ne_zero_a, zero_ne_one_a, aq_nb, aq_nb1, aq_nb0, aq_fb, aq_fb1, aq_fb0, aq_ofN, bB_t, bB_f, bB_v, vpn_b1, vpn_b0, nI_1, Bool.true_eq_false, Bool.false_eq_true, Bool.true_and, Bool.false_and, Bool.and_true, Bool.and_false, h4, O3]
          refine (m_next O2 G2 (nI c) (nI d)).use ?_
          rintro _ h2 ⟨rfl, rfl⟩
          rw [NX_in hc2 (by omega) hd4]
          cases hx : nx w ht wx wy cb c d with
          | none =>
            simp only [oI, s_X10_count_45, s_X10_count_47, s_X10_count_49, s_X10_count_50, s_X10_count_125, s_X10_count_128, aq_gI, aq_gL, aq_gA, aq_isA, aq_s1, aq_s2, aq_kill, aq_ob, aq_sm, aq_arI, aq_arB, aq_isB, aq_arL, aq_arA, aq_arN, aq_sh, Value.category, List.getElem?_cons_zero, List.getElem?_cons_succ, List.length_cons, List.length_nil, Option.toList_some, Option.toList_none, List.cons_append, List.nil_append, true_and, and_true, List.set_cons_zero, List.set_cons_succ, aq_n1, aq_n2, aq_n3, aq_n4, aq_f1, aq_f2, aq_f3, aq_f4, aq_gs, aq_ty1, aq_ty2, aq_ty3, aq_ty4, aq_ty5, Nat.reduceAdd, Nat.reduceLT, Nat.reduceEqDiff, Nat.reduceSub, if_true, if_false, ne_eq, not_false_eq_true, not_true_eq_false, Option.map_some, Option.map_none, Nat.zero_add, reduceCtorEq, Nat.reduceLeDiff, one_ne_zero_a, zero_ne_one_a, aq_nb, aq_nb1, aq_nb0, aq_fb, aq_fb1, aq_fb0, aq_ofN, bB_t, bB_f, bB_v, vpn_b1, vpn_b0, nI_1, Bool.true_eq_false, Bool.false_eq_true, Bool.true_and, Bool.false_and, Bool.and_true, Bool.and_false]
            refine ih2 (d + 1) (by omega) h2 tb' t _ S b2 ⟨T.1, fun i j hi hj hij => ?_, fun i hi => ?_⟩
            · have := T.2.1 i j hi hj hij
              unfold lpM at this ⊢
              rw [show 4 * c + (d + 1) = 4 * c + d + 1 from rfl, lpS_n hd4 hx]
              exact this
            · have := T.2.2 i hi
              unfold lpM at this ⊢
              rw [show 4 * c + (d + 1) = 4 * c + d + 1 from rfl, lpS_n hd4 hx]
              exact this
          | some m2 =>
            obtain ⟨m1, m2', m3, m4, m5⟩ := nx_ok G.1.2.1 G.1.2.2.2 hc2 hd4 hx
            have hr := frc_lt (cb := cb) m3 hc2
            have hr2 := frc_lt (cb := cb) m4 m1
            have hne : frc cb m2 ≠ frc cb c := fun z => m2' (frc_inj m4 m3 z)
            have hrc := hpc c hc2
            have hrm := hpc m2 m1
            rw [hn] at hr hr2
            generalize hR : frc cb c = r at hr hne hrc
            generalize hR2 : frc cb m2 = r2 at hr2 hne hrm
            have v1 := T.1 r r hr hr
            rw [show 16 * r + r = 17 * r by omega] at v1
            have v2 := T.1 r r2 hr hr2
            have bo := T.2.1 r r2 hr hr2 (fun z => hne z.symm)
            have v3 : vp_updL tb' (17 * r) (lI (t r r + 1)) (16 * r + r2) = lI (t r r2) := by rw [pk_uLn (by omega)]; exact v2
            simp only [oI, s_X10_count_45, s_X10_count_47, s_X10_count_49, s_X10_count_50, s_X10_count_53, s_X10_count_54, s_X10_count_57, s_X10_count_59, s_X10_count_60, s_X10_count_63, s_X10_count_64, s_X10_count_65, s_X10_count_66, s_X10_count_67, s_X10_count_68, s_X10_count_69, s_X10_count_70, s_X10_count_71, s_X10_count_72, s_X10_count_75, s_X10_count_77, s_X10_count_78, s_X10_count_81, s_X10_count_82, s_X10_count_83, s_X10_count_84, s_X10_count_85, s_X10_count_88, s_X10_count_90, s_X10_count_91, s_X10_count_92, s_X10_count_93, s_X10_count_96, s_X10_count_98, s_X10_count_99, s_X10_count_102, s_X10_count_103, s_X10_count_104, s_X10_count_105, s_X10_count_106, s_X10_count_109, s_X10_count_111, s_X10_count_112, s_X10_count_113, s_X10_count_114, s_X10_count_117, s_X10_count_118, s_X10_count_119, s_X10_count_120, s_X10_count_123, s_X10_count_124, s_X10_count_125, s_X10_count_128, aq_gI, aq_gL, aq_gA, aq_isA, aq_s1, aq_s2, aq_kill, aq_ob, aq_sm, aq_arI, aq_arB, aq_isB, aq_arL, aq_arA, aq_arN, aq_sh, Value.category, List.getElem?_cons_zero, List.getElem?_cons_succ, List.length_cons, List.length_nil, Option.toList_some, Option.toList_none, List.cons_append, List.nil_append, true_and, and_true, List.set_cons_zero, List.set_cons_succ, aq_n1, aq_n2, aq_n3, aq_n4, aq_f1, aq_f2, aq_f3, aq_f4, aq_gs, aq_ty1, aq_ty2, aq_ty3, aq_ty4, aq_ty5, Nat.reduceAdd, Nat.reduceLT, Nat.reduceEqDiff, Nat.reduceSub, if_true, if_false, ne_eq, not_false_eq_true, not_true_eq_false, Option.map_some, Option.map_none, Nat.zero_add, reduceCtorEq, Nat.reduceLeDiff, one_ne_zero_a, zero_ne_one_a, aq_nb, aq_nb1, aq_nb0, aq_fb, aq_fb1, aq_fb0, aq_ofN, bB_t, bB_f, bB_v, vpn_b1, vpn_b0, nI_1, Bool.true_eq_false, Bool.false_eq_true, Bool.true_and, Bool.false_and, Bool.and_true, Bool.and_false, nI_ne_m1 (show m2 < 2 ^ 31 by omega), O3, b2, bp2, vp_in_nI (show c < 144 by omega) (show 144 < 2 ^ 31 by decide), nI_clamp (show c < 2 ^ 31 by omega), hrc, vp_in_nI (show m2 < 144 by omega) (show 144 < 2 ^ 31 by decide), nI_clamp (show m2 < 2 ^ 31 by omega), hrm, nI_17, vp_in_nI (show 17 * r < 256 by omega) (show 256 < 2 ^ 31 by decide), nI_clamp (show 17 * r < 2 ^ 31 by omega), nI_16c, vp_in_nI (show 16 * r + r2 < 256 by omega) (show 256 < 2 ^ 31 by decide), nI_clamp (show 16 * r + r2 < 2 ^ 31 by omega), v1, lI_a1, v3, pz]
            rw [show lI (t r r2) + 2147483647 - 1 = lI (t r r2 + 2147483647 - 1) by rw [lI_p, lI_add, lI_s1], lI_remp (by omega) (by omega)]
            refine ih2 (d + 1) (by omega) _ (vp_updL (vp_updL tb' (17 * r) (lI (t r r + 1))) (16 * r + r2) (lI ((t r r2 + 2147483647 - 1) % 2147483647))) (fun i j => if i = r ∧ j = r then t r r + 1 else if i = r ∧ j = r2 then (t r r2 + 2147483647 - 1) % 2147483647 else t i j) _ ((S.st (by decide) (by decide)).st (by decide) (by decide)) (by simp only [aq_gI, aq_gL, aq_gA, aq_isA, aq_s1, aq_s2, aq_kill, aq_ob, aq_sm, aq_arI, aq_arB, aq_isB, aq_arL, aq_arA, aq_arN, aq_sh, Value.category, List.getElem?_cons_zero, List.getElem?_cons_succ, List.length_cons, List.length_nil, Option.toList_some, Option.toList_none, List.cons_append, List.nil_append, true_and, and_true, List.set_cons_zero, List.set_cons_succ, aq_n1, aq_n2, aq_n3, aq_n4, aq_f1, aq_f2, aq_f3, aq_f4, aq_gs, aq_ty1, aq_ty2, aq_ty3, aq_ty4, aq_ty5, Nat.reduceAdd, Nat.reduceLT, Nat.reduceEqDiff, Nat.reduceSub, if_true, if_false, ne_eq, not_false_eq_true, not_true_eq_false, Option.map_some, Option.map_none, Nat.zero_add, reduceCtorEq, Nat.reduceLeDiff, one_ne_zero_a, zero_ne_one_a, b2]) ⟨fun i j hi hj => ?_, fun i j hi hj hij => ?_, fun i hi => ?_⟩
            · show _ = lI (if i = r ∧ j = r then t r r + 1 else if i = r ∧ j = r2 then (t r r2 + 2147483647 - 1) % 2147483647 else t i j)
              by_cases z1 : i = r ∧ j = r2
              · obtain ⟨rfl, rfl⟩ := z1
                rw [pk_uLs, if_neg (fun z => hne z.2), if_pos ⟨rfl, rfl⟩]
              · rw [pk_uLn (by omega)]
                by_cases z2 : i = r ∧ j = r
                · obtain ⟨rfl, rfl⟩ := z2
                  rw [show 16 * j + j = 17 * j by omega, pk_uLs, if_pos ⟨rfl, rfl⟩]
                · rw [pk_uLn (by omega), if_neg z2, if_neg z1]
                  exact T.1 i j hi hj
            · show 0 ≤ (if i = r ∧ j = r then t r r + 1 else if i = r ∧ j = r2 then (t r r2 + 2147483647 - 1) % 2147483647 else t i j) ∧ (if i = r ∧ j = r then t r r + 1 else if i = r ∧ j = r2 then (t r r2 + 2147483647 - 1) % 2147483647 else t i j) < 2147483647 ∧ cg (if i = r ∧ j = r then t r r + 1 else if i = r ∧ j = r2 then (t r r2 + 2147483647 - 1) % 2147483647 else t i j) _
              have hT := T.2.1 i j hi hj hij
              unfold lpM at hT ⊢
              rw [show 4 * c + (d + 1) = 4 * c + d + 1 from rfl, lpS_s hd4 hx, hR, hR2]
              rw [if_neg (show ¬ (i = r ∧ j = r) by omega), if_neg (show ¬ (i = r ∧ j = r) by omega)]
              by_cases z1 : i = r ∧ j = r2
              · obtain ⟨rfl, rfl⟩ := z1
                rw [if_pos ⟨rfl, rfl⟩, if_pos ⟨rfl, rfl⟩]
                refine ⟨(emp _).1, (emp _).2, (cg.md _).tr ?_⟩
                obtain ⟨q, hq⟩ := hT.2.2
                exact ⟨q + 1, by unfold pP at *; omega⟩
              · rw [if_neg z1, if_neg z1]
                refine ⟨hT.1, hT.2.1, hT.2.2.tr ⟨0, by omega⟩⟩
            · show (if i = r ∧ i = r then t r r + 1 else if i = r ∧ i = r2 then (t r r2 + 2147483647 - 1) % 2147483647 else t i i) = _
              have hT := T.2.2 i hi
              unfold lpM at hT ⊢
              rw [show 4 * c + (d + 1) = 4 * c + d + 1 from rfl, lpS_s hd4 hx, hR, hR2]
              by_cases z : i = r
              · subst z
                rw [if_pos ⟨rfl, rfl⟩, if_pos ⟨rfl, rfl⟩, if_neg (fun z => hne z.2.symm), hT]
                omega
              · rw [if_neg (fun y => z y.1), if_neg (fun y => z y.1), if_neg (fun y => z y.1), if_neg (fun y => z y.1), hT]
                omega
      have O3 := O.sm S (by decide)
      unfold iMo at O3
      rw [s_X10_count_24]
      simp only [s_X10_count_25, s_X10_count_26, s_X10_count_29, s_X10_count_32, s_X10_count_33, aq_gI, aq_gL, aq_gA, aq_isA, aq_s1, aq_s2, aq_kill, aq_ob, aq_sm, aq_arI, aq_arB, aq_isB, aq_arL, aq_arA, aq_arN, aq_sh, Value.category, List.getElem?_cons_zero, List.getElem?_cons_succ, List.length_cons, List.length_nil, Option.toList_some, Option.toList_none, List.cons_append, List.nil_append, true_and, and_true, List.set_cons_zero, List.set_cons_succ, aq_n1, aq_n2, aq_n3, aq_n4, aq_f1, aq_f2, aq_f3, aq_f4, aq_gs, aq_ty1, aq_ty2, aq_ty3, aq_ty4, aq_ty5, Nat.reduceAdd, Nat.reduceLT, Nat.reduceEqDiff, Nat.reduceSub, if_true, if_false, ne_eq, not_false_eq_true, not_true_eq_false, Option.map_some, Option.map_none, Nat.zero_add, reduceCtorEq, Nat.reduceLeDiff, one_ne_zero_a, zero_ne_one_a, aq_nb, aq_nb1, aq_nb0, aq_fb, aq_fb1, aq_fb0, aq_ofN, bB_t, bB_f, bB_v, vpn_b1, vpn_b0, nI_1, Bool.true_eq_false, Bool.false_eq_true, Bool.true_and, Bool.false_and, Bool.and_true, Bool.and_false, O3, nI_ge hc2 (show w * ht < 2 ^ 31 by omega)]
      rw [← nI_0]
      exact inn 4 0 rfl h2 tb' t _ S b2 T
  have one : ∀ (j x : Nat), x + j = 256 → ∀ (h2 : aq_H) (tb' : Nat → Int64), sm 57 57 h h2 → h2[57]? = some (.inl (.long, 256, .inr (.inl tb'))) → (∀ y, y < x → tb' y = 0) → aq_W e_X10_count Q 2 [some (.ref 47), some (.int (nI (m + 1))), some (.int (nI x)), none, none] [] h2 0 0 := by
    intro j
    induction j with
    | zero =>
      intro x hx h2 tb' S b2 q
      have e : x = 256 := by omega
      subst e
      have h4 : (256 : Int32) ≤ nI 256 := by decide
      rw [s_X10_count_2]
      simp only [s_X10_count_3, s_X10_count_6, s_X10_count_22, s_X10_count_23, aq_gI, aq_gL, aq_gA, aq_isA, aq_s1, aq_s2, aq_kill, aq_ob, aq_sm, aq_arI, aq_arB, aq_isB, aq_arL, aq_arA, aq_arN, aq_sh, Value.category, List.getElem?_cons_zero, List.getElem?_cons_succ, List.length_cons, List.length_nil, Option.toList_some, Option.toList_none, List.cons_append, List.nil_append, true_and, and_true, List.set_cons_zero, List.set_cons_succ, aq_n1, aq_n2, aq_n3, aq_n4, aq_f1, aq_f2, aq_f3, aq_f4, aq_gs, aq_ty1, aq_ty2, aq_ty3, aq_ty4, aq_ty5, Nat.reduceAdd, Nat.reduceLT, Nat.reduceEqDiff, Nat.reduceSub, if_true, if_false, ne_eq, not_false_eq_true, not_true_eq_false, Option.map_some, Option.map_none, Nat.zero_add, reduceCtorEq, Nat.reduceLeDiff, one_ne_zero_a, zero_ne_one_a, aq_nb, aq_nb1, aq_nb0, aq_fb, aq_fb1, aq_fb0, aq_ofN, bB_t, bB_f, bB_v, vpn_b1, vpn_b0, nI_1, Bool.true_eq_false, Bool.false_eq_true, Bool.true_and, Bool.false_and, Bool.and_true, Bool.and_false, h4]
      rw [← nI_0]
      exact two (w * ht) 0 (Nat.zero_add _) h2 tb' (fun _ _ => 0) _ _ S b2 ⟨fun i j hi hj => q _ (by omega), fun i j _ _ _ => ⟨Int.le_refl 0, (show (0 : Int) < 2147483647 by decide), cg.rf 0⟩, fun i _ => rfl⟩
    | succ j ih =>
      intro x hx h2 tb' S b2 q
      have hx2 : x < 256 := by omega
      have h4 : ¬ (256 : Int32) ≤ nI x := by rw [show (256 : Int32) = nI 256 from rfl]; exact nI_ge hx2 (by decide)
      have O3 := O.sm S (by decide)
      unfold iMo at O3
      rw [s_X10_count_2]
      simp only [s_X10_count_3, s_X10_count_6, s_X10_count_9, s_X10_count_10, s_X10_count_13, s_X10_count_14, s_X10_count_15, s_X10_count_16, s_X10_count_19, aq_gI, aq_gL, aq_gA, aq_isA, aq_s1, aq_s2, aq_kill, aq_ob, aq_sm, aq_arI, aq_arB, aq_isB, aq_arL, aq_arA, aq_arN, aq_sh, Value.category, List.getElem?_cons_zero, List.getElem?_cons_succ, List.length_cons, List.length_nil, Option.toList_some, Option.toList_none, List.cons_append, List.nil_append, true_and, and_true, List.set_cons_zero, List.set_cons_succ, aq_n1, aq_n2, aq_n3, aq_n4, aq_f1, aq_f2, aq_f3, aq_f4, aq_gs, aq_ty1, aq_ty2, aq_ty3, aq_ty4, aq_ty5, Nat.reduceAdd, Nat.reduceLT, Nat.reduceEqDiff, Nat.reduceSub, if_true, if_false, ne_eq, not_false_eq_true, not_true_eq_false, Option.map_some, Option.map_none, Nat.zero_add, reduceCtorEq, Nat.reduceLeDiff, one_ne_zero_a, zero_ne_one_a, aq_nb, aq_nb1, aq_nb0, aq_fb, aq_fb1, aq_fb0, aq_ofN, bB_t, bB_f, bB_v, vpn_b1, vpn_b0, nI_1, Bool.true_eq_false, Bool.false_eq_true, Bool.true_and, Bool.false_and, Bool.and_true, Bool.and_false, h4, O3, b2, vp_in_nI hx2 (show 256 < 2 ^ 31 by decide), nI_clamp (show x < 2 ^ 31 by omega)]
      refine ih (x + 1) (by omega) _ (vp_updL tb' x 0) (S.st (by decide) (by decide)) (by simp only [aq_gI, aq_gL, aq_gA, aq_isA, aq_s1, aq_s2, aq_kill, aq_ob, aq_sm, aq_arI, aq_arB, aq_isB, aq_arL, aq_arA, aq_arN, aq_sh, Value.category, List.getElem?_cons_zero, List.getElem?_cons_succ, List.length_cons, List.length_nil, Option.toList_some, Option.toList_none, List.cons_append, List.nil_append, true_and, and_true, List.set_cons_zero, List.set_cons_succ, aq_n1, aq_n2, aq_n3, aq_n4, aq_f1, aq_f2, aq_f3, aq_f4, aq_gs, aq_ty1, aq_ty2, aq_ty3, aq_ty4, aq_ty5, Nat.reduceAdd, Nat.reduceLT, Nat.reduceEqDiff, Nat.reduceSub, if_true, if_false, ne_eq, not_false_eq_true, not_true_eq_false, Option.map_some, Option.map_none, Nat.zero_add, reduceCtorEq, Nat.reduceLeDiff, one_ne_zero_a, zero_ne_one_a, b2]) (fun y hy => ?_)
      by_cases z : y = x
      · rw [z]; exact pk_uLs
      · rw [pk_uLn z]; exact q y (by omega)
  simp only [s_X10_count_0, s_X10_count_1, aq_gI, aq_gL, aq_gA, aq_isA, aq_s1, aq_s2, aq_kill, aq_ob, aq_sm, aq_arI, aq_arB, aq_isB, aq_arL, aq_arA, aq_arN, aq_sh, Value.category, List.getElem?_cons_zero, List.getElem?_cons_succ, List.length_cons, List.length_nil, Option.toList_some, Option.toList_none, List.cons_append, List.nil_append, true_and, and_true, List.set_cons_zero, List.set_cons_succ, aq_n1, aq_n2, aq_n3, aq_n4, aq_f1, aq_f2, aq_f3, aq_f4, aq_gs, aq_ty1, aq_ty2, aq_ty3, aq_ty4, aq_ty5, Nat.reduceAdd, Nat.reduceLT, Nat.reduceEqDiff, Nat.reduceSub, if_true, if_false, ne_eq, not_false_eq_true, not_true_eq_false, Option.map_some, Option.map_none, Nat.zero_add, reduceCtorEq, Nat.reduceLeDiff, one_ne_zero_a, zero_ne_one_a, aq_nb, aq_nb1, aq_nb0, aq_fb, aq_fb1, aq_fb0, aq_ofN, bB_t, bB_f, bB_v, vpn_b1, vpn_b0, nI_1, Bool.true_eq_false, Bool.false_eq_true, Bool.true_and, Bool.false_and, Bool.and_true, Bool.and_false]
  rw [← nI_0]
  exact one 256 0 rfl h tb (sm.rf _ _ _) b (fun y hy => by omega)
def mRl (h : aq_H) (v : Int64) (w ht : Nat) (wx wy : Bool) (cb : Nat → Bool) (hm : Bool) (D : drT) (Z : mzT) (P : plT) : Option Value → aq_H → Prop := fun r h' => r = some (.long v) ∧ sm 47 60 h h' ∧ MDL h' w ht wx wy cb hm D Z P
theorem m_trees (T : MDL h w ht wx wy cb hm D Z P) : aq_T e_X10_trees 3 0 0 [.ref 47] h (mRl h (aTr w ht wx wy cb) w ht wx wy cb hm D Z P) := by
  refine ⟨Nat.le_of_ble_eq_true rfl, ?_⟩
  show aq_W _ _ 0 [some (.ref 47), none, none] [] _ _ _
  obtain ⟨wr, thr, rt, ci, st, ex, pl, hd, sg, mc, mx, mt, mp, mo, md, mw, mk, mr, tb, pc, fa, go, O0, G0, A0, g⟩ := T
  have OO := O0
  unfold iMo at OO
  simp only [s_X10_trees_0, s_X10_trees_1, s_X10_trees_2, aq_gI, aq_gL, aq_gA, aq_isA, aq_s1, aq_s2, aq_kill, aq_ob, aq_sm, aq_arI, aq_arB, aq_isB, aq_arL, aq_arA, aq_arN, aq_sh, Value.category, List.getElem?_cons_zero, List.getElem?_cons_succ, List.length_cons, List.length_nil, Option.toList_some, Option.toList_none, List.cons_append, List.nil_append, true_and, and_true, List.set_cons_zero, List.set_cons_succ, aq_n1, aq_n2, aq_n3, aq_n4, aq_f1, aq_f2, aq_f3, aq_f4, aq_gs, aq_ty1, aq_ty2, aq_ty3, aq_ty4, aq_ty5, Nat.reduceAdd, Nat.reduceLT, Nat.reduceEqDiff, Nat.reduceSub, if_true, if_false, ne_eq, not_false_eq_true, not_true_eq_false, Option.map_some, Option.map_none, Nat.zero_add, reduceCtorEq, Nat.reduceLeDiff, one_ne_zero_a, zero_ne_one_a, OO]
  have O := O0.st (bB hm) wr 0 rt ci st ex pl hd sg
  have G := G0.s48 (mOb w ht wr 0 (bB hm) rt ci st ex pl hd sg)
  have A := A0.s48 (mOb w ht wr 0 (bB hm) rt ci st ex pl hd sg)
  have S : sm 47 60 h (h.set 47 (mOb w ht wr 0 (bB hm) rt ci st ex pl hd sg)) := (sm.rf _ _ _).st (by decide) (by decide)
  change aq_W _ _ _ _ _ (h.set 47 (mOb w ht wr 0 (bB hm) rt ci st ex pl hd sg)) _ _
  generalize h.set 47 (mOb w ht wr 0 (bB hm) rt ci st ex pl hd sg) = h1 at O G A S ⊢
  have O1 := O
  unfold iMo at O1
  have hnn := wh_lt G.1
  have hfl := frc_le cb (w * ht)
  have one : ∀ (j c : Nat), c + j = w * ht → ∀ (h2 : aq_H) (pc : Nat → Int32), sm 47 60 h h2 → iMo h2 w ht wr 0 (bB hm) rt ci st ex pl hd sg → gMb h2 w ht wx wy cb wr mc → iAr h2 mx mt mp mo md mw mk mr tb pc fa go → (∀ x, x < c → pc x = nI (frc cb x)) → aq_W e_X10_trees (mRl h (aTr w ht wx wy cb) w ht wx wy cb hm D Z P) 9 [some (.ref 47), some (.int (nI (frc cb c))), some (.int (nI c))] [] h2 0 0 := by
    intro j
    induction j with
    | zero =>
      intro c hc h2 pc S2 O2 G2 A2 q
      have e : c = w * ht := by omega
      subst e
      have O3 := O2
      unfold iMo at O3
      rw [s_X10_trees_9]
      unfold aTr
      by_cases e0 : frc cb (w * ht) = 0
      · rw [if_pos (Or.inl e0), e0]
        simp only [s_X10_trees_10, s_X10_trees_11, s_X10_trees_14, s_X10_trees_47, s_X10_trees_48, s_X10_trees_57, s_X10_trees_60, s_X10_trees_68, aq_gI, aq_gL, aq_gA, aq_isA, aq_s1, aq_s2, aq_kill, aq_ob, aq_sm, aq_arI, aq_arB, aq_isB, aq_arL, aq_arA, aq_arN, aq_sh, Value.category, List.getElem?_cons_zero, List.getElem?_cons_succ, List.length_cons, List.length_nil, Option.toList_some, Option.toList_none, List.cons_append, List.nil_append, true_and, and_true, List.set_cons_zero, List.set_cons_succ, aq_n1, aq_n2, aq_n3, aq_n4, aq_f1, aq_f2, aq_f3, aq_f4, aq_gs, aq_ty1, aq_ty2, aq_ty3, aq_ty4, aq_ty5, Nat.reduceAdd, Nat.reduceLT, Nat.reduceEqDiff, Nat.reduceSub, if_true, if_false, ne_eq, not_false_eq_true, not_true_eq_false, Option.map_some, Option.map_none, Nat.zero_add, reduceCtorEq, Nat.reduceLeDiff, one_ne_zero_a, zero_ne_one_a, aq_nb, aq_nb1, aq_nb0, aq_fb, aq_fb1, aq_fb0, aq_ofN, bB_t, bB_f, bB_v, vpn_b1, vpn_b0, nI_1, Bool.true_eq_false, Bool.false_eq_true, Bool.true_and, Bool.false_and, Bool.and_true, Bool.and_false, O3, nI_le (Nat.le_refl (w * ht)) (show w * ht < 2 ^ 31 by omega), show nI 0 = 0 from rfl]
        exact ⟨rfl, S2, MDL_mk O2 G2 A2 g⟩
      · have h0 := nI_ne0 (show 0 < frc cb (w * ht) by omega) (show frc cb (w * ht) < 2 ^ 31 by omega)
        by_cases e1 : 16 < frc cb (w * ht)
        · have h1 : ¬ nI (frc cb (w * ht)) ≤ 16 := by rw [nI_16]; exact nI_ge e1 (by omega)
          rw [if_pos (Or.inr e1)]
          simp only [s_X10_trees_10, s_X10_trees_11, s_X10_trees_14, s_X10_trees_47, s_X10_trees_48, s_X10_trees_51, s_X10_trees_52, s_X10_trees_54, s_X10_trees_57, s_X10_trees_60, s_X10_trees_68, aq_gI, aq_gL, aq_gA, aq_isA, aq_s1, aq_s2, aq_kill, aq_ob, aq_sm, aq_arI, aq_arB, aq_isB, aq_arL, aq_arA, aq_arN, aq_sh, Value.category, List.getElem?_cons_zero, List.getElem?_cons_succ, List.length_cons, List.length_nil, Option.toList_some, Option.toList_none, List.cons_append, List.nil_append, true_and, and_true, List.set_cons_zero, List.set_cons_succ, aq_n1, aq_n2, aq_n3, aq_n4, aq_f1, aq_f2, aq_f3, aq_f4, aq_gs, aq_ty1, aq_ty2, aq_ty3, aq_ty4, aq_ty5, Nat.reduceAdd, Nat.reduceLT, Nat.reduceEqDiff, Nat.reduceSub, if_true, if_false, ne_eq, not_false_eq_true, not_true_eq_false, Option.map_some, Option.map_none, Nat.zero_add, reduceCtorEq, Nat.reduceLeDiff, one_ne_zero_a, zero_ne_one_a, aq_nb, aq_nb1, aq_nb0, aq_fb, aq_fb1, aq_fb0, aq_ofN, bB_t, bB_f, bB_v, vpn_b1, vpn_b0, nI_1, Bool.true_eq_false, Bool.false_eq_true, Bool.true_and, Bool.false_and, Bool.and_true, Bool.and_false, O3, nI_le (Nat.le_refl (w * ht)) (show w * ht < 2 ^ 31 by omega), h0, h1]
          exact ⟨rfl, S2, MDL_mk O2 G2 A2 g⟩
        · have h1 : nI (frc cb (w * ht)) ≤ 16 := by rw [nI_16]; exact nI_le (by omega) (by decide)
          obtain ⟨m, hm⟩ : ∃ m, frc cb (w * ht) = m + 1 := ⟨frc cb (w * ht) - 1, by omega⟩
          rw [if_neg (by omega)]
          simp only [s_X10_trees_10, s_X10_trees_11, s_X10_trees_14, s_X10_trees_47, s_X10_trees_48, s_X10_trees_51, s_X10_trees_52, s_X10_trees_54, s_X10_trees_63, s_X10_trees_64, s_X10_trees_65, aq_gI, aq_gL, aq_gA, aq_isA, aq_s1, aq_s2, aq_kill, aq_ob, aq_sm, aq_arI, aq_arB, aq_isB, aq_arL, aq_arA, aq_arN, aq_sh, Value.category, List.getElem?_cons_zero, List.getElem?_cons_succ, List.length_cons, List.length_nil, Option.toList_some, Option.toList_none, List.cons_append, List.nil_append, true_and, and_true, List.set_cons_zero, List.set_cons_succ, aq_n1, aq_n2, aq_n3, aq_n4, aq_f1, aq_f2, aq_f3, aq_f4, aq_gs, aq_ty1, aq_ty2, aq_ty3, aq_ty4, aq_ty5, Nat.reduceAdd, Nat.reduceLT, Nat.reduceEqDiff, Nat.reduceSub, if_true, if_false, ne_eq, not_false_eq_true, not_true_eq_false, Option.map_some, Option.map_none, Nat.zero_add, reduceCtorEq, Nat.reduceLeDiff, one_ne_zero_a, zero_ne_one_a, aq_nb, aq_nb1, aq_nb0, aq_fb, aq_fb1, aq_fb0, aq_ofN, bB_t, bB_f, bB_v, vpn_b1, vpn_b0, nI_1, Bool.true_eq_false, Bool.false_eq_true, Bool.true_and, Bool.false_and, Bool.and_true, Bool.and_false, O3, nI_le (Nat.le_refl (w * ht)) (show w * ht < 2 ^ 31 by omega), h0, h1]
          have key := m_count O2 G2 A2.2.2.2.2.2.2.2.2.1 A2.2.2.2.2.2.2.2.2.2.1 q hm (by omega)
          rw [← hm] at key
          refine key.use ?_
          rintro _ h3 ⟨rfl, S3, tb3, b3⟩
          simp only [s_X10_trees_68, aq_gI, aq_gL, aq_gA, aq_isA, aq_s1, aq_s2, aq_kill, aq_ob, aq_sm, aq_arI, aq_arB, aq_isB, aq_arL, aq_arA, aq_arN, aq_sh, Value.category, List.getElem?_cons_zero, List.getElem?_cons_succ, List.length_cons, List.length_nil, Option.toList_some, Option.toList_none, List.cons_append, List.nil_append, true_and, and_true, List.set_cons_zero, List.set_cons_succ, aq_n1, aq_n2, aq_n3, aq_n4, aq_f1, aq_f2, aq_f3, aq_f4, aq_gs, aq_ty1, aq_ty2, aq_ty3, aq_ty4, aq_ty5, Nat.reduceAdd, Nat.reduceLT, Nat.reduceEqDiff, Nat.reduceSub, if_true, if_false, ne_eq, not_false_eq_true, not_true_eq_false, Option.map_some, Option.map_none, Nat.zero_add, reduceCtorEq, Nat.reduceLeDiff, one_ne_zero_a, zero_ne_one_a, aq_nb, aq_nb1, aq_nb0, aq_fb, aq_fb1, aq_fb0, aq_ofN, bB_t, bB_f, bB_v, vpn_b1, vpn_b0, nI_1, Bool.true_eq_false, Bool.false_eq_true, Bool.true_and, Bool.false_and, Bool.and_true, Bool.and_false]
          obtain ⟨a1, a2, a3, a4, a5, a6, a7, a8, a9, a10, a11, a12⟩ := A2
          refine ⟨by rw [hm, show m + 1 - 1 = m from rfl], S2.tr (S3.mo (by decide) (by decide)), MDL_mk (O2.sm S3 (by decide)) (G2.sm S3 (by decide)) ⟨(S3 49 (by omega)).trans a1, (S3 50 (by omega)).trans a2, (S3 51 (by omega)).trans a3, (S3 52 (by omega)).trans a4, (S3 53 (by omega)).trans a5, (S3 54 (by omega)).trans a6, (S3 55 (by omega)).trans a7, (S3 56 (by omega)).trans a8, b3, (S3 58 (by omega)).trans a10, (S3 59 (by omega)).trans a11, (S3 60 (by omega)).trans a12⟩ g⟩
    | succ j ih =>
      intro c hc h2 pc S2 O2 G2 A2 q
      have hc2 : c < w * ht := by omega
      have hnext := ih (c + 1) (by omega)
      rw [frc_s] at hnext
      have O3 := O2
      unfold iMo at O3
      have b10 := A2.2.2.2.2.2.2.2.2.2.1
      have S4 := sm1 58 h2 (.inl (.int, 144, .inl (upd pc c (nI (frc cb c)))))
      have nx_ : ∀ x, x < c + 1 → upd pc c (nI (frc cb c)) x = nI (frc cb x) := by
        intro x hx
        by_cases z : x = c
        · rw [z, upd_s]
        · rw [upd_n _ _ z]; exact q x (by omega)
      rw [s_X10_trees_9]
      simp only [s_X10_trees_10, s_X10_trees_11, s_X10_trees_14, s_X10_trees_17, s_X10_trees_18, s_X10_trees_21, s_X10_trees_22, s_X10_trees_23, s_X10_trees_24, s_X10_trees_25, s_X10_trees_26, s_X10_trees_29, s_X10_trees_30, aq_gI, aq_gL, aq_gA, aq_isA, aq_s1, aq_s2, aq_kill, aq_ob, aq_sm, aq_arI, aq_arB, aq_isB, aq_arL, aq_arA, aq_arN, aq_sh, Value.category, List.getElem?_cons_zero, List.getElem?_cons_succ, List.length_cons, List.length_nil, Option.toList_some, Option.toList_none, List.cons_append, List.nil_append, true_and, and_true, List.set_cons_zero, List.set_cons_succ, aq_n1, aq_n2, aq_n3, aq_n4, aq_f1, aq_f2, aq_f3, aq_f4, aq_gs, aq_ty1, aq_ty2, aq_ty3, aq_ty4, aq_ty5, Nat.reduceAdd, Nat.reduceLT, Nat.reduceEqDiff, Nat.reduceSub, if_true, if_false, ne_eq, not_false_eq_true, not_true_eq_false, Option.map_some, Option.map_none, Nat.zero_add, reduceCtorEq, Nat.reduceLeDiff, one_ne_zero_a, zero_ne_one_a, aq_nb, aq_nb1, aq_nb0, aq_fb, aq_fb1, aq_fb0, aq_ofN, bB_t, bB_f, bB_v, vpn_b1, vpn_b0, nI_1, Bool.true_eq_false, Bool.false_eq_true, Bool.true_and, Bool.false_and, Bool.and_true, Bool.and_false, O3, nI_ge hc2 (show w * ht < 2 ^ 31 by omega), b10, G2.2.2.1, vp_in_nI (show c < 144 by omega) (show 144 < 2 ^ 31 by decide), nI_clamp (show c < 2 ^ 31 by omega), G2.2.2.2 c hc2]
      cases hb : cb c with
      | true =>
        rw [hb, if_pos rfl, Nat.add_zero] at hnext
        simp only [s_X10_trees_31, s_X10_trees_34, s_X10_trees_35, s_X10_trees_39, s_X10_trees_40, s_X10_trees_41, s_X10_trees_44, aq_gI, aq_gL, aq_gA, aq_isA, aq_s1, aq_s2, aq_kill, aq_ob, aq_sm, aq_arI, aq_arB, aq_isB, aq_arL, aq_arA, aq_arN, aq_sh, Value.category, List.getElem?_cons_zero, List.getElem?_cons_succ, List.length_cons, List.length_nil, Option.toList_some, Option.toList_none, List.cons_append, List.nil_append, true_and, and_true, List.set_cons_zero, List.set_cons_succ, aq_n1, aq_n2, aq_n3, aq_n4, aq_f1, aq_f2, aq_f3, aq_f4, aq_gs, aq_ty1, aq_ty2, aq_ty3, aq_ty4, aq_ty5, Nat.reduceAdd, Nat.reduceLT, Nat.reduceEqDiff, Nat.reduceSub, if_true, if_false, ne_eq, not_false_eq_true, not_true_eq_false, Option.map_some, Option.map_none, Nat.zero_add, reduceCtorEq, Nat.reduceLeDiff, one_ne_zero_a, zero_ne_one_a, aq_nb, aq_nb1, aq_nb0, aq_fb, aq_fb1, aq_fb0, aq_ofN, bB_t, bB_f, bB_v, vpn_b1, vpn_b0, nI_1, Bool.true_eq_false, Bool.false_eq_true, Bool.true_and, Bool.false_and, Bool.and_true, Bool.and_false, n0a]
        exact hnext _ _ (S2.tr (S4.mo (by decide) (by decide))) (O2.sm S4 (by decide)) (G2.sm S4 (by decide)) (A2.s59 _) nx_
      | false =>
        rw [hb, if_neg (by decide)] at hnext
        simp only [s_X10_trees_31, s_X10_trees_38, s_X10_trees_39, s_X10_trees_40, s_X10_trees_41, s_X10_trees_44, aq_gI, aq_gL, aq_gA, aq_isA, aq_s1, aq_s2, aq_kill, aq_ob, aq_sm, aq_arI, aq_arB, aq_isB, aq_arL, aq_arA, aq_arN, aq_sh, Value.category, List.getElem?_cons_zero, List.getElem?_cons_succ, List.length_cons, List.length_nil, Option.toList_some, Option.toList_none, List.cons_append, List.nil_append, true_and, and_true, List.set_cons_zero, List.set_cons_succ, aq_n1, aq_n2, aq_n3, aq_n4, aq_f1, aq_f2, aq_f3, aq_f4, aq_gs, aq_ty1, aq_ty2, aq_ty3, aq_ty4, aq_ty5, Nat.reduceAdd, Nat.reduceLT, Nat.reduceEqDiff, Nat.reduceSub, if_true, if_false, ne_eq, not_false_eq_true, not_true_eq_false, Option.map_some, Option.map_none, Nat.zero_add, reduceCtorEq, Nat.reduceLeDiff, one_ne_zero_a, zero_ne_one_a, aq_nb, aq_nb1, aq_nb0, aq_fb, aq_fb1, aq_fb0, aq_ofN, bB_t, bB_f, bB_v, vpn_b1, vpn_b0, nI_1, Bool.true_eq_false, Bool.false_eq_true, Bool.true_and, Bool.false_and, Bool.and_true, Bool.and_false]
        exact hnext _ _ (S2.tr (S4.mo (by decide) (by decide))) (O2.sm S4 (by decide)) (G2.sm S4 (by decide)) (A2.s59 _) nx_
  simp only [s_X10_trees_5, s_X10_trees_6, s_X10_trees_7, s_X10_trees_8, aq_gI, aq_gL, aq_gA, aq_isA, aq_s1, aq_s2, aq_kill, aq_ob, aq_sm, aq_arI, aq_arB, aq_isB, aq_arL, aq_arA, aq_arN, aq_sh, Value.category, List.getElem?_cons_zero, List.getElem?_cons_succ, List.length_cons, List.length_nil, Option.toList_some, Option.toList_none, List.cons_append, List.nil_append, true_and, and_true, List.set_cons_zero, List.set_cons_succ, aq_n1, aq_n2, aq_n3, aq_n4, aq_f1, aq_f2, aq_f3, aq_f4, aq_gs, aq_ty1, aq_ty2, aq_ty3, aq_ty4, aq_ty5, Nat.reduceAdd, Nat.reduceLT, Nat.reduceEqDiff, Nat.reduceSub, if_true, if_false, ne_eq, not_false_eq_true, not_true_eq_false, Option.map_some, Option.map_none, Nat.zero_add, reduceCtorEq, Nat.reduceLeDiff, one_ne_zero_a, zero_ne_one_a, aq_nb, aq_nb1, aq_nb0, aq_fb, aq_fb1, aq_fb0, aq_ofN, bB_t, bB_f, bB_v, vpn_b1, vpn_b0, nI_1, Bool.true_eq_false, Bool.false_eq_true, Bool.true_and, Bool.false_and, Bool.and_true, Bool.and_false]
  rw [← nI_0]
  exact one (w * ht) 0 (Nat.zero_add _) h1 pc S O G A (fun x hx => by omega)
end MTS
