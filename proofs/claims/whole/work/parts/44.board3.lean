section BD3
variable {h : aq_H} {w ht : Nat} {cut bes lead pas : Nat → Int32} {fr : Int32} {wx wy : Bool} {cb : Nat → Bool}
theorem t_findWays (B : iBd h w ht cut bes lead pas fr) (hw : 0 < w ∧ w < 13 ∧ 0 < ht ∧ ht < 13) (hcut : ∀ j, j < w * ht → cut j = bB (cb j)) (hbes : ∀ c d, c < w * ht → d < 4 → bes (c * 4 + d) = oI (nb w ht wx wy c d)) :
    aq_T e_X0_findWays 6 0 0 [.ref 1] h (fun r h' => r = none ∧ ∃ lead' pas', iBd h' w ht cut bes lead' pas' fr ∧ sm 4 5 h h' ∧ fwI w ht wx wy cb (w * ht * 4) lead' pas') := by
  have hn := wh_lt hw
  refine ⟨Nat.le_of_ble_eq_true rfl, ?_⟩
  show aq_W _ _ 0 [some (.ref 1), none, none, none, none, none] [] _ _ _
  have key : ∀ (k c : Nat), c + k = w * ht → ∀ (h1 : aq_H) (lead pas : Nat → Int32) (x2 x3 x4 x5 : Option Value), iBd h1 w ht cut bes lead pas fr → sm 4 5 h h1 → fwI w ht wx wy cb (c * 4) lead pas → aq_kill x2 = x2 → aq_kill x3 = x3 → aq_kill x4 = x4 → aq_kill x5 = x5 → aq_W e_X0_findWays (fun r h' => r = none ∧ ∃ lead' pas', iBd h' w ht cut bes lead' pas' fr ∧ sm 4 5 h h' ∧ fwI w ht wx wy cb (w * ht * 4) lead' pas') 2 [some (.ref 1), some (.int (nI c)), x2, x3, x4, x5] [] h1 0 0 := by
    intro k
    induction k with
    | zero =>
      intro c hc h1 lead pas x2 x3 x4 x5 B S I y2 y3 y4 y5
      have e : c = w * ht := by omega
      subst e
      have hB := B
      obtain ⟨b1, b2, b3, b4, b5⟩ := B
      rw [s_X0_findWays_2]
      simp only [s_X0_findWays_3, s_X0_findWays_4, s_X0_findWays_7, s_X0_findWays_114, aq_gI, aq_gL, aq_gA, aq_isA, aq_s1, aq_s2, aq_kill, aq_ob, aq_sm, aq_arI, aq_arB, aq_isB, aq_arL, aq_arA, aq_arN, aq_sh, Value.category, List.getElem?_cons_zero, List.getElem?_cons_succ, List.length_cons, List.length_nil, Option.toList_some, Option.toList_none, List.cons_append, List.nil_append, true_and, and_true, List.set_cons_zero, List.set_cons_succ, aq_n1, aq_n2, aq_n3, aq_n4, aq_f1, aq_f2, aq_f3, aq_f4, aq_gs, aq_ty1, aq_ty2, aq_ty3, aq_ty4, aq_ty5, Nat.reduceAdd, Nat.reduceLT, Nat.reduceEqDiff, Nat.reduceSub, if_true, if_false, ne_eq, not_false_eq_true, not_true_eq_false, Option.map_some, Option.map_none, Nat.zero_add, reduceCtorEq, Nat.reduceLeDiff, one_ne_zero_a, zero_ne_one_a, b1, nI_le (Nat.le_refl (w * ht)) (show w * ht < 2 ^ 31 by omega)]
      exact ⟨lead, pas, hB, S, I⟩
    | succ k ih =>
      intro c hc h1 lead pas x2 x3 x4 x5 B S I y2 y3 y4 y5
      have hB := B
      obtain ⟨b1, b2, b3, b4, b5⟩ := B
      rw [s_X0_findWays_2]
      simp only [s_X0_findWays_3, s_X0_findWays_4, s_X0_findWays_7, s_X0_findWays_10, s_X0_findWays_11, aq_gI, aq_gL, aq_gA, aq_isA, aq_s1, aq_s2, aq_kill, aq_ob, aq_sm, aq_arI, aq_arB, aq_isB, aq_arL, aq_arA, aq_arN, aq_sh, Value.category, List.getElem?_cons_zero, List.getElem?_cons_succ, List.length_cons, List.length_nil, Option.toList_some, Option.toList_none, List.cons_append, List.nil_append, true_and, and_true, List.set_cons_zero, List.set_cons_succ, aq_n1, aq_n2, aq_n3, aq_n4, aq_f1, aq_f2, aq_f3, aq_f4, aq_gs, aq_ty1, aq_ty2, aq_ty3, aq_ty4, aq_ty5, Nat.reduceAdd, Nat.reduceLT, Nat.reduceEqDiff, Nat.reduceSub, if_true, if_false, ne_eq, not_false_eq_true, not_true_eq_false, Option.map_some, Option.map_none, Nat.zero_add, reduceCtorEq, Nat.reduceLeDiff, one_ne_zero_a, zero_ne_one_a, b1, nI_ge (show c < w * ht by omega) (show w * ht < 2 ^ 31 by omega)]
      refine fw_in hw hcut hbes (show c < w * ht by omega) (h0 := h) ?_ 4 0 rfl h1 lead pas x3 x4 x5 hB S I y3 y4 y5
      intro h2 lead2 pas2 z3 z4 z5 B2 S2 I2 q3 q4 q5
      simp only [s_X0_findWays_108, s_X0_findWays_111, aq_gI, aq_gL, aq_gA, aq_isA, aq_s1, aq_s2, aq_kill, aq_ob, aq_sm, aq_arI, aq_arB, aq_isB, aq_arL, aq_arA, aq_arN, aq_sh, Value.category, List.getElem?_cons_zero, List.getElem?_cons_succ, List.length_cons, List.length_nil, Option.toList_some, Option.toList_none, List.cons_append, List.nil_append, true_and, and_true, List.set_cons_zero, List.set_cons_succ, aq_n1, aq_n2, aq_n3, aq_n4, aq_f1, aq_f2, aq_f3, aq_f4, aq_gs, aq_ty1, aq_ty2, aq_ty3, aq_ty4, aq_ty5, Nat.reduceAdd, Nat.reduceLT, Nat.reduceEqDiff, Nat.reduceSub, if_true, if_false, ne_eq, not_false_eq_true, not_true_eq_false, Option.map_some, Option.map_none, Nat.zero_add, reduceCtorEq, Nat.reduceLeDiff, one_ne_zero_a, zero_ne_one_a, nI_1]
      exact ih (c + 1) (by omega) h2 lead2 pas2 _ _ _ _ B2 S2 (by rw [show (c + 1) * 4 = c * 4 + 4 by omega]; exact I2) rfl q3 q4 q5
  simp only [s_X0_findWays_0, s_X0_findWays_1, aq_gI, aq_gL, aq_gA, aq_isA, aq_s1, aq_s2, aq_kill, aq_ob, aq_sm, aq_arI, aq_arB, aq_isB, aq_arL, aq_arA, aq_arN, aq_sh, Value.category, List.getElem?_cons_zero, List.getElem?_cons_succ, List.length_cons, List.length_nil, Option.toList_some, Option.toList_none, List.cons_append, List.nil_append, true_and, and_true, List.set_cons_zero, List.set_cons_succ, aq_n1, aq_n2, aq_n3, aq_n4, aq_f1, aq_f2, aq_f3, aq_f4, aq_gs, aq_ty1, aq_ty2, aq_ty3, aq_ty4, aq_ty5, Nat.reduceAdd, Nat.reduceLT, Nat.reduceEqDiff, Nat.reduceSub, if_true, if_false, ne_eq, not_false_eq_true, not_true_eq_false, Option.map_some, Option.map_none, Nat.zero_add, reduceCtorEq, Nat.reduceLeDiff, one_ne_zero_a, zero_ne_one_a]
  exact key (w * ht) 0 (by omega) h lead pas none none none none B (sm.rf _ _ _) (fun c d _ _ hl => by omega) rfl rfl rfl rfl
theorem frc_le (cb : Nat → Bool) : ∀ n, frc cb n ≤ n
  | 0 => Nat.le_refl 0
  | n + 1 => by
    have := frc_le cb n
    unfold frc
    split <;> omega
theorem frc_congr {cb cb' : Nat → Bool} : ∀ n, (∀ j, j < n → cb j = cb' j) → frc cb n = frc cb' n
  | 0, _ => rfl
  | n + 1, h => by
    unfold frc
    rw [frc_congr n (fun j hj => h j (by omega)), h n (by omega)]
/-- one cell is cut, or not any more -/
def cbs (cb : Nat → Bool) (k : Nat) (v : Bool) : Nat → Bool := fun j => if j = k then v else cb j
theorem frc_cut {cb : Nat → Bool} {k : Nat} : ∀ n, k < n → cb k = false → frc cb n = frc (cbs cb k true) n + 1
  | 0, h, _ => by omega
  | n + 1, h, hk => by
    unfold frc
    by_cases e : k = n
    · subst e
      rw [frc_congr (cb := cbs cb k true) (cb' := cb) k (fun j hj => by simp [cbs, show j ≠ k by omega])]
      simp [cbs, hk]
    · have h1 := frc_cut n (by omega) hk
      simp only [cbs, show n ≠ k by omega, if_false] at h1 ⊢
      omega
theorem frc_un {cb : Nat → Bool} {k : Nat} {n : Nat} (h : k < n) (hk : cb k = true) : frc (cbs cb k false) n = frc cb n + 1 := by
  have h1 := frc_cut (cb := cbs cb k false) (k := k) n h (by simp [cbs])
  rw [h1]
  congr 1
  refine frc_congr n (fun j _ => ?_)
  by_cases e : j = k
  · subst e; simp [cbs, hk]
  · simp [cbs, e]
theorem t_setCut (B : iBd h w ht cut bes lead pas fr) (G : gBd w ht wx wy cb cut bes lead pas fr) {c : Nat} (hc : c < w * ht) {v : Bool} (hv : cb c = !v) :
    aq_T e_X0_setCut 3 0 0 [.ref 1, .int (nI c), .int (bB v)] h (fun r h' => r = none ∧ ∃ cut' lead' pas' fr', iBd h' w ht cut' bes lead' pas' fr' ∧ sm 1 5 h h' ∧ gBd w ht wx wy (cbs cb c v) cut' bes lead' pas' fr') := by
  have hn := wh_lt G.1
  obtain ⟨g1, g2, g3, g4, g5, g6⟩ := G
  have hfr : fr + (if bB v = 0 then 1 else -1) = nI (frc (cbs cb c v) (w * ht)) := by
    rw [g6]
    cases v with
    | true =>
      have h1 := frc_cut (w * ht) hc (show cb c = false by rw [hv]; rfl)
      rw [h1, bB_t, if_neg (by decide), pk_m1]
    | false =>
      have h1 := frc_un hc (show cb c = true by rw [hv]; rfl)
      rw [h1, bB_f, if_pos rfl, nI_1]
  have hcut : ∀ j, j < w * ht → upd cut c (vp_nar .boolean (bB v)) j = bB (cbs cb c v j) := by
    intro j hj
    by_cases e : j = c
    · subst e; rw [upd_s, bB_v]; simp [cbs]
    · rw [upd_n _ _ e, g2 j hj]; simp [cbs, e]
  have key : ∀ f2 : Int32, f2 = nI (frc (cbs cb c v) (w * ht)) → ∀ h1 : aq_H, iBd h1 w ht (upd cut c (vp_nar .boolean (bB v))) bes lead pas f2 → sm 1 5 h h1 → ∃ r' h', aq_R e_X0_findWays 6 0 0 [.ref 1] h1 r' h' ∧ aq_W e_X0_setCut (fun r h' => r = none ∧ ∃ cut' lead' pas' fr', iBd h' w ht cut' bes lead' pas' fr' ∧ sm 1 5 h h' ∧ gBd w ht wx wy (cbs cb c v) cut' bes lead' pas' fr') 29 [some (.ref 1), some (.int (nI c)), some (.int (bB v))] (r'.toList ++ []) h' 0 0 := by
    intro f2 hf h1 B1 S1
    refine (t_findWays (cb := cbs cb c v) B1 g1 hcut g3).use ?_
    rintro _ h2 ⟨rfl, lead', pas', B2, S2, I2⟩
    simp only [s_X0_setCut_0, s_X0_setCut_1, s_X0_setCut_4, s_X0_setCut_5, s_X0_setCut_6, s_X0_setCut_7, s_X0_setCut_8, s_X0_setCut_9, s_X0_setCut_12, s_X0_setCut_13, s_X0_setCut_16, s_X0_setCut_17, s_X0_setCut_20, s_X0_setCut_21, s_X0_setCut_22, s_X0_setCut_25, s_X0_setCut_26, s_X0_setCut_29, aq_gI, aq_gL, aq_gA, aq_isA, aq_s1, aq_s2, aq_kill, aq_ob, aq_sm, aq_arI, aq_arB, aq_isB, aq_arL, aq_arA, aq_arN, aq_sh, Value.category, List.getElem?_cons_zero, List.getElem?_cons_succ, List.length_cons, List.length_nil, Option.toList_some, Option.toList_none, List.cons_append, List.nil_append, true_and, and_true, List.set_cons_zero, List.set_cons_succ, aq_n1, aq_n2, aq_n3, aq_n4, aq_f1, aq_f2, aq_f3, aq_f4, aq_gs, aq_ty1, aq_ty2, aq_ty3, aq_ty4, aq_ty5, Nat.reduceAdd, Nat.reduceLT, Nat.reduceEqDiff, Nat.reduceSub, if_true, if_false, ne_eq, not_false_eq_true, not_true_eq_false, Option.map_some, Option.map_none, Nat.zero_add, reduceCtorEq, Nat.reduceLeDiff, one_ne_zero_a, zero_ne_one_a]
    exact ⟨_, lead', pas', f2, B2, S1.tr (S2.mo (by decide) (by decide)), g1, hcut, g3, fun c d hc hd => (I2 c d hc hd (by omega)).1, fun c d hc hd => (I2 c d hc hd (by omega)).2, hf⟩
  obtain ⟨b1, b2, b3, b4, b5⟩ := B
  refine ⟨Nat.le_of_ble_eq_true rfl, ?_⟩
  show aq_W _ _ 0 [some (.ref 1), some (.int (nI c)), some (.int (bB v))] [] _ _ _
  simp only [s_X0_setCut_0, s_X0_setCut_1, s_X0_setCut_4, s_X0_setCut_5, s_X0_setCut_6, s_X0_setCut_7, s_X0_setCut_8, s_X0_setCut_9, s_X0_setCut_12, s_X0_setCut_13, s_X0_setCut_16, s_X0_setCut_17, s_X0_setCut_20, s_X0_setCut_21, s_X0_setCut_22, s_X0_setCut_25, s_X0_setCut_26, s_X0_setCut_29, aq_gI, aq_gL, aq_gA, aq_isA, aq_s1, aq_s2, aq_kill, aq_ob, aq_sm, aq_arI, aq_arB, aq_isB, aq_arL, aq_arA, aq_arN, aq_sh, Value.category, List.getElem?_cons_zero, List.getElem?_cons_succ, List.length_cons, List.length_nil, Option.toList_some, Option.toList_none, List.cons_append, List.nil_append, true_and, and_true, List.set_cons_zero, List.set_cons_succ, aq_n1, aq_n2, aq_n3, aq_n4, aq_f1, aq_f2, aq_f3, aq_f4, aq_gs, aq_ty1, aq_ty2, aq_ty3, aq_ty4, aq_ty5, Nat.reduceAdd, Nat.reduceLT, Nat.reduceEqDiff, Nat.reduceSub, if_true, if_false, ne_eq, not_false_eq_true, not_true_eq_false, Option.map_some, Option.map_none, Nat.zero_add, reduceCtorEq, Nat.reduceLeDiff, one_ne_zero_a, zero_ne_one_a, b1, b2, nI_clamp (show c < 2 ^ 31 by omega)]
  refine ⟨vp_in_nI hc (by omega), ?_⟩
  cases v with
  | true =>
    simp only [bB_t, aq_gI, aq_gL, aq_gA, aq_isA, aq_s1, aq_s2, aq_kill, aq_ob, aq_sm, aq_arI, aq_arB, aq_isB, aq_arL, aq_arA, aq_arN, aq_sh, Value.category, List.getElem?_cons_zero, List.getElem?_cons_succ, List.length_cons, List.length_nil, Option.toList_some, Option.toList_none, List.cons_append, List.nil_append, true_and, and_true, List.set_cons_zero, List.set_cons_succ, aq_n1, aq_n2, aq_n3, aq_n4, aq_f1, aq_f2, aq_f3, aq_f4, aq_gs, aq_ty1, aq_ty2, aq_ty3, aq_ty4, aq_ty5, Nat.reduceAdd, Nat.reduceLT, Nat.reduceEqDiff, Nat.reduceSub, if_true, if_false, ne_eq, not_false_eq_true, not_true_eq_false, Option.map_some, Option.map_none, Nat.zero_add, reduceCtorEq, Nat.reduceLeDiff, one_ne_zero_a, zero_ne_one_a, b1]
    refine key (fr + -1) hfr _ ?_ ?_
    · refine ⟨?_, ?_, ?_, ?_, ?_⟩ <;> simp only [aq_gs, b1, b2, b3, b4, b5, aq_gI, aq_gL, aq_gA, aq_isA, aq_s1, aq_s2, aq_kill, aq_ob, aq_sm, aq_arI, aq_arB, aq_isB, aq_arL, aq_arA, aq_arN, aq_sh, Value.category, List.getElem?_cons_zero, List.getElem?_cons_succ, List.length_cons, List.length_nil, Option.toList_some, Option.toList_none, List.cons_append, List.nil_append, true_and, and_true, List.set_cons_zero, List.set_cons_succ, aq_n1, aq_n2, aq_n3, aq_n4, aq_f1, aq_f2, aq_f3, aq_f4, aq_gs, aq_ty1, aq_ty2, aq_ty3, aq_ty4, aq_ty5, Nat.reduceAdd, Nat.reduceLT, Nat.reduceEqDiff, Nat.reduceSub, if_true, if_false, ne_eq, not_false_eq_true, not_true_eq_false, Option.map_some, Option.map_none, Nat.zero_add, reduceCtorEq, Nat.reduceLeDiff, one_ne_zero_a, zero_ne_one_a, bB_t]
    · exact ((sm.rf _ _ _).st (by decide) (by decide)).st (by decide) (by decide)
  | false =>
    simp only [bB_f, aq_gI, aq_gL, aq_gA, aq_isA, aq_s1, aq_s2, aq_kill, aq_ob, aq_sm, aq_arI, aq_arB, aq_isB, aq_arL, aq_arA, aq_arN, aq_sh, Value.category, List.getElem?_cons_zero, List.getElem?_cons_succ, List.length_cons, List.length_nil, Option.toList_some, Option.toList_none, List.cons_append, List.nil_append, true_and, and_true, List.set_cons_zero, List.set_cons_succ, aq_n1, aq_n2, aq_n3, aq_n4, aq_f1, aq_f2, aq_f3, aq_f4, aq_gs, aq_ty1, aq_ty2, aq_ty3, aq_ty4, aq_ty5, Nat.reduceAdd, Nat.reduceLT, Nat.reduceEqDiff, Nat.reduceSub, if_true, if_false, ne_eq, not_false_eq_true, not_true_eq_false, Option.map_some, Option.map_none, Nat.zero_add, reduceCtorEq, Nat.reduceLeDiff, one_ne_zero_a, zero_ne_one_a, b1]
    refine key (fr + 1) hfr _ ?_ ?_
    · refine ⟨?_, ?_, ?_, ?_, ?_⟩ <;> simp only [aq_gs, b1, b2, b3, b4, b5, aq_gI, aq_gL, aq_gA, aq_isA, aq_s1, aq_s2, aq_kill, aq_ob, aq_sm, aq_arI, aq_arB, aq_isB, aq_arL, aq_arA, aq_arN, aq_sh, Value.category, List.getElem?_cons_zero, List.getElem?_cons_succ, List.length_cons, List.length_nil, Option.toList_some, Option.toList_none, List.cons_append, List.nil_append, true_and, and_true, List.set_cons_zero, List.set_cons_succ, aq_n1, aq_n2, aq_n3, aq_n4, aq_f1, aq_f2, aq_f3, aq_f4, aq_gs, aq_ty1, aq_ty2, aq_ty3, aq_ty4, aq_ty5, Nat.reduceAdd, Nat.reduceLT, Nat.reduceEqDiff, Nat.reduceSub, if_true, if_false, ne_eq, not_false_eq_true, not_true_eq_false, Option.map_some, Option.map_none, Nat.zero_add, reduceCtorEq, Nat.reduceLeDiff, one_ne_zero_a, zero_ne_one_a, bB_f]
    · exact ((sm.rf _ _ _).st (by decide) (by decide)).st (by decide) (by decide)
end BD3
