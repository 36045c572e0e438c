-- dep 62.base2 63.ops 65.num2 80.cyc 81.lay 82.pop
/-! Stacks: joinTree, settle -/
/-- the cells in the tree -/
def gTr (w ht : Nat) (wx wy : Bool) (cb : Nat → Bool) (seed : Int32) (root : Nat) (p mkf : Nat → Nat) : Prop :=
  mkf root = 2 ∧ (∀ c, c < w * ht → mkf c = 2 → c = root ∨ (SS w ht cb root c ∧ mkf (Fn w ht wx wy cb seed c (p c)) = 2)) ∧ (∀ c, c < w * ht → mkf c = 2 → Tr (SS w ht cb root) (Fn w ht wx wy cb seed) root p c)
def gPp (w ht : Nat) (wx wy : Bool) (cb : Nat → Bool) (seed : Int32) (root : Nat) (p : Nat → Nat) (k : Nat) : Prop :=
  Pops (SS w ht cb root) (Fn w ht wx wy cb seed) k (fun _ => 0) p ∧ ∀ c, p c ≤ 5000
/-- a stack had to be popped too often -/
def gOv (w ht : Nat) (wx wy : Bool) (cb : Nat → Bool) (seed : Int32) (root : Nat) : Prop := ∃ j p, Pops (SS w ht cb root) (Fn w ht wx wy cb seed) j (fun _ => 0) p ∧ ∃ c, 5000 < p c
section JOI
variable {h : aq_H} {w ht n root : Nat} {wx wy : Bool} {cb : Nat → Bool} {seed : Int32} {cut bes lead pas : Nat → Int32} {fr ci : Int32} {ways wc xs tops pops marks : Nat → Int32} {p mkf b a : Nat → Nat} {L k : Nat}
theorem inj_le {a : Nat → Nat} {k n : Nat} (hl : ∀ t, t < k → a t < n) (hi : ∀ i j, i < j → j < k → a i ≠ a j) : k ≤ n := by
  rcases Nat.lt_or_ge n k with q | q
  · obtain ⟨i, j, h1, h2, h3⟩ := pigeon n a (fun i hi => hl i (by omega))
    exact absurd h3 (hi i j h1 (by omega))
  · exact q
theorem t_joinTree (T : iSt h (w * ht) ways wc xs tops pops marks (nI k)) (B : iBd h w ht cut bes lead pas fr) (G : gBd w ht wx wy cb cut bes lead pas fr) (hr : root < w * ht) (hcn : ∀ c, SS w ht cb root c → 0 < (wyl w ht wx wy cb c).length) (g : gSk w ht wx wy cb seed root p mkf ways wc xs tops pops marks) (t1 : gTr w ht wx wy cb seed root p mkf) (t2 : gPp w ht wx wy cb seed root p k) (t3 : ∀ c, c < w * ht → mkf c = 0 ∨ mkf c = 2) {c : Nat} (hc : c < w * ht) (hcb : cb c = false) :
    aq_T e_X6_joinTree 4 0 0 [.ref 6, .int (nI c)] h (fun r h' => sm 6 12 h h' ∧ ∃ ways wc xs tops pops marks ci, iSt h' (w * ht) ways wc xs tops pops marks ci ∧ ((r = some (.int 1) ∧ ∃ p' mkf' k', ci = nI k' ∧ gSk w ht wx wy cb seed root p' mkf' ways wc xs tops pops marks ∧ gTr w ht wx wy cb seed root p' mkf' ∧ gPp w ht wx wy cb seed root p' k' ∧ (∀ c, c < w * ht → mkf' c = 0 ∨ mkf' c = 2) ∧ mkf' c = 2 ∧ ∀ c, c < w * ht → mkf c = 2 → mkf' c = 2) ∨ (r = some (.int 0) ∧ gOv w ht wx wy cb seed root))) := by
  have hn := wh_lt G.1
  refine ⟨Nat.le_of_ble_eq_true rfl, ?_⟩
  show aq_W _ _ 0 [some (.ref 6), some (.int (nI c)), none, none] [] _ _ _
  have one : ∀ (f s : Nat), s + f = 1000000 → ∀ (ways wc xs tops pops marks : Nat → Int32) (h2 : aq_H) (p' mkf' a : Nat → Nat) (k' m : Nat), iSt h2 (w * ht) ways wc xs tops pops marks (nI k') → sm 6 12 h h2 → gSk w ht wx wy cb seed root p' mkf' ways wc xs tops pops marks → gTr w ht wx wy cb seed root p' mkf' → gPp w ht wx wy cb seed root p' k' → (∀ c, c < w * ht → mkf' c = 0 ∨ mkf' c = 1 ∨ mkf' c = 2) → (∀ c, c < w * ht → mkf c = 2 → mkf' c = 2) → a 0 = c → (∀ t, t < m → SS w ht cb root (a t)) → (∀ t, t < m → mkf' (a t) = 1) → (∀ i j, i < j → j < m → a i ≠ a j) → (∀ t, t < m → Fn w ht wx wy cb seed (a t) (p' (a t)) = a (t + 1)) → (a m < w * ht ∧ cb (a m) = false) → ¬ mkf' (a m) = 1 → (∀ c, c < w * ht → mkf' c = 1 → ∃ t, t < m ∧ c = a t) → s + sumf p (w * ht) = m + sumf p' (w * ht) → aq_W e_X6_joinTree (fun r h' => sm 6 12 h h' ∧ ∃ ways wc xs tops pops marks ci, iSt h' (w * ht) ways wc xs tops pops marks ci ∧ ((r = some (.int 1) ∧ ∃ p' mkf' k', ci = nI k' ∧ gSk w ht wx wy cb seed root p' mkf' ways wc xs tops pops marks ∧ gTr w ht wx wy cb seed root p' mkf' ∧ gPp w ht wx wy cb seed root p' k' ∧ (∀ c, c < w * ht → mkf' c = 0 ∨ mkf' c = 2) ∧ mkf' c = 2 ∧ ∀ c, c < w * ht → mkf c = 2 → mkf' c = 2) ∨ (r = some (.int 0) ∧ gOv w ht wx wy cb seed root))) 4 [some (.ref 6), some (.int (nI c)), some (.int (nI (a m))), some (.int (nI s))] [] h2 0 0 := by
    intro f
    induction f with
    | zero =>
      intro s hs ways wc xs tops pops marks h2 p' mkf' a k' m T2 S2 g2 q1 q2 q3 q4 a0 aS a1 ai ax ae an ac hsum
      have hm := inj_le (fun t ht => (aS t ht).1) ai
      have := sumf_le (w * ht) (fun c _ => q2.2 c)
      omega
    | succ f ih =>
      intro s hs ways wc xs tops pops marks h2 p' mkf' a k' m T2 S2 g2 q1 q2 q3 q4 a0 aS a1 ai ax ae an ac hsum
      have hm := inj_le (fun t ht => (aS t ht).1) ai
      have B2 : iBd h2 w ht cut bes lead pas fr := B.sm S2 (by omega)
      have T0 := T2
      obtain ⟨m1, m2, m3, m4, m5, m6, m7⟩ := T2
      have hlt : a m < 2 ^ 31 := by have := ae.1; omega
      have hin := vp_in_nI ae.1 (show w * ht < 2 ^ 31 by omega)
      have hcl := nI_clamp hlt
      have hM : (1000000 : Int32) = nI 1000000 := by decide
      have hv := g2.2.2.2.2 (a m) ae.1
      rw [s_X6_joinTree_4]
      simp only [s_X6_joinTree_5, s_X6_joinTree_7, s_X6_joinTree_10, s_X6_joinTree_11, s_X6_joinTree_14, s_X6_joinTree_15, s_X6_joinTree_16, aq_gI, aq_gL, aq_gA, aq_isA, aq_s1, aq_s2, aq_kill, aq_ob, aq_sm, aq_arI, aq_arB, aq_isB, aq_arL, aq_arA, aq_arN, aq_sh, Value.category, List.getElem?_cons_zero, List.getElem?_cons_succ, List.length_cons, List.length_nil, Option.toList_some, Option.toList_none, List.cons_append, List.nil_append, true_and, and_true, List.set_cons_zero, List.set_cons_succ, aq_n1, aq_n2, aq_n3, aq_n4, aq_f1, aq_f2, aq_f3, aq_f4, aq_gs, aq_ty1, aq_ty2, aq_ty3, aq_ty4, aq_ty5, Nat.reduceAdd, Nat.reduceLT, Nat.reduceEqDiff, Nat.reduceSub, if_true, if_false, ne_eq, not_false_eq_true, not_true_eq_false, Option.map_some, Option.map_none, Nat.zero_add, reduceCtorEq, Nat.reduceLeDiff, one_ne_zero_a, zero_ne_one_a, aq_nb, aq_nb1, aq_nb0, aq_fb, aq_fb1, aq_fb0, aq_ofN, bB_t, bB_f, bB_v, vpn_b1, vpn_b0, nI_1, Bool.true_eq_false, Bool.false_eq_true, Bool.true_and, Bool.false_and, Bool.and_true, Bool.and_false, hM, nI_ge (show s < 1000000 by omega) (show 1000000 < 2 ^ 31 by decide), m1, m7, hin, hcl, hv]
      by_cases e2 : mkf' (a m) = 2
      · rw [e2]
        simp only [s_X6_joinTree_17, s_X6_joinTree_75, s_X6_joinTree_76, s_X6_joinTree_77, aq_gI, aq_gL, aq_gA, aq_isA, aq_s1, aq_s2, aq_kill, aq_ob, aq_sm, aq_arI, aq_arB, aq_isB, aq_arL, aq_arA, aq_arN, aq_sh, Value.category, List.getElem?_cons_zero, List.getElem?_cons_succ, List.length_cons, List.length_nil, Option.toList_some, Option.toList_none, List.cons_append, List.nil_append, true_and, and_true, List.set_cons_zero, List.set_cons_succ, aq_n1, aq_n2, aq_n3, aq_n4, aq_f1, aq_f2, aq_f3, aq_f4, aq_gs, aq_ty1, aq_ty2, aq_ty3, aq_ty4, aq_ty5, Nat.reduceAdd, Nat.reduceLT, Nat.reduceEqDiff, Nat.reduceSub, if_true, if_false, ne_eq, not_false_eq_true, not_true_eq_false, Option.map_some, Option.map_none, Nat.zero_add, reduceCtorEq, Nat.reduceLeDiff, one_ne_zero_a, zero_ne_one_a, aq_nb, aq_nb1, aq_nb0, aq_fb, aq_fb1, aq_fb0, aq_ofN, bB_t, bB_f, bB_v, vpn_b1, vpn_b0, nI_1, Bool.true_eq_false, Bool.false_eq_true, Bool.true_and, Bool.false_and, Bool.and_true, Bool.and_false, show nI 2 = 2 from rfl, m1]
        rw [← a0]
        refine (t_markTrail T0 B2 G hcn g2 hm aS a1 ai ax ae.1 e2).use ?_
        rintro _ h3 ⟨rfl, S3, marks3, T3, g3⟩
        have r2 : mzr mkf' a 2 m (a m) = 2 := by
          by_cases q : ∃ t, t < m ∧ a m = a t
          · obtain ⟨t, ht, q⟩ := q
            rw [q]; exact mzr_in m t ht
          · rw [mzr_out m (a m) (fun t ht z => q ⟨t, ht, z⟩)]; exact e2
        have hv3 : marks3 (a m) = 2 := by rw [g3.2.2.2.2 (a m) ae.1, r2]; rfl
        simp only [s_X6_joinTree_80, s_X6_joinTree_81, s_X6_joinTree_84, s_X6_joinTree_85, s_X6_joinTree_86, s_X6_joinTree_87, s_X6_joinTree_90, s_X6_joinTree_91, s_X6_joinTree_95, aq_gI, aq_gL, aq_gA, aq_isA, aq_s1, aq_s2, aq_kill, aq_ob, aq_sm, aq_arI, aq_arB, aq_isB, aq_arL, aq_arA, aq_arN, aq_sh, Value.category, List.getElem?_cons_zero, List.getElem?_cons_succ, List.length_cons, List.length_nil, Option.toList_some, Option.toList_none, List.cons_append, List.nil_append, true_and, and_true, List.set_cons_zero, List.set_cons_succ, aq_n1, aq_n2, aq_n3, aq_n4, aq_f1, aq_f2, aq_f3, aq_f4, aq_gs, aq_ty1, aq_ty2, aq_ty3, aq_ty4, aq_ty5, Nat.reduceAdd, Nat.reduceLT, Nat.reduceEqDiff, Nat.reduceSub, if_true, if_false, ne_eq, not_false_eq_true, not_true_eq_false, Option.map_some, Option.map_none, Nat.zero_add, reduceCtorEq, Nat.reduceLeDiff, one_ne_zero_a, zero_ne_one_a, aq_nb, aq_nb1, aq_nb0, aq_fb, aq_fb1, aq_fb0, aq_ofN, bB_t, bB_f, bB_v, vpn_b1, vpn_b0, nI_1, Bool.true_eq_false, Bool.false_eq_true, Bool.true_and, Bool.false_and, Bool.and_true, Bool.and_false, T3.1, T3.2.2.2.2.2.2, hin, hcl, hv3]
        have keep : ∀ c, mkf' c = 2 → mzr mkf' a 2 m c = 2 := by
          intro c hc
          by_cases q : ∃ t, t < m ∧ c = a t
          · obtain ⟨t, ht, q⟩ := q
            rw [q]; exact mzr_in m t ht
          · rw [mzr_out m c (fun t ht z => q ⟨t, ht, z⟩)]; exact hc
        have trk : ∀ j t, t + j = m → Tr (SS w ht cb root) (Fn w ht wx wy cb seed) root p' (a t) := by
          intro j
          induction j with
          | zero =>
            intro t ht
            have : t = m := by omega
            rw [this]
            exact q1.2.2 (a m) ae.1 e2
          | succ j ih =>
            intro t ht
            refine Tr.go (aS t (by omega)) ?_
            rw [ax t (by omega)]
            exact ih (t + 1) (by omega)
        refine ⟨S2.tr S3, _, _, _, _, _, _, _, T3, Or.inl ⟨p', mzr mkf' a 2 m, k', rfl, g3, ⟨keep _ q1.1, fun c' hc' h2 => ?_, fun c' hc' h2 => ?_⟩, q2, fun c' hc' => ?_, ?_, fun c' hc' h2 => keep _ (q4 c' hc' h2)⟩⟩
        · by_cases q : ∃ t, t < m ∧ c' = a t
          · obtain ⟨t, ht, rfl⟩ := q
            right
            refine ⟨aS t ht, ?_⟩
            rw [ax t ht]
            by_cases z : t + 1 = m
            · rw [z]; exact r2
            · exact mzr_in m (t + 1) (by omega)
          · rw [mzr_out m c' (fun t ht z => q ⟨t, ht, z⟩)] at h2
            rcases q1.2.1 c' hc' h2 with z | ⟨z1, z2⟩
            · exact Or.inl z
            · exact Or.inr ⟨z1, keep _ z2⟩
        · by_cases q : ∃ t, t < m ∧ c' = a t
          · obtain ⟨t, ht, rfl⟩ := q
            exact trk (m - t) t (by omega)
          · rw [mzr_out m c' (fun t ht z => q ⟨t, ht, z⟩)] at h2
            exact q1.2.2 c' hc' h2
        · by_cases q : ∃ t, t < m ∧ c' = a t
          · obtain ⟨t, ht, rfl⟩ := q
            exact Or.inr (mzr_in m t ht)
          · rw [mzr_out m c' (fun t ht z => q ⟨t, ht, z⟩)]
            rcases q3 c' hc' with z | z | z
            · exact Or.inl z
            · exact absurd (ac c' hc' z) q
            · exact Or.inr z
        · have key : mzr mkf' a 2 m (a 0) = 2 := by
            by_cases z : m = 0
            · rw [z] at r2 ⊢; exact r2
            · exact mzr_in m 0 (by omega)
          first
            | exact key
            | (rw [← a0]; exact key)
      · have e0 : mkf' (a m) = 0 := by
          rcases q3 (a m) ae.1 with z | z | z
          · exact z
          · exact absurd z an
          · exact absurd z e2
        have hsm : SS w ht cb root (a m) := ⟨ae.1, ae.2, fun z => by rw [z] at e2; exact e2 q1.1⟩
        rw [e0]
        have n02 : ¬ (0 : Int32) = 2 := by decide
        simp only [s_X6_joinTree_17, s_X6_joinTree_20, s_X6_joinTree_21, s_X6_joinTree_24, s_X6_joinTree_25, s_X6_joinTree_26, s_X6_joinTree_27, s_X6_joinTree_28, s_X6_joinTree_31, s_X6_joinTree_32, s_X6_joinTree_33, s_X6_joinTree_36, s_X6_joinTree_37, s_X6_joinTree_38, aq_gI, aq_gL, aq_gA, aq_isA, aq_s1, aq_s2, aq_kill, aq_ob, aq_sm, aq_arI, aq_arB, aq_isB, aq_arL, aq_arA, aq_arN, aq_sh, Value.category, List.getElem?_cons_zero, List.getElem?_cons_succ, List.length_cons, List.length_nil, Option.toList_some, Option.toList_none, List.cons_append, List.nil_append, true_and, and_true, List.set_cons_zero, List.set_cons_succ, aq_n1, aq_n2, aq_n3, aq_n4, aq_f1, aq_f2, aq_f3, aq_f4, aq_gs, aq_ty1, aq_ty2, aq_ty3, aq_ty4, aq_ty5, Nat.reduceAdd, Nat.reduceLT, Nat.reduceEqDiff, Nat.reduceSub, if_true, if_false, ne_eq, not_false_eq_true, not_true_eq_false, Option.map_some, Option.map_none, Nat.zero_add, reduceCtorEq, Nat.reduceLeDiff, one_ne_zero_a, zero_ne_one_a, aq_nb, aq_nb1, aq_nb0, aq_fb, aq_fb1, aq_fb0, aq_ofN, bB_t, bB_f, bB_v, vpn_b1, vpn_b0, nI_1, Bool.true_eq_false, Bool.false_eq_true, Bool.true_and, Bool.false_and, Bool.and_true, Bool.and_false, show nI 0 = 0 from rfl, n02, m1, m5, m7, hin, hcl, B2.1]
        have T3 : iSt (h2.set 12 (.inl (.int, w * ht, .inl (upd marks (a m) 1)))) (w * ht) ways wc xs tops pops (upd marks (a m) 1) (nI k') := by
          refine ⟨?_, ?_, ?_, ?_, ?_, ?_, ?_⟩
          · simp only [aq_gI, aq_gL, aq_gA, aq_isA, aq_s1, aq_s2, aq_kill, aq_ob, aq_sm, aq_arI, aq_arB, aq_isB, aq_arL, aq_arA, aq_arN, aq_sh, Value.category, List.getElem?_cons_zero, List.getElem?_cons_succ, List.length_cons, List.length_nil, Option.toList_some, Option.toList_none, List.cons_append, List.nil_append, true_and, and_true, List.set_cons_zero, List.set_cons_succ, aq_n1, aq_n2, aq_n3, aq_n4, aq_f1, aq_f2, aq_f3, aq_f4, aq_gs, aq_ty1, aq_ty2, aq_ty3, aq_ty4, aq_ty5, Nat.reduceAdd, Nat.reduceLT, Nat.reduceEqDiff, Nat.reduceSub, if_true, if_false, ne_eq, not_false_eq_true, not_true_eq_false, Option.map_some, Option.map_none, Nat.zero_add, reduceCtorEq, Nat.reduceLeDiff, one_ne_zero_a, zero_ne_one_a, m1]
          · simp only [aq_gI, aq_gL, aq_gA, aq_isA, aq_s1, aq_s2, aq_kill, aq_ob, aq_sm, aq_arI, aq_arB, aq_isB, aq_arL, aq_arA, aq_arN, aq_sh, Value.category, List.getElem?_cons_zero, List.getElem?_cons_succ, List.length_cons, List.length_nil, Option.toList_some, Option.toList_none, List.cons_append, List.nil_append, true_and, and_true, List.set_cons_zero, List.set_cons_succ, aq_n1, aq_n2, aq_n3, aq_n4, aq_f1, aq_f2, aq_f3, aq_f4, aq_gs, aq_ty1, aq_ty2, aq_ty3, aq_ty4, aq_ty5, Nat.reduceAdd, Nat.reduceLT, Nat.reduceEqDiff, Nat.reduceSub, if_true, if_false, ne_eq, not_false_eq_true, not_true_eq_false, Option.map_some, Option.map_none, Nat.zero_add, reduceCtorEq, Nat.reduceLeDiff, one_ne_zero_a, zero_ne_one_a, m2]
          · simp only [aq_gI, aq_gL, aq_gA, aq_isA, aq_s1, aq_s2, aq_kill, aq_ob, aq_sm, aq_arI, aq_arB, aq_isB, aq_arL, aq_arA, aq_arN, aq_sh, Value.category, List.getElem?_cons_zero, List.getElem?_cons_succ, List.length_cons, List.length_nil, Option.toList_some, Option.toList_none, List.cons_append, List.nil_append, true_and, and_true, List.set_cons_zero, List.set_cons_succ, aq_n1, aq_n2, aq_n3, aq_n4, aq_f1, aq_f2, aq_f3, aq_f4, aq_gs, aq_ty1, aq_ty2, aq_ty3, aq_ty4, aq_ty5, Nat.reduceAdd, Nat.reduceLT, Nat.reduceEqDiff, Nat.reduceSub, if_true, if_false, ne_eq, not_false_eq_true, not_true_eq_false, Option.map_some, Option.map_none, Nat.zero_add, reduceCtorEq, Nat.reduceLeDiff, one_ne_zero_a, zero_ne_one_a, m3]
          · simp only [aq_gI, aq_gL, aq_gA, aq_isA, aq_s1, aq_s2, aq_kill, aq_ob, aq_sm, aq_arI, aq_arB, aq_isB, aq_arL, aq_arA, aq_arN, aq_sh, Value.category, List.getElem?_cons_zero, List.getElem?_cons_succ, List.length_cons, List.length_nil, Option.toList_some, Option.toList_none, List.cons_append, List.nil_append, true_and, and_true, List.set_cons_zero, List.set_cons_succ, aq_n1, aq_n2, aq_n3, aq_n4, aq_f1, aq_f2, aq_f3, aq_f4, aq_gs, aq_ty1, aq_ty2, aq_ty3, aq_ty4, aq_ty5, Nat.reduceAdd, Nat.reduceLT, Nat.reduceEqDiff, Nat.reduceSub, if_true, if_false, ne_eq, not_false_eq_true, not_true_eq_false, Option.map_some, Option.map_none, Nat.zero_add, reduceCtorEq, Nat.reduceLeDiff, one_ne_zero_a, zero_ne_one_a, m4]
          · simp only [aq_gI, aq_gL, aq_gA, aq_isA, aq_s1, aq_s2, aq_kill, aq_ob, aq_sm, aq_arI, aq_arB, aq_isB, aq_arL, aq_arA, aq_arN, aq_sh, Value.category, List.getElem?_cons_zero, List.getElem?_cons_succ, List.length_cons, List.length_nil, Option.toList_some, Option.toList_none, List.cons_append, List.nil_append, true_and, and_true, List.set_cons_zero, List.set_cons_succ, aq_n1, aq_n2, aq_n3, aq_n4, aq_f1, aq_f2, aq_f3, aq_f4, aq_gs, aq_ty1, aq_ty2, aq_ty3, aq_ty4, aq_ty5, Nat.reduceAdd, Nat.reduceLT, Nat.reduceEqDiff, Nat.reduceSub, if_true, if_false, ne_eq, not_false_eq_true, not_true_eq_false, Option.map_some, Option.map_none, Nat.zero_add, reduceCtorEq, Nat.reduceLeDiff, one_ne_zero_a, zero_ne_one_a, m5]
          · simp only [aq_gI, aq_gL, aq_gA, aq_isA, aq_s1, aq_s2, aq_kill, aq_ob, aq_sm, aq_arI, aq_arB, aq_isB, aq_arL, aq_arA, aq_arN, aq_sh, Value.category, List.getElem?_cons_zero, List.getElem?_cons_succ, List.length_cons, List.length_nil, Option.toList_some, Option.toList_none, List.cons_append, List.nil_append, true_and, and_true, List.set_cons_zero, List.set_cons_succ, aq_n1, aq_n2, aq_n3, aq_n4, aq_f1, aq_f2, aq_f3, aq_f4, aq_gs, aq_ty1, aq_ty2, aq_ty3, aq_ty4, aq_ty5, Nat.reduceAdd, Nat.reduceLT, Nat.reduceEqDiff, Nat.reduceSub, if_true, if_false, ne_eq, not_false_eq_true, not_true_eq_false, Option.map_some, Option.map_none, Nat.zero_add, reduceCtorEq, Nat.reduceLeDiff, one_ne_zero_a, zero_ne_one_a, m6]
          · simp only [aq_gI, aq_gL, aq_gA, aq_isA, aq_s1, aq_s2, aq_kill, aq_ob, aq_sm, aq_arI, aq_arB, aq_isB, aq_arL, aq_arA, aq_arN, aq_sh, Value.category, List.getElem?_cons_zero, List.getElem?_cons_succ, List.length_cons, List.length_nil, Option.toList_some, Option.toList_none, List.cons_append, List.nil_append, true_and, and_true, List.set_cons_zero, List.set_cons_succ, aq_n1, aq_n2, aq_n3, aq_n4, aq_f1, aq_f2, aq_f3, aq_f4, aq_gs, aq_ty1, aq_ty2, aq_ty3, aq_ty4, aq_ty5, Nat.reduceAdd, Nat.reduceLT, Nat.reduceEqDiff, Nat.reduceSub, if_true, if_false, ne_eq, not_false_eq_true, not_true_eq_false, Option.map_some, Option.map_none, Nat.zero_add, reduceCtorEq, Nat.reduceLeDiff, one_ne_zero_a, zero_ne_one_a, m7]
        have S3 : sm 6 12 h2 (h2.set 12 (.inl (.int, w * ht, .inl (upd marks (a m) 1)))) := (sm.rf _ _ _).st (by decide) (by decide)
        have B3 := B2.sm S3 (by omega)
        refine (t_ahead B3 G (nI (a m)) (tops (a m))).use ?_
        rintro _ h3 ⟨rfl, rfl⟩
        obtain ⟨y1, y2, y3⟩ := ah_ok G hcn g2 hsm
        rw [y1]
        have S3' := S2.tr S3
        have g3 := gSk_mark g2 (a m) 1
        generalize h2.set 12 (.inl (.int, w * ht, .inl (upd marks (a m) 1))) = h3 at T3 S3' B3 ⊢
        generalize hd : Fn w ht wx wy cb seed (a m) (p' (a m)) = d at *
        -- the trail with one more cell
        have hA : ∀ t, t ≤ m → fs a (m + 1) d t = a t := fun t ht => fs_n _ _ (by omega)
        have hAe : fs a (m + 1) d (m + 1) = d := fs_s _ _ _
        have bS : ∀ t, t < m + 1 → SS w ht cb root (fs a (m + 1) d t) := by
          intro t ht
          rw [hA t (by omega)]
          by_cases z : t = m
          · rw [z]; exact hsm
          · exact aS t (by omega)
        have b1 : ∀ t, t < m + 1 → fs mkf' (a m) 1 (fs a (m + 1) d t) = 1 := by
          intro t ht
          rw [hA t (by omega)]
          by_cases z : a t = a m
          · rw [z, fs_s]
          · rw [fs_n _ _ z]
            exact a1 t (by have : t ≠ m := fun y => z (by rw [y]); omega)
        have bi : ∀ i j, i < j → j < m + 1 → fs a (m + 1) d i ≠ fs a (m + 1) d j := by
          intro i j h1 h2
          rw [hA i (by omega), hA j (by omega)]
          by_cases z : j = m
          · rw [z]
            intro y
            have := a1 i (by omega)
            rw [y, e0] at this
            omega
          · exact ai i j h1 (by omega)
        have bx : ∀ t, t < m + 1 → Fn w ht wx wy cb seed (fs a (m + 1) d t) (p' (fs a (m + 1) d t)) = fs a (m + 1) d (t + 1) := by
          intro t ht
          rw [hA t (by omega)]
          by_cases z : t = m
          · rw [z, hAe]; exact hd
          · rw [hA (t + 1) (by omega)]; exact ax t (by omega)
        have bc : ∀ c, c < w * ht → fs mkf' (a m) 1 c = 1 → ∃ t, t < m + 1 ∧ c = fs a (m + 1) d t := by
          intro c' hc' h1
          by_cases z : c' = a m
          · exact ⟨m, by omega, by rw [hA m (Nat.le_refl _)]; exact z⟩
          · rw [fs_n _ _ z] at h1
            obtain ⟨t, t1, t2⟩ := ac c' hc' h1
            exact ⟨t, by omega, by rw [hA t (by omega)]; exact t2⟩
        have b3 : ∀ c, c < w * ht → fs mkf' (a m) 1 c = 0 ∨ fs mkf' (a m) 1 c = 1 ∨ fs mkf' (a m) 1 c = 2 := by
          intro c' hc'
          by_cases z : c' = a m
          · rw [z, fs_s]; exact Or.inr (Or.inl rfl)
          · rw [fs_n _ _ z]; exact q3 c' hc'
        have b2 : ∀ c, mkf' c = 2 → fs mkf' (a m) 1 c = 2 := by
          intro c' h2
          have z : c' ≠ a m := fun z => by rw [z] at h2; exact e2 h2
          rw [fs_n _ _ z]; exact h2
        have b2' : ∀ c, fs mkf' (a m) 1 c = 2 → mkf' c = 2 := by
          intro c' h2
          by_cases z : c' = a m
          · rw [z, fs_s] at h2; cases h2
          · rw [fs_n _ _ z] at h2; exact h2
        have bt : gTr w ht wx wy cb seed root p' (fs mkf' (a m) 1) := by
          refine ⟨b2 _ q1.1, fun c' hc' h2 => ?_, fun c' hc' h2 => q1.2.2 c' hc' (b2' _ h2)⟩
          rcases q1.2.1 c' hc' (b2' _ h2) with z | ⟨z1, z2⟩
          · exact Or.inl z
          · exact Or.inr ⟨z1, b2 _ z2⟩
        have hdl : d < 2 ^ 31 := by omega
        have hvd := g3.2.2.2.2 d y2
        simp only [s_X6_joinTree_41, s_X6_joinTree_42, s_X6_joinTree_43, s_X6_joinTree_44, s_X6_joinTree_49, s_X6_joinTree_50, s_X6_joinTree_53, s_X6_joinTree_54, s_X6_joinTree_55, aq_gI, aq_gL, aq_gA, aq_isA, aq_s1, aq_s2, aq_kill, aq_ob, aq_sm, aq_arI, aq_arB, aq_isB, aq_arL, aq_arA, aq_arN, aq_sh, Value.category, List.getElem?_cons_zero, List.getElem?_cons_succ, List.length_cons, List.length_nil, Option.toList_some, Option.toList_none, List.cons_append, List.nil_append, true_and, and_true, List.set_cons_zero, List.set_cons_succ, aq_n1, aq_n2, aq_n3, aq_n4, aq_f1, aq_f2, aq_f3, aq_f4, aq_gs, aq_ty1, aq_ty2, aq_ty3, aq_ty4, aq_ty5, Nat.reduceAdd, Nat.reduceLT, Nat.reduceEqDiff, Nat.reduceSub, if_true, if_false, ne_eq, not_false_eq_true, not_true_eq_false, Option.map_some, Option.map_none, Nat.zero_add, reduceCtorEq, Nat.reduceLeDiff, one_ne_zero_a, zero_ne_one_a, aq_nb, aq_nb1, aq_nb0, aq_fb, aq_fb1, aq_fb0, aq_ofN, bB_t, bB_f, bB_v, vpn_b1, vpn_b0, nI_1, Bool.true_eq_false, Bool.false_eq_true, Bool.true_and, Bool.false_and, Bool.and_true, Bool.and_false, nI_ne_m1 hdl, T3.1, T3.2.2.2.2.2.2, vp_in_nI y2 (show w * ht < 2 ^ 31 by omega), nI_clamp hdl]
        rw [show (1 : Int32) = nI 1 from rfl]
        rw [hvd]
        by_cases ed : fs mkf' (a m) 1 d = 1
        · rw [ed]
          obtain ⟨i, i1, i2⟩ := bc d y2 ed
          simp only [s_X6_joinTree_56, s_X6_joinTree_59, s_X6_joinTree_60, s_X6_joinTree_61, aq_gI, aq_gL, aq_gA, aq_isA, aq_s1, aq_s2, aq_kill, aq_ob, aq_sm, aq_arI, aq_arB, aq_isB, aq_arL, aq_arA, aq_arN, aq_sh, Value.category, List.getElem?_cons_zero, List.getElem?_cons_succ, List.length_cons, List.length_nil, Option.toList_some, Option.toList_none, List.cons_append, List.nil_append, true_and, and_true, List.set_cons_zero, List.set_cons_succ, aq_n1, aq_n2, aq_n3, aq_n4, aq_f1, aq_f2, aq_f3, aq_f4, aq_gs, aq_ty1, aq_ty2, aq_ty3, aq_ty4, aq_ty5, Nat.reduceAdd, Nat.reduceLT, Nat.reduceEqDiff, Nat.reduceSub, if_true, if_false, ne_eq, not_false_eq_true, not_true_eq_false, Option.map_some, Option.map_none, Nat.zero_add, reduceCtorEq, Nat.reduceLeDiff, one_ne_zero_a, zero_ne_one_a, aq_nb, aq_nb1, aq_nb0, aq_fb, aq_fb1, aq_fb0, aq_ofN, bB_t, bB_f, bB_v, vpn_b1, vpn_b0, nI_1, Bool.true_eq_false, Bool.false_eq_true, Bool.true_and, Bool.false_and, Bool.and_true, Bool.and_false, T3.1]
          have hb0 : fs a (m + 1) d (i + 0) = d := i2.symm
          have hm1 := inj_le (fun t hq => (bS t hq).1) bi
          have T3' : iSt h3 (w * ht) ways wc xs tops pops (upd marks (a m) (nI 1)) (nI k') := T3
          have pc := t_popCircle (b := fun t => fs a (m + 1) d (i + t)) (L := m + 1 - i) T3' B3 G hcn g3 (by omega) (by omega) (fun t ht => bS (i + t) (by omega)) (fun x y h1 h2 => bi (i + x) (i + y) (by omega) (by omega)) (fun t ht => by rw [show i + (t + 1) = i + t + 1 by omega]; exact bx (i + t) (by omega)) (by show fs a (m + 1) d (i + (m + 1 - i)) = fs a (m + 1) d (i + 0); rw [show i + (m + 1 - i) = m + 1 by omega, hAe, hb0]) q2.2
          simp only [hb0] at pc
          refine pc.use ?_
          rintro _ h4 ⟨S4, ways4, wc4, xs4, tops4, pops4, marks4, ci4, T4, pp⟩
          have pop := Pop_b (S := SS w ht cb root) (F := Fn w ht wx wy cb seed) (p := p') (b := fun t => fs a (m + 1) d (i + t)) (L := m + 1 - i) (by omega) (fun t ht => bS (i + t) (by omega)) (fun x y h1 h2 => bi (i + x) (i + y) (by omega) (by omega)) (fun t hq => by show Fn w ht wx wy cb seed (fs a (m + 1) d (i + t)) _ = fs a (m + 1) d (i + (t + 1)); rw [show i + (t + 1) = i + t + 1 by omega]; exact bx (i + t) (by omega)) (by show fs a (m + 1) d (i + (m + 1 - i)) = fs a (m + 1) d (i + 0); rw [show i + (m + 1 - i) = m + 1 by omega, hAe, hb0])
          rcases pp with ⟨rfl, rfl, g4, hl4⟩ | ⟨rfl, t, ht, h5⟩
          · simp only [s_X6_joinTree_64, s_X6_joinTree_69, s_X6_joinTree_72, aq_gI, aq_gL, aq_gA, aq_isA, aq_s1, aq_s2, aq_kill, aq_ob, aq_sm, aq_arI, aq_arB, aq_isB, aq_arL, aq_arA, aq_arN, aq_sh, Value.category, List.getElem?_cons_zero, List.getElem?_cons_succ, List.length_cons, List.length_nil, Option.toList_some, Option.toList_none, List.cons_append, List.nil_append, true_and, and_true, List.set_cons_zero, List.set_cons_succ, aq_n1, aq_n2, aq_n3, aq_n4, aq_f1, aq_f2, aq_f3, aq_f4, aq_gs, aq_ty1, aq_ty2, aq_ty3, aq_ty4, aq_ty5, Nat.reduceAdd, Nat.reduceLT, Nat.reduceEqDiff, Nat.reduceSub, if_true, if_false, ne_eq, not_false_eq_true, not_true_eq_false, Option.map_some, Option.map_none, Nat.zero_add, reduceCtorEq, Nat.reduceLeDiff, one_ne_zero_a, zero_ne_one_a, aq_nb, aq_nb1, aq_nb0, aq_fb, aq_fb1, aq_fb0, aq_ofN, bB_t, bB_f, bB_v, vpn_b1, vpn_b0, nI_1, Bool.true_eq_false, Bool.false_eq_true, Bool.true_and, Bool.false_and, Bool.and_true, Bool.and_false]
            have inC : ∀ x, (∃ t, t < m + 1 - i ∧ x = fs a (m + 1) d (i + t)) → ∃ t, i ≤ t ∧ t < m + 1 ∧ x = a t := by
              rintro x ⟨t, t1, rfl⟩
              exact ⟨i + t, by omega, by omega, hA _ (by omega)⟩
            have outA : ∀ t, t < i → ∀ s, s < m + 1 - i → a t ≠ fs a (m + 1) d (i + s) := by
              intro t ht s hs y
              have := bi t (i + s) (by omega) (by omega)
              rw [hA t (by omega)] at this
              exact this y
            have out2 : ∀ c, fs mkf' (a m) 1 c = 2 → ∀ s, s < m + 1 - i → c ≠ fs a (m + 1) d (i + s) := by
              intro c' h2 s hs y
              have := b1 (i + s) (by omega)
              rw [← y, h2] at this
              cases this
            have dk : a i = d := by rw [← hA i (by omega)]; exact i2.symm
            have h4S := bS i i1
            rw [← dk]
            refine ih (s + 1) (by omega) _ _ _ _ _ _ h4 (bmp p' (fun t => fs a (m + 1) d (i + t)) (m + 1 - i)) (mzr (fs mkf' (a m) 1) (fun t => fs a (m + 1) d (i + t)) 0 (m + 1 - i)) a (k' + 1) i T4 (S3'.tr S4) g4 ⟨?_, fun c' hc' h2 => ?_, fun c' hc' h2 => ?_⟩ ⟨Pops_s k' q2.1 pop, fun c' => ?_⟩ (fun c' hc' => ?_) (fun c' hc' h2 => ?_) a0 (fun t ht => aS t (by omega)) (fun t ht => ?_) (fun x y h1 h2 => ai x y h1 (by omega)) (fun t ht => ?_) ⟨by rw [dk]; exact y2, by rw [dk]; exact y3⟩ ?_ (fun c' hc' h1 => ?_) ?_
            · rw [mzr_out _ _ (out2 _ bt.1)]; exact bt.1
            · have h2' : fs mkf' (a m) 1 c' = 2 := by
                by_cases q : ∃ t, t < m + 1 - i ∧ c' = fs a (m + 1) d (i + t)
                · obtain ⟨t, ht, q⟩ := q
                  rw [q, mzr_in (b := fun t => fs a (m + 1) d (i + t)) _ t ht] at h2; cases h2
                · rw [mzr_out _ _ (fun t ht z => q ⟨t, ht, z⟩)] at h2; exact h2
              rw [bmp_out _ _ (out2 c' h2')]
              rcases bt.2.1 c' hc' h2' with z | ⟨z1, z2⟩
              · exact Or.inl z
              · exact Or.inr ⟨z1, by rw [mzr_out _ _ (out2 _ z2)]; exact z2⟩
            · have h2' : fs mkf' (a m) 1 c' = 2 := by
                by_cases q : ∃ t, t < m + 1 - i ∧ c' = fs a (m + 1) d (i + t)
                · obtain ⟨t, ht, q⟩ := q
                  rw [q, mzr_in (b := fun t => fs a (m + 1) d (i + t)) _ t ht] at h2; cases h2
                · rw [mzr_out _ _ (fun t ht z => q ⟨t, ht, z⟩)] at h2; exact h2
              refine Tr_cg (Q := fun c => c < w * ht ∧ fs mkf' (a m) 1 c = 2) (fun c hq hs => ?_) (fun c hq hs => bmp_out _ _ (out2 c hq.2)) (bt.2.2 c' hc' h2') ⟨hc', h2'⟩
              rcases bt.2.1 c hq.1 hq.2 with z | ⟨z1, z2⟩
              · exact absurd z hs.2.2
              · exact ⟨(ah_ok G hcn g3 hs).2.1, z2⟩
            · by_cases q : ∃ t, t < m + 1 - i ∧ c' = fs a (m + 1) d (i + t)
              · obtain ⟨t, ht, q⟩ := q
                rw [q, bmp_in (b := fun t => fs a (m + 1) d (i + t)) _ (fun x y h1 h2 => bi (i + x) (i + y) (by omega) (by omega)) t ht]
                exact hl4 t ht
              · rw [bmp_out _ _ (fun t ht z => q ⟨t, ht, z⟩)]; exact q2.2 c'
            · by_cases q : ∃ t, t < m + 1 - i ∧ c' = fs a (m + 1) d (i + t)
              · obtain ⟨t, ht, q⟩ := q
                rw [q, mzr_in (b := fun t => fs a (m + 1) d (i + t)) _ t ht]; exact Or.inl rfl
              · rw [mzr_out _ _ (fun t ht z => q ⟨t, ht, z⟩)]; exact b3 c' hc'
            · have h3 := b2 _ (q4 c' hc' h2)
              rw [mzr_out _ _ (out2 _ h3)]; exact h3
            · rw [mzr_out _ _ (outA t ht), ← hA t (by omega)]
              exact b1 t (by omega)
            · rw [bmp_out _ _ (outA t ht)]
              exact ax t (by omega)
            · have := mzr_in (f := fs mkf' (a m) 1) (b := fun t => fs a (m + 1) d (i + t)) (v := 0) (m + 1 - i) 0 (by omega)
              simp only [hb0] at this
              rw [dk, this]
              decide
            · by_cases q : ∃ t, t < m + 1 - i ∧ c' = fs a (m + 1) d (i + t)
              · obtain ⟨t, ht, q⟩ := q
                rw [q, mzr_in (b := fun t => fs a (m + 1) d (i + t)) _ t ht] at h1; cases h1
              · rw [mzr_out _ _ (fun t ht z => q ⟨t, ht, z⟩)] at h1
                obtain ⟨t, t1, t2⟩ := bc c' hc' h1
                by_cases z : t < i
                · exact ⟨t, z, by rw [t2, hA t (by omega)]⟩
                · exact absurd ⟨t - i, by omega, by rw [t2]; congr 1; omega⟩ q
            · rw [sumf_bmp (b := fun t => fs a (m + 1) d (i + t)) _ (fun t ht => (bS (i + t) (by omega)).1)]
              omega
          · simp only [s_X6_joinTree_64, s_X6_joinTree_67, s_X6_joinTree_68, aq_gI, aq_gL, aq_gA, aq_isA, aq_s1, aq_s2, aq_kill, aq_ob, aq_sm, aq_arI, aq_arB, aq_isB, aq_arL, aq_arA, aq_arN, aq_sh, Value.category, List.getElem?_cons_zero, List.getElem?_cons_succ, List.length_cons, List.length_nil, Option.toList_some, Option.toList_none, List.cons_append, List.nil_append, true_and, and_true, List.set_cons_zero, List.set_cons_succ, aq_n1, aq_n2, aq_n3, aq_n4, aq_f1, aq_f2, aq_f3, aq_f4, aq_gs, aq_ty1, aq_ty2, aq_ty3, aq_ty4, aq_ty5, Nat.reduceAdd, Nat.reduceLT, Nat.reduceEqDiff, Nat.reduceSub, if_true, if_false, ne_eq, not_false_eq_true, not_true_eq_false, Option.map_some, Option.map_none, Nat.zero_add, reduceCtorEq, Nat.reduceLeDiff, one_ne_zero_a, zero_ne_one_a, aq_nb, aq_nb1, aq_nb0, aq_fb, aq_fb1, aq_fb0, aq_ofN, bB_t, bB_f, bB_v, vpn_b1, vpn_b0, nI_1, Bool.true_eq_false, Bool.false_eq_true, Bool.true_and, Bool.false_and, Bool.and_true, Bool.and_false]
            refine ⟨S3'.tr S4, _, _, _, _, _, _, _, T4, Or.inr ⟨k' + 1, _, Pops_s k' q2.1 pop, fs a (m + 1) d (i + t), ?_⟩⟩
            rw [bmp_in (b := fun t => fs a (m + 1) d (i + t)) _ (fun x y h1 h2 => bi (i + x) (i + y) (by omega) (by omega)) t ht]
            exact Nat.lt_succ_of_le h5
        · have ed2 : fs mkf' (a m) 1 d < 3 := by rcases b3 d y2 with z | z | z <;> omega
          have ed' : ¬ nI (fs mkf' (a m) 1 d) = nI 1 := fun z => ed ((nI_eq (by omega) (by decide)).mp z)
          simp only [s_X6_joinTree_56, s_X6_joinTree_69, s_X6_joinTree_72, aq_gI, aq_gL, aq_gA, aq_isA, aq_s1, aq_s2, aq_kill, aq_ob, aq_sm, aq_arI, aq_arB, aq_isB, aq_arL, aq_arA, aq_arN, aq_sh, Value.category, List.getElem?_cons_zero, List.getElem?_cons_succ, List.length_cons, List.length_nil, Option.toList_some, Option.toList_none, List.cons_append, List.nil_append, true_and, and_true, List.set_cons_zero, List.set_cons_succ, aq_n1, aq_n2, aq_n3, aq_n4, aq_f1, aq_f2, aq_f3, aq_f4, aq_gs, aq_ty1, aq_ty2, aq_ty3, aq_ty4, aq_ty5, Nat.reduceAdd, Nat.reduceLT, Nat.reduceEqDiff, Nat.reduceSub, if_true, if_false, ne_eq, not_false_eq_true, not_true_eq_false, Option.map_some, Option.map_none, Nat.zero_add, reduceCtorEq, Nat.reduceLeDiff, one_ne_zero_a, zero_ne_one_a, aq_nb, aq_nb1, aq_nb0, aq_fb, aq_fb1, aq_fb0, aq_ofN, bB_t, bB_f, bB_v, vpn_b1, vpn_b0, nI_1, Bool.true_eq_false, Bool.false_eq_true, Bool.true_and, Bool.false_and, Bool.and_true, Bool.and_false, ed']
          rw [← hAe]
          refine ih (s + 1) (by omega) _ _ _ _ _ _ h3 p' (fs mkf' (a m) 1) (fs a (m + 1) d) k' (m + 1) T3 S3' g3 bt q2 b3 (fun c' hc' h2 => b2 _ (q4 c' hc' h2)) (by rw [hA 0 (by omega)]; exact a0) bS b1 bi bx ⟨by rw [hAe]; exact y2, by rw [hAe]; exact y3⟩ (by rw [hAe]; exact ed) bc (by omega)
  simp only [s_X6_joinTree_0, s_X6_joinTree_1, s_X6_joinTree_2, s_X6_joinTree_3, s_X6_joinTree_5, s_X6_joinTree_7, s_X6_joinTree_10, s_X6_joinTree_11, s_X6_joinTree_14, s_X6_joinTree_15, s_X6_joinTree_16, s_X6_joinTree_17, s_X6_joinTree_20, s_X6_joinTree_21, s_X6_joinTree_24, s_X6_joinTree_25, s_X6_joinTree_26, s_X6_joinTree_27, s_X6_joinTree_28, s_X6_joinTree_31, s_X6_joinTree_32, s_X6_joinTree_33, s_X6_joinTree_36, s_X6_joinTree_37, s_X6_joinTree_38, s_X6_joinTree_41, s_X6_joinTree_42, s_X6_joinTree_43, s_X6_joinTree_44, s_X6_joinTree_47, s_X6_joinTree_48, s_X6_joinTree_49, s_X6_joinTree_50, s_X6_joinTree_53, s_X6_joinTree_54, s_X6_joinTree_55, s_X6_joinTree_56, s_X6_joinTree_59, s_X6_joinTree_60, s_X6_joinTree_61, s_X6_joinTree_64, s_X6_joinTree_67, s_X6_joinTree_68, s_X6_joinTree_69, s_X6_joinTree_72, s_X6_joinTree_75, s_X6_joinTree_76, s_X6_joinTree_77, s_X6_joinTree_80, s_X6_joinTree_81, s_X6_joinTree_84, s_X6_joinTree_85, s_X6_joinTree_86, s_X6_joinTree_87, s_X6_joinTree_90, s_X6_joinTree_91, s_X6_joinTree_94, s_X6_joinTree_95, aq_gI, aq_gL, aq_gA, aq_isA, aq_s1, aq_s2, aq_kill, aq_ob, aq_sm, aq_arI, aq_arB, aq_isB, aq_arL, aq_arA, aq_arN, aq_sh, Value.category, List.getElem?_cons_zero, List.getElem?_cons_succ, List.length_cons, List.length_nil, Option.toList_some, Option.toList_none, List.cons_append, List.nil_append, true_and, and_true, List.set_cons_zero, List.set_cons_succ, aq_n1, aq_n2, aq_n3, aq_n4, aq_f1, aq_f2, aq_f3, aq_f4, aq_gs, aq_ty1, aq_ty2, aq_ty3, aq_ty4, aq_ty5, Nat.reduceAdd, Nat.reduceLT, Nat.reduceEqDiff, Nat.reduceSub, if_true, if_false, ne_eq, not_false_eq_true, not_true_eq_false, Option.map_some, Option.map_none, Nat.zero_add, reduceCtorEq, Nat.reduceLeDiff, one_ne_zero_a, zero_ne_one_a, aq_nb, aq_nb1, aq_nb0, aq_fb, aq_fb1, aq_fb0, aq_ofN, bB_t, bB_f, bB_v, vpn_b1, vpn_b0, nI_1, Bool.true_eq_false, Bool.false_eq_true, Bool.true_and, Bool.false_and, Bool.and_true, Bool.and_false]
  exact one 1000000 0 (Nat.zero_add _) ways wc xs tops pops marks h p mkf (fun _ => c) k 0 T (sm.rf _ _ _) g t1 t2 (fun c hc => (t3 c hc).imp id Or.inr) (fun _ _ z => z) rfl (fun t ht => by omega) (fun t ht => by omega) (fun i j h1 h2 => by omega) (fun t ht => by omega) ⟨hc, hcb⟩ (by rcases t3 c hc with z | z <;> rw [z] <;> decide) (fun c' hc' h1 => by rcases t3 c' hc' with z | z <;> rw [z] at h1 <;> cases h1) (by omega)
end JOI
