-- dep 62.base2 63.ops 65.num2 66.flood 67.kp 68.place 70.mdl 71.mdl2 72.mdl3 80.cyc 81.lay 82.pop 83.join 84.make 85.sweep
/-! the model: allReach, pop, circle -/
theorem sub_s (a b : Nat) : nI a - nI b + -1 = nI a - nI (b + 1) := by
  rw [← nI_1]
  simp only [Int32.sub_eq_add_neg, Int32.neg_add, Int32.add_assoc]
theorem sub_z {a b : Nat} (ha : a < 2 ^ 30) (hb : b < 2 ^ 30) : nI a - nI b = 0 ↔ a = b := by
  constructor
  · intro h
    have := pk_sub_toInt ha hb
    rw [h] at this
    have h0 : (0 : Int32).toInt = 0 := by decide
    omega
  · rintro rfl
    exact Int32.sub_self _
/-- where the way goes on for n steps, its end lies on a circle within S -/
theorem on_cyc2 {S : Nat → Prop} {g : Nat → Nat} {n c : Nat} (hl : ∀ x, S x → x < n) (h : ∀ i, i ≤ n → S (itn g i c)) : (∃ L, 0 < L ∧ itn g L (itn g n c) = itn g n c) ∧ ∀ t, S (itn g t (itn g n c)) := by
  refine ⟨on_cyc (fun i hi => hl _ (h i hi)), ?_⟩
  obtain ⟨i, j, h1, h2, h3⟩ := pigeon n (fun i => itn g i c) (fun i hi => hl _ (h i hi))
  have h3 : itn g i c = itn g j c := h3
  have cl : ∀ x, (∃ t, i ≤ t ∧ t < j ∧ x = itn g t c) → ∃ t, i ≤ t ∧ t < j ∧ g x = itn g t c := by
    rintro x ⟨t, t1, t2, rfl⟩
    by_cases e : t + 1 = j
    · exact ⟨i, Nat.le_refl _, h1, by rw [h3, ← e, itn_s]⟩
    · exact ⟨t + 1, by omega, by omega, by rw [itn_s]⟩
  intro t
  have e1 : itn g t (itn g n c) = itn g (n - j + t) (itn g i c) := by
    rw [h3, ← itn_add, ← itn_add]
    congr 1
    omega
  rw [e1]
  obtain ⟨t', t1, t2, e⟩ := itn_cl (C := fun x => ∃ t, i ≤ t ∧ t < j ∧ x = itn g t c) cl (n - j + t) (itn g i c) ⟨i, Nat.le_refl _, h1, rfl⟩
  rw [e]
  exact h t' (by omega)
theorem Tr_path {S : Nat → Prop} {F : Nat → Nat → Nat} {root : Nat} {p : Nat → Nat} : ∀ (k c : Nat), (∀ i, i < k → S (itn (gF F p) i c)) → Tr S F root p (itn (gF F p) k c) → Tr S F root p c
  | 0, c, _, h => h
  | k + 1, c, hs, h => by
    refine Tr.go (hs 0 (by omega)) ?_
    exact Tr_path k (gF F p c) (fun i hi => hs (i + 1) (by omega)) h
section MCI
variable {h : aq_H} {w ht root : Nat} {wx wy hm : Bool} {cb : Nat → Bool} {seed : Int32} {p : Nat → Nat} {D : drT} {Z : mzT} {P : plT} {wr thr th rt ci st ex pl hd sg : Int32} {mc mx mt mp mo md mw mk mr pc fa go : Nat → Int32} {tb : Nat → Int64} {ob : Nat → Bool} {dr on ky : Nat → Option Nat}
theorem m_allReach (O : iMo h w ht wr thr th rt ci st ex pl hd sg) (G : gMb h w ht wx wy cb wr mc) (a8 : h[56]? = some (.inl (.boolean, 144, .inl mr))) (hr : root < w * ht) : aq_T e_X10_allReach 6 0 0 [.ref 47, .int (nI root)] h (fun r h' => sm 56 56 h h' ∧ (∃ mr', h'[56]? = some (.inl (.boolean, 144, .inl mr'))) ∧ ((r = some (.int 1) ∧ AR w ht wx wy cb root) ∨ (r = some (.int 0) ∧ ¬ AR w ht wx wy cb root))) := by
  have hn := wh_lt G.1
  refine ⟨Nat.le_of_ble_eq_true rfl, ?_⟩
  show aq_W _ _ 0 [some (.ref 47), some (.int (nI root)), none, none, none, none] [] _ _ _
  refine ar_0 O G hr (f := fun c d => nx w ht wx wy cb c d) (fun _ _ _ _ => rfl) (fun c d m hc hd hx => nx_lt G.1 hc hd hx) rfl a8 ?_
  intro h2 mr2 u L3 L4 L5 S2 b8 g8 hu
  have O3 := O.sm S2 (by decide)
  have G3 := G.sm S2 (by decide)
  unfold iMo at O3
  have one : ∀ (k c : Nat), c + k = w * ht → ∀ (b : Bool), (b = true ↔ ∀ c', c' < c → cb c' = false → u c' = false) → aq_W e_X10_allReach (fun r h' => sm 56 56 h h' ∧ (∃ mr', h'[56]? = some (.inl (.boolean, 144, .inl mr'))) ∧ ((r = some (.int 1) ∧ AR w ht wx wy cb root) ∨ (r = some (.int 0) ∧ ¬ AR w ht wx wy cb root))) 119 [some (.ref 47), some (.int (nI root)), some (.int (bB b)), some (.int (nI c)), L4, L5] [] h2 0 0 := by
    intro k
    induction k with
    | zero =>
      intro c hc b hb
      have e : c = w * ht := by omega
      subst e
      rw [s_X10_allReach_119]
      simp only [s_X10_allReach_120, s_X10_allReach_121, s_X10_allReach_124, s_X10_allReach_161, s_X10_allReach_162, aq_gI, aq_gL, aq_gA, aq_isA, aq_s1, aq_s2, aq_kill, aq_ob, aq_sm, aq_arI, aq_arB, aq_isB, aq_arL, aq_arA, aq_arN, aq_sh, Value.category, List.getElem?_cons_zero, List.getElem?_cons_succ, List.length_cons, List.length_nil, Option.toList_some, Option.toList_none, List.cons_append, List.nil_append, true_and, and_true, List.set_cons_zero, List.set_cons_succ, aq_n1, aq_n2, aq_n3, aq_n4, aq_f1, aq_f2, aq_f3, aq_f4, aq_gs, aq_ty1, aq_ty2, aq_ty3, aq_ty4, aq_ty5, Nat.reduceAdd, Nat.reduceLT, Nat.reduceEqDiff, Nat.reduceSub, if_true, if_false, ne_eq, not_false_eq_true, not_true_eq_false, Option.map_some, Option.map_none, Nat.zero_add, reduceCtorEq, Nat.reduceLeDiff, one_ne_zero_a, zero_ne_one_a, aq_nb, aq_nb1, aq_nb0, aq_fb, aq_fb1, aq_fb0, aq_ofN, bB_t, bB_f, bB_v, vpn_b1, vpn_b0, nI_1, Bool.true_eq_false, Bool.false_eq_true, Bool.true_and, Bool.false_and, Bool.and_true, Bool.and_false, O3, nI_le (Nat.le_refl (w * ht)) (show w * ht < 2 ^ 31 by omega)]
      have hA : b = true ↔ AR w ht wx wy cb root := by
        rw [hb]
        exact ⟨fun z c hc h1 => (hu c).mp (z c hc h1), fun z c hc h1 => (hu c).mpr (z c hc h1)⟩
      cases b with
      | true => exact ⟨S2, ⟨mr2, b8⟩, Or.inl ⟨rfl, hA.mp rfl⟩⟩
      | false => exact ⟨S2, ⟨mr2, b8⟩, Or.inr ⟨rfl, fun z => by have := hA.mpr z; cases this⟩⟩
    | succ k ih =>
      intro c hc b hb
      have hc2 : c < w * ht := by omega
      have up : ∀ (b' : Bool), b' = (b && (cb c || !u c)) → (b' = true ↔ ∀ c', c' < c + 1 → cb c' = false → u c' = false) := by
        intro b' e
        rw [e, Bool.and_eq_true, hb]
        constructor
        · rintro ⟨z1, z2⟩ c' hc' h1
          by_cases z : c' = c
          · rw [z] at h1 ⊢
            rw [h1, Bool.false_or] at z2
            simpa using z2
          · exact z1 c' (by omega) h1
        · intro z
          refine ⟨fun c' hc' => z c' (by omega), ?_⟩
          cases q : cb c with
          | true => rfl
          | false => rw [z c (by omega) q]; rfl
      rw [s_X10_allReach_119]
      cases b with
      | false =>
        simp only [s_X10_allReach_120, s_X10_allReach_121, s_X10_allReach_124, s_X10_allReach_127, s_X10_allReach_128, s_X10_allReach_153, s_X10_allReach_154, s_X10_allReach_155, s_X10_allReach_158, aq_gI, aq_gL, aq_gA, aq_isA, aq_s1, aq_s2, aq_kill, aq_ob, aq_sm, aq_arI, aq_arB, aq_isB, aq_arL, aq_arA, aq_arN, aq_sh, Value.category, List.getElem?_cons_zero, List.getElem?_cons_succ, List.length_cons, List.length_nil, Option.toList_some, Option.toList_none, List.cons_append, List.nil_append, true_and, and_true, List.set_cons_zero, List.set_cons_succ, aq_n1, aq_n2, aq_n3, aq_n4, aq_f1, aq_f2, aq_f3, aq_f4, aq_gs, aq_ty1, aq_ty2, aq_ty3, aq_ty4, aq_ty5, Nat.reduceAdd, Nat.reduceLT, Nat.reduceEqDiff, Nat.reduceSub, if_true, if_false, ne_eq, not_false_eq_true, not_true_eq_false, Option.map_some, Option.map_none, Nat.zero_add, reduceCtorEq, Nat.reduceLeDiff, one_ne_zero_a, zero_ne_one_a, aq_nb, aq_nb1, aq_nb0, aq_fb, aq_fb1, aq_fb0, aq_ofN, bB_t, bB_f, bB_v, vpn_b1, vpn_b0, nI_1, Bool.true_eq_false, Bool.false_eq_true, Bool.true_and, Bool.false_and, Bool.and_true, Bool.and_false, O3, nI_ge hc2 (show w * ht < 2 ^ 31 by omega)]
        exact ih (c + 1) (by omega) false (up false rfl)
      | true =>
        cases q : cb c with
        | true =>
          simp only [s_X10_allReach_120, s_X10_allReach_121, s_X10_allReach_124, s_X10_allReach_127, s_X10_allReach_128, s_X10_allReach_131, s_X10_allReach_132, s_X10_allReach_135, s_X10_allReach_136, s_X10_allReach_137, s_X10_allReach_149, s_X10_allReach_150, s_X10_allReach_154, s_X10_allReach_155, s_X10_allReach_158, aq_gI, aq_gL, aq_gA, aq_isA, aq_s1, aq_s2, aq_kill, aq_ob, aq_sm, aq_arI, aq_arB, aq_isB, aq_arL, aq_arA, aq_arN, aq_sh, Value.category, List.getElem?_cons_zero, List.getElem?_cons_succ, List.length_cons, List.length_nil, Option.toList_some, Option.toList_none, List.cons_append, List.nil_append, true_and, and_true, List.set_cons_zero, List.set_cons_succ, aq_n1, aq_n2, aq_n3, aq_n4, aq_f1, aq_f2, aq_f3, aq_f4, aq_gs, aq_ty1, aq_ty2, aq_ty3, aq_ty4, aq_ty5, Nat.reduceAdd, Nat.reduceLT, Nat.reduceEqDiff, Nat.reduceSub, if_true, if_false, ne_eq, not_false_eq_true, not_true_eq_false, Option.map_some, Option.map_none, Nat.zero_add, reduceCtorEq, Nat.reduceLeDiff, one_ne_zero_a, zero_ne_one_a, aq_nb, aq_nb1, aq_nb0, aq_fb, aq_fb1, aq_fb0, aq_ofN, bB_t, bB_f, bB_v, vpn_b1, vpn_b0, nI_1, Bool.true_eq_false, Bool.false_eq_true, Bool.true_and, Bool.false_and, Bool.and_true, Bool.and_false, O3, nI_ge hc2 (show w * ht < 2 ^ 31 by omega), G3.2.2.1, vp_in_nI (show c < 144 by omega) (show 144 < 2 ^ 31 by decide), nI_clamp (show c < 2 ^ 31 by omega), G3.2.2.2 c hc2, q]
          exact ih (c + 1) (by omega) true (up true (by rw [q]; rfl))
        | false =>
          cases q2 : u c with
          | false =>
            simp only [s_X10_allReach_120, s_X10_allReach_121, s_X10_allReach_124, s_X10_allReach_127, s_X10_allReach_128, s_X10_allReach_131, s_X10_allReach_132, s_X10_allReach_135, s_X10_allReach_136, s_X10_allReach_137, s_X10_allReach_140, s_X10_allReach_141, s_X10_allReach_144, s_X10_allReach_145, s_X10_allReach_146, s_X10_allReach_149, s_X10_allReach_150, s_X10_allReach_154, s_X10_allReach_155, s_X10_allReach_158, aq_gI, aq_gL, aq_gA, aq_isA, aq_s1, aq_s2, aq_kill, aq_ob, aq_sm, aq_arI, aq_arB, aq_isB, aq_arL, aq_arA, aq_arN, aq_sh, Value.category, List.getElem?_cons_zero, List.getElem?_cons_succ, List.length_cons, List.length_nil, Option.toList_some, Option.toList_none, List.cons_append, List.nil_append, true_and, and_true, List.set_cons_zero, List.set_cons_succ, aq_n1, aq_n2, aq_n3, aq_n4, aq_f1, aq_f2, aq_f3, aq_f4, aq_gs, aq_ty1, aq_ty2, aq_ty3, aq_ty4, aq_ty5, Nat.reduceAdd, Nat.reduceLT, Nat.reduceEqDiff, Nat.reduceSub, if_true, if_false, ne_eq, not_false_eq_true, not_true_eq_false, Option.map_some, Option.map_none, Nat.zero_add, reduceCtorEq, Nat.reduceLeDiff, one_ne_zero_a, zero_ne_one_a, aq_nb, aq_nb1, aq_nb0, aq_fb, aq_fb1, aq_fb0, aq_ofN, bB_t, bB_f, bB_v, vpn_b1, vpn_b0, nI_1, Bool.true_eq_false, Bool.false_eq_true, Bool.true_and, Bool.false_and, Bool.and_true, Bool.and_false, O3, nI_ge hc2 (show w * ht < 2 ^ 31 by omega), G3.2.2.1, b8, vp_in_nI (show c < 144 by omega) (show 144 < 2 ^ 31 by decide), nI_clamp (show c < 2 ^ 31 by omega), G3.2.2.2 c hc2, q, g8 c hc2, q2, Bool.not_false]
            exact ih (c + 1) (by omega) true (up true (by rw [q, q2]; rfl))
          | true =>
            simp only [s_X10_allReach_120, s_X10_allReach_121, s_X10_allReach_124, s_X10_allReach_127, s_X10_allReach_128, s_X10_allReach_131, s_X10_allReach_132, s_X10_allReach_135, s_X10_allReach_136, s_X10_allReach_137, s_X10_allReach_140, s_X10_allReach_141, s_X10_allReach_144, s_X10_allReach_145, s_X10_allReach_146, s_X10_allReach_153, s_X10_allReach_154, s_X10_allReach_155, s_X10_allReach_158, aq_gI, aq_gL, aq_gA, aq_isA, aq_s1, aq_s2, aq_kill, aq_ob, aq_sm, aq_arI, aq_arB, aq_isB, aq_arL, aq_arA, aq_arN, aq_sh, Value.category, List.getElem?_cons_zero, List.getElem?_cons_succ, List.length_cons, List.length_nil, Option.toList_some, Option.toList_none, List.cons_append, List.nil_append, true_and, and_true, List.set_cons_zero, List.set_cons_succ, aq_n1, aq_n2, aq_n3, aq_n4, aq_f1, aq_f2, aq_f3, aq_f4, aq_gs, aq_ty1, aq_ty2, aq_ty3, aq_ty4, aq_ty5, Nat.reduceAdd, Nat.reduceLT, Nat.reduceEqDiff, Nat.reduceSub, if_true, if_false, ne_eq, not_false_eq_true, not_true_eq_false, Option.map_some, Option.map_none, Nat.zero_add, reduceCtorEq, Nat.reduceLeDiff, one_ne_zero_a, zero_ne_one_a, aq_nb, aq_nb1, aq_nb0, aq_fb, aq_fb1, aq_fb0, aq_ofN, bB_t, bB_f, bB_v, vpn_b1, vpn_b0, nI_1, Bool.true_eq_false, Bool.false_eq_true, Bool.true_and, Bool.false_and, Bool.and_true, Bool.and_false, O3, nI_ge hc2 (show w * ht < 2 ^ 31 by omega), G3.2.2.1, b8, vp_in_nI (show c < 144 by omega) (show 144 < 2 ^ 31 by decide), nI_clamp (show c < 2 ^ 31 by omega), G3.2.2.2 c hc2, q, g8 c hc2, q2, Bool.not_true]
            exact ih (c + 1) (by omega) false (up false (by rw [q, q2]; rfl))
  simp only [s_X10_allReach_115, s_X10_allReach_116, s_X10_allReach_117, s_X10_allReach_118, aq_gI, aq_gL, aq_gA, aq_isA, aq_s1, aq_s2, aq_kill, aq_ob, aq_sm, aq_arI, aq_arB, aq_isB, aq_arL, aq_arA, aq_arN, aq_sh, Value.category, List.getElem?_cons_zero, List.getElem?_cons_succ, List.length_cons, List.length_nil, Option.toList_some, Option.toList_none, List.cons_append, List.nil_append, true_and, and_true, List.set_cons_zero, List.set_cons_succ, aq_n1, aq_n2, aq_n3, aq_n4, aq_f1, aq_f2, aq_f3, aq_f4, aq_gs, aq_ty1, aq_ty2, aq_ty3, aq_ty4, aq_ty5, Nat.reduceAdd, Nat.reduceLT, Nat.reduceEqDiff, Nat.reduceSub, if_true, if_false, ne_eq, not_false_eq_true, not_true_eq_false, Option.map_some, Option.map_none, Nat.zero_add, reduceCtorEq, Nat.reduceLeDiff, one_ne_zero_a, zero_ne_one_a, aq_nb, aq_nb1, aq_nb0, aq_fb, aq_fb1, aq_fb0, aq_ofN, bB_t, bB_f, bB_v, vpn_b1, vpn_b0, nI_1, Bool.true_eq_false, Bool.false_eq_true, Bool.true_and, Bool.false_and, Bool.and_true, Bool.and_false]
  exact one (w * ht) 0 (Nat.zero_add _) true ⟨fun _ c' hc' => by omega, fun _ => rfl⟩
theorem m_pop (O : iMo h w ht wr thr th rt ci st ex pl hd sg) (G : gMb h w ht wx wy cb wr mc) (a1 : h[49]? = some (.inl (.int, 144, .inl mx))) (a2 : h[50]? = some (.inl (.int, 144, .inl mt))) {c : Nat} (hc : c < w * ht) (hp : 0 < (wyl w ht wx wy cb c).length) : aq_T e_X10_pop 5 0 0 [.ref 47, .int (nI c)] h (fun r h' => r = none ∧ sm 49 50 h h' ∧ h'[49]? = some (.inl (.int, 144, .inl (upd mx c (nxt (mx c))))) ∧ h'[50]? = some (.inl (.int, 144, .inl (upd mt c (nI ((wyl w ht wx wy cb c).getD (chs (nxt (mx c)) (wyl w ht wx wy cb c).length) 0)))))) := by
  have hn := wh_lt G.1
  have hl : (wyl w ht wx wy cb c).length ≤ 4 := wyk_len c 4
  have O1 := O
  unfold iMo at O1
  have hch := chs_lt (nxt (mx c)) hp
  generalize hN : chs (nxt (mx c)) (wyl w ht wx wy cb c).length = N at hch ⊢
  refine ⟨Nat.le_of_ble_eq_true rfl, ?_⟩
  show aq_W _ _ 0 [some (.ref 47), some (.int (nI c)), none, none, none] [] _ _ _
  have h1e : ∃ h1, h.set 49 (.inl (.int, 144, .inl (upd mx c (nxt (mx c))))) = h1 := ⟨_, rfl⟩
  obtain ⟨h1, h1e⟩ := h1e
  have S1 : sm 49 50 h h1 := by rw [← h1e]; exact (sm.rf _ _ _).st (by decide) (by decide)
  have b1 : h1[49]? = some (.inl (.int, 144, .inl (upd mx c (nxt (mx c))))) := by rw [← h1e]; simp only [aq_gI, aq_gL, aq_gA, aq_isA, aq_s1, aq_s2, aq_kill, aq_ob, aq_sm, aq_arI, aq_arB, aq_isB, aq_arL, aq_arA, aq_arN, aq_sh, Value.category, List.getElem?_cons_zero, List.getElem?_cons_succ, List.length_cons, List.length_nil, Option.toList_some, Option.toList_none, List.cons_append, List.nil_append, true_and, and_true, List.set_cons_zero, List.set_cons_succ, aq_n1, aq_n2, aq_n3, aq_n4, aq_f1, aq_f2, aq_f3, aq_f4, aq_gs, aq_ty1, aq_ty2, aq_ty3, aq_ty4, aq_ty5, Nat.reduceAdd, Nat.reduceLT, Nat.reduceEqDiff, Nat.reduceSub, if_true, if_false, ne_eq, not_false_eq_true, not_true_eq_false, Option.map_some, Option.map_none, Nat.zero_add, reduceCtorEq, Nat.reduceLeDiff, one_ne_zero_a, zero_ne_one_a, a1]
  have b2 : h1[50]? = some (.inl (.int, 144, .inl mt)) := by rw [← h1e]; simp only [aq_gI, aq_gL, aq_gA, aq_isA, aq_s1, aq_s2, aq_kill, aq_ob, aq_sm, aq_arI, aq_arB, aq_isB, aq_arL, aq_arA, aq_arN, aq_sh, Value.category, List.getElem?_cons_zero, List.getElem?_cons_succ, List.length_cons, List.length_nil, Option.toList_some, Option.toList_none, List.cons_append, List.nil_append, true_and, and_true, List.set_cons_zero, List.set_cons_succ, aq_n1, aq_n2, aq_n3, aq_n4, aq_f1, aq_f2, aq_f3, aq_f4, aq_gs, aq_ty1, aq_ty2, aq_ty3, aq_ty4, aq_ty5, Nat.reduceAdd, Nat.reduceLT, Nat.reduceEqDiff, Nat.reduceSub, if_true, if_false, ne_eq, not_false_eq_true, not_true_eq_false, Option.map_some, Option.map_none, Nat.zero_add, reduceCtorEq, Nat.reduceLeDiff, one_ne_zero_a, zero_ne_one_a, a2]
  have two : ∀ (k d : Nat), d + k = 4 → ∀ (f : Nat → Int32) (h2 : aq_H), sm 49 50 h h2 → h2[49]? = some (.inl (.int, 144, .inl (upd mx c (nxt (mx c))))) → h2[50]? = some (.inl (.int, 144, .inl f)) → (∀ j, j ≠ c → f j = mt j) → (N < (wyk w ht wx wy cb c d).length → f c = nI ((wyk w ht wx wy cb c d).getD N 0)) → aq_W e_X10_pop (fun r h' => r = none ∧ sm 49 50 h h' ∧ h'[49]? = some (.inl (.int, 144, .inl (upd mx c (nxt (mx c))))) ∧ h'[50]? = some (.inl (.int, 144, .inl (upd mt c (nI ((wyl w ht wx wy cb c).getD N 0)))))) 66 [some (.ref 47), some (.int (nI c)), some (.int (nI (wyl w ht wx wy cb c).length)), some (.int (nI N - nI (wyk w ht wx wy cb c d).length)), some (.int (nI d))] [] h2 0 0 := by
    intro k
    induction k with
    | zero =>
      intro d hd f h2 S2 e1 e2 q1 q2
      have e : d = 4 := by omega
      subst e
      have h4 : (4 : Int32) ≤ nI 4 := by decide
      rw [s_X10_pop_66]
      simp only [s_X10_pop_68, s_X10_pop_69, s_X10_pop_113, aq_gI, aq_gL, aq_gA, aq_isA, aq_s1, aq_s2, aq_kill, aq_ob, aq_sm, aq_arI, aq_arB, aq_isB, aq_arL, aq_arA, aq_arN, aq_sh, Value.category, List.getElem?_cons_zero, List.getElem?_cons_succ, List.length_cons, List.length_nil, Option.toList_some, Option.toList_none, List.cons_append, List.nil_append, true_and, and_true, List.set_cons_zero, List.set_cons_succ, aq_n1, aq_n2, aq_n3, aq_n4, aq_f1, aq_f2, aq_f3, aq_f4, aq_gs, aq_ty1, aq_ty2, aq_ty3, aq_ty4, aq_ty5, Nat.reduceAdd, Nat.reduceLT, Nat.reduceEqDiff, Nat.reduceSub, if_true, if_false, ne_eq, not_false_eq_true, not_true_eq_false, Option.map_some, Option.map_none, Nat.zero_add, reduceCtorEq, Nat.reduceLeDiff, one_ne_zero_a, zero_ne_one_a, aq_nb, aq_nb1, aq_nb0, aq_fb, aq_fb1, aq_fb0, aq_ofN, bB_t, bB_f, bB_v, vpn_b1, vpn_b0, nI_1, Bool.true_eq_false, Bool.false_eq_true, Bool.true_and, Bool.false_and, Bool.and_true, Bool.and_false, h4]
      refine ⟨S2, e1, ?_⟩
      rw [e2]
      have hf : f = upd mt c (nI ((wyl w ht wx wy cb c).getD N 0)) := by
        funext j
        by_cases z : j = c
        · rw [z, upd_s]; exact q2 hch
        · rw [upd_n _ _ z]; exact q1 j z
      rw [hf]
    | succ k ih =>
      intro d hd f h2 S2 e1 e2 q1 q2
      have hd4 : d < 4 := by omega
      have h4 : ¬ (4 : Int32) ≤ nI d := by rw [nI_4]; exact nI_ge hd4 (by omega)
      have hlen := wyk_len (w := w) (ht := ht) (wx := wx) (wy := wy) (cb := cb) c d
      have O2 := O.sm S2 (by decide)
      have G2 := G.sm S2 (by decide)
      have O3 := O2
      unfold iMo at O3
      rw [s_X10_pop_66]
      simp only [s_X10_pop_68, s_X10_pop_69, s_X10_pop_72, s_X10_pop_73, s_X10_pop_74, s_X10_pop_76, aq_gI, aq_gL, aq_gA, aq_isA, aq_s1, aq_s2, aq_kill, aq_ob, aq_sm, aq_arI, aq_arB, aq_isB, aq_arL, aq_arA, aq_arN, aq_sh, Value.category, List.getElem?_cons_zero, List.getElem?_cons_succ, List.length_cons, List.length_nil, Option.toList_some, Option.toList_none, List.cons_append, List.nil_append, true_and, and_true, List.set_cons_zero, List.set_cons_succ, aq_n1, aq_n2, aq_n3, aq_n4, aq_f1, aq_f2, aq_f3, aq_f4, aq_gs, aq_ty1, aq_ty2, aq_ty3, aq_ty4, aq_ty5, Nat.reduceAdd, Nat.reduceLT, Nat.reduceEqDiff, Nat.reduceSub, if_true, if_false, ne_eq, not_false_eq_true, not_true_eq_false, Option.map_some, Option.map_none, Nat.zero_add, reduceCtorEq, Nat.reduceLeDiff, one_ne_zero_a, zero_ne_one_a, aq_nb, aq_nb1, aq_nb0, aq_fb, aq_fb1, aq_fb0, aq_ofN, bB_t, bB_f, bB_v, vpn_b1, vpn_b0, nI_1, Bool.true_eq_false, Bool.false_eq_true, Bool.true_and, Bool.false_and, Bool.and_true, Bool.and_false, h4, O3]
      refine (m_next O2 G2 (nI c) (nI d)).use ?_
      rintro _ h2 ⟨rfl, rfl⟩
      rw [NX_in hc (by omega) hd4]
      have hnext := ih (d + 1) (by omega)
      rw [wyk_s] at hnext
      cases hx : nx w ht wx wy cb c d with
      | none =>
        rw [hx] at hnext
        simp only [Option.isSome_none, Bool.false_eq_true, if_false, List.append_nil] at hnext
        simp only [oI, s_X10_pop_79, s_X10_pop_80, s_X10_pop_107, s_X10_pop_110, aq_gI, aq_gL, aq_gA, aq_isA, aq_s1, aq_s2, aq_kill, aq_ob, aq_sm, aq_arI, aq_arB, aq_isB, aq_arL, aq_arA, aq_arN, aq_sh, Value.category, List.getElem?_cons_zero, List.getElem?_cons_succ, List.length_cons, List.length_nil, Option.toList_some, Option.toList_none, List.cons_append, List.nil_append, true_and, and_true, List.set_cons_zero, List.set_cons_succ, aq_n1, aq_n2, aq_n3, aq_n4, aq_f1, aq_f2, aq_f3, aq_f4, aq_gs, aq_ty1, aq_ty2, aq_ty3, aq_ty4, aq_ty5, Nat.reduceAdd, Nat.reduceLT, Nat.reduceEqDiff, Nat.reduceSub, if_true, if_false, ne_eq, not_false_eq_true, not_true_eq_false, Option.map_some, Option.map_none, Nat.zero_add, reduceCtorEq, Nat.reduceLeDiff, one_ne_zero_a, zero_ne_one_a, aq_nb, aq_nb1, aq_nb0, aq_fb, aq_fb1, aq_fb0, aq_ofN, bB_t, bB_f, bB_v, vpn_b1, vpn_b0, nI_1, Bool.true_eq_false, Bool.false_eq_true, Bool.true_and, Bool.false_and, Bool.and_true, Bool.and_false]
        exact hnext f h2 S2 e1 e2 q1 q2
      | some m =>
        have hm := nx_lt G.1 hc hd4 hx
        rw [hx] at hnext
        simp only [Option.isSome_some, if_true, List.length_append, List.length_cons, List.length_nil, Nat.zero_add] at hnext
        have hz := sub_z (a := N) (b := (wyk w ht wx wy cb c d).length) (by omega) (by omega)
        by_cases eN : N = (wyk w ht wx wy cb c d).length
        · simp only [oI, s_X10_pop_79, s_X10_pop_80, s_X10_pop_83, s_X10_pop_84, s_X10_pop_87, s_X10_pop_88, s_X10_pop_89, s_X10_pop_92, s_X10_pop_94, s_X10_pop_103, s_X10_pop_104, s_X10_pop_107, s_X10_pop_110, aq_gI, aq_gL, aq_gA, aq_isA, aq_s1, aq_s2, aq_kill, aq_ob, aq_sm, aq_arI, aq_arB, aq_isB, aq_arL, aq_arA, aq_arN, aq_sh, Value.category, List.getElem?_cons_zero, List.getElem?_cons_succ, List.length_cons, List.length_nil, Option.toList_some, Option.toList_none, List.cons_append, List.nil_append, true_and, and_true, List.set_cons_zero, List.set_cons_succ, aq_n1, aq_n2, aq_n3, aq_n4, aq_f1, aq_f2, aq_f3, aq_f4, aq_gs, aq_ty1, aq_ty2, aq_ty3, aq_ty4, aq_ty5, Nat.reduceAdd, Nat.reduceLT, Nat.reduceEqDiff, Nat.reduceSub, if_true, if_false, ne_eq, not_false_eq_true, not_true_eq_false, Option.map_some, Option.map_none, Nat.zero_add, reduceCtorEq, Nat.reduceLeDiff, one_ne_zero_a, zero_ne_one_a, aq_nb, aq_nb1, aq_nb0, aq_fb, aq_fb1, aq_fb0, aq_ofN, bB_t, bB_f, bB_v, vpn_b1, vpn_b0, nI_1, Bool.true_eq_false, Bool.false_eq_true, Bool.true_and, Bool.false_and, Bool.and_true, Bool.and_false, nI_ne_m1 (show m < 2 ^ 31 by omega), O3, e2, hz.mpr eN, vp_in_nI (show c < 144 by omega) (show 144 < 2 ^ 31 by decide), nI_clamp (show c < 2 ^ 31 by omega)]
          have hs := sub_s N (wyk w ht wx wy cb c d).length
          rw [hz.mpr eN] at hs
          rw [hs]
          refine hnext (upd f c (nI d)) _ (S2.st (by decide) (by decide)) (by simp only [aq_gI, aq_gL, aq_gA, aq_isA, aq_s1, aq_s2, aq_kill, aq_ob, aq_sm, aq_arI, aq_arB, aq_isB, aq_arL, aq_arA, aq_arN, aq_sh, Value.category, List.getElem?_cons_zero, List.getElem?_cons_succ, List.length_cons, List.length_nil, Option.toList_some, Option.toList_none, List.cons_append, List.nil_append, true_and, and_true, List.set_cons_zero, List.set_cons_succ, aq_n1, aq_n2, aq_n3, aq_n4, aq_f1, aq_f2, aq_f3, aq_f4, aq_gs, aq_ty1, aq_ty2, aq_ty3, aq_ty4, aq_ty5, Nat.reduceAdd, Nat.reduceLT, Nat.reduceEqDiff, Nat.reduceSub, if_true, if_false, ne_eq, not_false_eq_true, not_true_eq_false, Option.map_some, Option.map_none, Nat.zero_add, reduceCtorEq, Nat.reduceLeDiff, one_ne_zero_a, zero_ne_one_a, e1]) (by simp only [aq_gI, aq_gL, aq_gA, aq_isA, aq_s1, aq_s2, aq_kill, aq_ob, aq_sm, aq_arI, aq_arB, aq_isB, aq_arL, aq_arA, aq_arN, aq_sh, Value.category, List.getElem?_cons_zero, List.getElem?_cons_succ, List.length_cons, List.length_nil, Option.toList_some, Option.toList_none, List.cons_append, List.nil_append, true_and, and_true, List.set_cons_zero, List.set_cons_succ, aq_n1, aq_n2, aq_n3, aq_n4, aq_f1, aq_f2, aq_f3, aq_f4, aq_gs, aq_ty1, aq_ty2, aq_ty3, aq_ty4, aq_ty5, Nat.reduceAdd, Nat.reduceLT, Nat.reduceEqDiff, Nat.reduceSub, if_true, if_false, ne_eq, not_false_eq_true, not_true_eq_false, Option.map_some, Option.map_none, Nat.zero_add, reduceCtorEq, Nat.reduceLeDiff, one_ne_zero_a, zero_ne_one_a, e2]) (fun j hj => by rw [upd_n _ _ hj]; exact q1 j hj) (fun _ => ?_)
          rw [upd_s, eN, List.getD_eq_getElem?_getD, List.getElem?_append_right (Nat.le_refl _), Nat.sub_self]
          rfl
        · have hz' : ¬ nI N - nI (wyk w ht wx wy cb c d).length = 0 := fun z => eN (hz.mp z)
          simp only [oI, s_X10_pop_79, s_X10_pop_80, s_X10_pop_83, s_X10_pop_84, s_X10_pop_87, s_X10_pop_88, s_X10_pop_89, s_X10_pop_97, s_X10_pop_98, s_X10_pop_101, s_X10_pop_102, s_X10_pop_103, s_X10_pop_104, s_X10_pop_107, s_X10_pop_110, aq_gI, aq_gL, aq_gA, aq_isA, aq_s1, aq_s2, aq_kill, aq_ob, aq_sm, aq_arI, aq_arB, aq_isB, aq_arL, aq_arA, aq_arN, aq_sh, Value.category, List.getElem?_cons_zero, List.getElem?_cons_succ, List.length_cons, List.length_nil, Option.toList_some, Option.toList_none, List.cons_append, List.nil_append, true_and, and_true, List.set_cons_zero, List.set_cons_succ, aq_n1, aq_n2, aq_n3, aq_n4, aq_f1, aq_f2, aq_f3, aq_f4, aq_gs, aq_ty1, aq_ty2, aq_ty3, aq_ty4, aq_ty5, Nat.reduceAdd, Nat.reduceLT, Nat.reduceEqDiff, Nat.reduceSub, if_true, if_false, ne_eq, not_false_eq_true, not_true_eq_false, Option.map_some, Option.map_none, Nat.zero_add, reduceCtorEq, Nat.reduceLeDiff, one_ne_zero_a, zero_ne_one_a, aq_nb, aq_nb1, aq_nb0, aq_fb, aq_fb1, aq_fb0, aq_ofN, bB_t, bB_f, bB_v, vpn_b1, vpn_b0, nI_1, Bool.true_eq_false, Bool.false_eq_true, Bool.true_and, Bool.false_and, Bool.and_true, Bool.and_false, nI_ne_m1 (show m < 2 ^ 31 by omega), O3, e2, hz', vp_in_nI (show c < 144 by omega) (show 144 < 2 ^ 31 by decide), nI_clamp (show c < 2 ^ 31 by omega), sub_s]
          refine hnext (upd f c (f c)) _ (S2.st (by decide) (by decide)) (by simp only [aq_gI, aq_gL, aq_gA, aq_isA, aq_s1, aq_s2, aq_kill, aq_ob, aq_sm, aq_arI, aq_arB, aq_isB, aq_arL, aq_arA, aq_arN, aq_sh, Value.category, List.getElem?_cons_zero, List.getElem?_cons_succ, List.length_cons, List.length_nil, Option.toList_some, Option.toList_none, List.cons_append, List.nil_append, true_and, and_true, List.set_cons_zero, List.set_cons_succ, aq_n1, aq_n2, aq_n3, aq_n4, aq_f1, aq_f2, aq_f3, aq_f4, aq_gs, aq_ty1, aq_ty2, aq_ty3, aq_ty4, aq_ty5, Nat.reduceAdd, Nat.reduceLT, Nat.reduceEqDiff, Nat.reduceSub, if_true, if_false, ne_eq, not_false_eq_true, not_true_eq_false, Option.map_some, Option.map_none, Nat.zero_add, reduceCtorEq, Nat.reduceLeDiff, one_ne_zero_a, zero_ne_one_a, e1]) (by simp only [aq_gI, aq_gL, aq_gA, aq_isA, aq_s1, aq_s2, aq_kill, aq_ob, aq_sm, aq_arI, aq_arB, aq_isB, aq_arL, aq_arA, aq_arN, aq_sh, Value.category, List.getElem?_cons_zero, List.getElem?_cons_succ, List.length_cons, List.length_nil, Option.toList_some, Option.toList_none, List.cons_append, List.nil_append, true_and, and_true, List.set_cons_zero, List.set_cons_succ, aq_n1, aq_n2, aq_n3, aq_n4, aq_f1, aq_f2, aq_f3, aq_f4, aq_gs, aq_ty1, aq_ty2, aq_ty3, aq_ty4, aq_ty5, Nat.reduceAdd, Nat.reduceLT, Nat.reduceEqDiff, Nat.reduceSub, if_true, if_false, ne_eq, not_false_eq_true, not_true_eq_false, Option.map_some, Option.map_none, Nat.zero_add, reduceCtorEq, Nat.reduceLeDiff, one_ne_zero_a, zero_ne_one_a, e2]) (fun j hj => by rw [upd_n _ _ hj]; exact q1 j hj) (fun hlt => ?_)
          rw [upd_s, q2 (by omega), List.getD_eq_getElem?_getD, List.getD_eq_getElem?_getD, List.getElem?_append_left (by omega)]
  have one : ∀ (k d : Nat), d + k = 4 → aq_W e_X10_pop (fun r h' => r = none ∧ sm 49 50 h h' ∧ h'[49]? = some (.inl (.int, 144, .inl (upd mx c (nxt (mx c))))) ∧ h'[50]? = some (.inl (.int, 144, .inl (upd mt c (nI ((wyl w ht wx wy cb c).getD N 0)))))) 4 [some (.ref 47), some (.int (nI c)), some (.int (nI (wyk w ht wx wy cb c d).length)), some (.int (nI d)), none] [] h 0 0 := by
    intro k
    induction k with
    | zero =>
      intro d hd
      have e : d = 4 := by omega
      subst e
      have h4 : (4 : Int32) ≤ nI 4 := by decide
      have hk : wyk w ht wx wy cb c 4 = wyl w ht wx wy cb c := rfl
      rw [s_X10_pop_4, hk]
      have hnx : mx c * 1664525 + 1013904223 = nxt (mx c) := rfl
      simp only [s_X10_pop_5, s_X10_pop_6, s_X10_pop_33, s_X10_pop_34, s_X10_pop_37, s_X10_pop_38, s_X10_pop_39, s_X10_pop_42, s_X10_pop_43, s_X10_pop_44, s_X10_pop_46, s_X10_pop_47, s_X10_pop_49, s_X10_pop_50, s_X10_pop_51, s_X10_pop_52, s_X10_pop_55, s_X10_pop_56, s_X10_pop_57, s_X10_pop_59, s_X10_pop_60, s_X10_pop_61, s_X10_pop_62, s_X10_pop_63, s_X10_pop_64, aq_gI, aq_gL, aq_gA, aq_isA, aq_s1, aq_s2, aq_kill, aq_ob, aq_sm, aq_arI, aq_arB, aq_isB, aq_arL, aq_arA, aq_arN, aq_sh, Value.category, List.getElem?_cons_zero, List.getElem?_cons_succ, List.length_cons, List.length_nil, Option.toList_some, Option.toList_none, List.cons_append, List.nil_append, true_and, and_true, List.set_cons_zero, List.set_cons_succ, aq_n1, aq_n2, aq_n3, aq_n4, aq_f1, aq_f2, aq_f3, aq_f4, aq_gs, aq_ty1, aq_ty2, aq_ty3, aq_ty4, aq_ty5, Nat.reduceAdd, Nat.reduceLT, Nat.reduceEqDiff, Nat.reduceSub, if_true, if_false, ne_eq, not_false_eq_true, not_true_eq_false, Option.map_some, Option.map_none, Nat.zero_add, reduceCtorEq, Nat.reduceLeDiff, one_ne_zero_a, zero_ne_one_a, aq_nb, aq_nb1, aq_nb0, aq_fb, aq_fb1, aq_fb0, aq_ofN, bB_t, bB_f, bB_v, vpn_b1, vpn_b0, nI_1, Bool.true_eq_false, Bool.false_eq_true, Bool.true_and, Bool.false_and, Bool.and_true, Bool.and_false, h4, O1, a1, vp_in_nI (show c < 144 by omega) (show 144 < 2 ^ 31 by decide), nI_clamp (show c < 2 ^ 31 by omega), hnx, upd_s, ushr16, nI_ne0 hp (show (wyl w ht wx wy cb c).length < 2 ^ 31 by omega), rem16 (nxt (mx c)) hp (show (wyl w ht wx wy cb c).length < 2 ^ 31 by omega), hN]
      rw [h1e]
      have e0 : nI N = nI N - nI (wyk w ht wx wy cb c 0).length := (Int32.sub_zero _).symm
      rw [e0]
      exact two 4 0 rfl mt h1 S1 b1 b2 (fun _ _ => rfl) (fun z => by cases z)
    | succ k ih =>
      intro d hd
      have hd4 : d < 4 := by omega
      have h4 : ¬ (4 : Int32) ≤ nI d := by rw [nI_4]; exact nI_ge hd4 (by omega)
      have hnext := ih (d + 1) (by omega)
      rw [wyk_s] at hnext
      rw [s_X10_pop_4]
      simp only [s_X10_pop_5, s_X10_pop_6, s_X10_pop_9, s_X10_pop_10, s_X10_pop_11, s_X10_pop_12, s_X10_pop_13, aq_gI, aq_gL, aq_gA, aq_isA, aq_s1, aq_s2, aq_kill, aq_ob, aq_sm, aq_arI, aq_arB, aq_isB, aq_arL, aq_arA, aq_arN, aq_sh, Value.category, List.getElem?_cons_zero, List.getElem?_cons_succ, List.length_cons, List.length_nil, Option.toList_some, Option.toList_none, List.cons_append, List.nil_append, true_and, and_true, List.set_cons_zero, List.set_cons_succ, aq_n1, aq_n2, aq_n3, aq_n4, aq_f1, aq_f2, aq_f3, aq_f4, aq_gs, aq_ty1, aq_ty2, aq_ty3, aq_ty4, aq_ty5, Nat.reduceAdd, Nat.reduceLT, Nat.reduceEqDiff, Nat.reduceSub, if_true, if_false, ne_eq, not_false_eq_true, not_true_eq_false, Option.map_some, Option.map_none, Nat.zero_add, reduceCtorEq, Nat.reduceLeDiff, one_ne_zero_a, zero_ne_one_a, aq_nb, aq_nb1, aq_nb0, aq_fb, aq_fb1, aq_fb0, aq_ofN, bB_t, bB_f, bB_v, vpn_b1, vpn_b0, nI_1, Bool.true_eq_false, Bool.false_eq_true, Bool.true_and, Bool.false_and, Bool.and_true, Bool.and_false, h4, O1]
      refine (m_next O G (nI c) (nI d)).use ?_
      rintro _ h0 ⟨rfl, rfl⟩
      rw [NX_in hc (by omega) hd4]
      cases hx : nx w ht wx wy cb c d with
      | none =>
        rw [hx] at hnext
        simp only [Option.isSome_none, Bool.false_eq_true, if_false, List.append_nil] at hnext
        simp only [oI, s_X10_pop_16, s_X10_pop_17, s_X10_pop_24, s_X10_pop_25, s_X10_pop_26, s_X10_pop_27, s_X10_pop_30, aq_gI, aq_gL, aq_gA, aq_isA, aq_s1, aq_s2, aq_kill, aq_ob, aq_sm, aq_arI, aq_arB, aq_isB, aq_arL, aq_arA, aq_arN, aq_sh, Value.category, List.getElem?_cons_zero, List.getElem?_cons_succ, List.length_cons, List.length_nil, Option.toList_some, Option.toList_none, List.cons_append, List.nil_append, true_and, and_true, List.set_cons_zero, List.set_cons_succ, aq_n1, aq_n2, aq_n3, aq_n4, aq_f1, aq_f2, aq_f3, aq_f4, aq_gs, aq_ty1, aq_ty2, aq_ty3, aq_ty4, aq_ty5, Nat.reduceAdd, Nat.reduceLT, Nat.reduceEqDiff, Nat.reduceSub, if_true, if_false, ne_eq, not_false_eq_true, not_true_eq_false, Option.map_some, Option.map_none, Nat.zero_add, reduceCtorEq, Nat.reduceLeDiff, one_ne_zero_a, zero_ne_one_a, aq_nb, aq_nb1, aq_nb0, aq_fb, aq_fb1, aq_fb0, aq_ofN, bB_t, bB_f, bB_v, vpn_b1, vpn_b0, nI_1, Bool.true_eq_false, Bool.false_eq_true, Bool.true_and, Bool.false_and, Bool.and_true, Bool.and_false, n0a]
        exact hnext
      | some m =>
        have hm := nx_lt G.1 hc hd4 hx
        rw [hx] at hnext
        simp only [Option.isSome_some, if_true, List.length_append, List.length_cons, List.length_nil, Nat.zero_add] at hnext
        simp only [oI, s_X10_pop_16, s_X10_pop_17, s_X10_pop_20, s_X10_pop_21, s_X10_pop_25, s_X10_pop_26, s_X10_pop_27, s_X10_pop_30, aq_gI, aq_gL, aq_gA, aq_isA, aq_s1, aq_s2, aq_kill, aq_ob, aq_sm, aq_arI, aq_arB, aq_isB, aq_arL, aq_arA, aq_arN, aq_sh, Value.category, List.getElem?_cons_zero, List.getElem?_cons_succ, List.length_cons, List.length_nil, Option.toList_some, Option.toList_none, List.cons_append, List.nil_append, true_and, and_true, List.set_cons_zero, List.set_cons_succ, aq_n1, aq_n2, aq_n3, aq_n4, aq_f1, aq_f2, aq_f3, aq_f4, aq_gs, aq_ty1, aq_ty2, aq_ty3, aq_ty4, aq_ty5, Nat.reduceAdd, Nat.reduceLT, Nat.reduceEqDiff, Nat.reduceSub, if_true, if_false, ne_eq, not_false_eq_true, not_true_eq_false, Option.map_some, Option.map_none, Nat.zero_add, reduceCtorEq, Nat.reduceLeDiff, one_ne_zero_a, zero_ne_one_a, aq_nb, aq_nb1, aq_nb0, aq_fb, aq_fb1, aq_fb0, aq_ofN, bB_t, bB_f, bB_v, vpn_b1, vpn_b0, nI_1, Bool.true_eq_false, Bool.false_eq_true, Bool.true_and, Bool.false_and, Bool.and_true, Bool.and_false, nI_ne_m1 (show m < 2 ^ 31 by omega)]
        exact hnext
  simp only [s_X10_pop_0, s_X10_pop_1, s_X10_pop_2, s_X10_pop_3, aq_gI, aq_gL, aq_gA, aq_isA, aq_s1, aq_s2, aq_kill, aq_ob, aq_sm, aq_arI, aq_arB, aq_isB, aq_arL, aq_arA, aq_arN, aq_sh, Value.category, List.getElem?_cons_zero, List.getElem?_cons_succ, List.length_cons, List.length_nil, Option.toList_some, Option.toList_none, List.cons_append, List.nil_append, true_and, and_true, List.set_cons_zero, List.set_cons_succ, aq_n1, aq_n2, aq_n3, aq_n4, aq_f1, aq_f2, aq_f3, aq_f4, aq_gs, aq_ty1, aq_ty2, aq_ty3, aq_ty4, aq_ty5, Nat.reduceAdd, Nat.reduceLT, Nat.reduceEqDiff, Nat.reduceSub, if_true, if_false, ne_eq, not_false_eq_true, not_true_eq_false, Option.map_some, Option.map_none, Nat.zero_add, reduceCtorEq, Nat.reduceLeDiff, one_ne_zero_a, zero_ne_one_a, aq_nb, aq_nb1, aq_nb0, aq_fb, aq_fb1, aq_fb0, aq_ofN, bB_t, bB_f, bB_v, vpn_b1, vpn_b0, nI_1, Bool.true_eq_false, Bool.false_eq_true, Bool.true_and, Bool.false_and, Bool.and_true, Bool.and_false]
  exact one 4 0 rfl
theorem m_circle (O : iMo h w ht wr thr th (nI root) ci st ex pl hd sg) (G : gMb h w ht wx wy cb wr mc) (a2 : h[50]? = some (.inl (.int, 144, .inl mt))) (hr : root < w * ht) (hcn : ∀ c, SS w ht cb root c → 0 < (wyl w ht wx wy cb c).length) (gt : ∀ c, SS w ht cb root c → mt c = nI (Tp w ht wx wy cb seed c (p c))) : aq_T e_X10_circle 4 0 0 [.ref 47] h (fun r h' => h' = h ∧ ((r = some (.int (-1)) ∧ ∀ c, SS w ht cb root c → Tr (SS w ht cb root) (Fn w ht wx wy cb seed) root p c) ∨ ∃ a, r = some (.int (nI a)) ∧ SS w ht cb root a ∧ (∃ L, 0 < L ∧ itn (gF (Fn w ht wx wy cb seed) p) L a = a) ∧ ∀ t, SS w ht cb root (itn (gF (Fn w ht wx wy cb seed) p) t a))) := by
  have hn := wh_lt G.1
  have O1 := O
  unfold iMo at O1
  generalize hg : gF (Fn w ht wx wy cb seed) p = g
  refine ⟨Nat.le_of_ble_eq_true rfl, ?_⟩
  show aq_W _ _ 0 [some (.ref 47), none, none, none] [] _ _ _
  have nxt_ok : ∀ x, SS w ht cb root x → NX w ht wx wy cb (nI x) (mt x) = nI (g x) ∧ g x < w * ht ∧ cb (g x) = false := by
    intro x hx
    obtain ⟨t1, t2⟩ := Tp_ok (seed := seed) (t := p x) (hcn x hx)
    have hk := nx_ok G.1.2.1 G.1.2.2.2 hx.1 t1 t2
    rw [gt x hx, NX_in hx.1 (by omega) t1, t2, ← hg]
    exact ⟨rfl, hk.1, hk.2.2.2.1⟩
  have out : ∀ (j c : Nat), c + j = w * ht → (∀ c', c' < c → SS w ht cb root c' → Tr (SS w ht cb root) (Fn w ht wx wy cb seed) root p c') → ∀ (L2 L3 : Option Value), aq_W e_X10_circle (fun r h' => h' = h ∧ ((r = some (.int (-1)) ∧ ∀ c, SS w ht cb root c → Tr (SS w ht cb root) (Fn w ht wx wy cb seed) root p c) ∨ ∃ a, r = some (.int (nI a)) ∧ SS w ht cb root a ∧ (∃ L, 0 < L ∧ itn g L a = a) ∧ ∀ t, SS w ht cb root (itn g t a))) 2 [some (.ref 47), some (.int (nI c)), L2, L3] [] h 0 0 := by
    intro j
    induction j with
    | zero =>
      intro c hc hT L2 L3
      have e : c = w * ht := by omega
      subst e
      rw [s_X10_circle_2]
      simp only [s_X10_circle_3, s_X10_circle_4, s_X10_circle_7, s_X10_circle_96, s_X10_circle_97, aq_gI, aq_gL, aq_gA, aq_isA, aq_s1, aq_s2, aq_kill, aq_ob, aq_sm, aq_arI, aq_arB, aq_isB, aq_arL, aq_arA, aq_arN, aq_sh, Value.category, List.getElem?_cons_zero, List.getElem?_cons_succ, List.length_cons, List.length_nil, Option.toList_some, Option.toList_none, List.cons_append, List.nil_append, true_and, and_true, List.set_cons_zero, List.set_cons_succ, aq_n1, aq_n2, aq_n3, aq_n4, aq_f1, aq_f2, aq_f3, aq_f4, aq_gs, aq_ty1, aq_ty2, aq_ty3, aq_ty4, aq_ty5, Nat.reduceAdd, Nat.reduceLT, Nat.reduceEqDiff, Nat.reduceSub, if_true, if_false, ne_eq, not_false_eq_true, not_true_eq_false, Option.map_some, Option.map_none, Nat.zero_add, reduceCtorEq, Nat.reduceLeDiff, one_ne_zero_a, zero_ne_one_a, aq_nb, aq_nb1, aq_nb0, aq_fb, aq_fb1, aq_fb0, aq_ofN, bB_t, bB_f, bB_v, vpn_b1, vpn_b0, nI_1, Bool.true_eq_false, Bool.false_eq_true, Bool.true_and, Bool.false_and, Bool.and_true, Bool.and_false, O1, nI_le (Nat.le_refl (w * ht)) (show w * ht < 2 ^ 31 by omega)]
      exact Or.inl (fun c hc => hT c hc.1 hc)
    | succ j ih =>
      intro c hc hT L2 L3
      have hc2 : c < w * ht := by omega
      have go : (SS w ht cb root c → Tr (SS w ht cb root) (Fn w ht wx wy cb seed) root p c) → ∀ (L2 L3 : Option Value), aq_W e_X10_circle (fun r h' => h' = h ∧ ((r = some (.int (-1)) ∧ ∀ c, SS w ht cb root c → Tr (SS w ht cb root) (Fn w ht wx wy cb seed) root p c) ∨ ∃ a, r = some (.int (nI a)) ∧ SS w ht cb root a ∧ (∃ L, 0 < L ∧ itn g L a = a) ∧ ∀ t, SS w ht cb root (itn g t a))) 2 [some (.ref 47), some (.int (nI (c + 1))), L2, L3] [] h 0 0 := by
        intro hT2 L2 L3
        refine ih (c + 1) (by omega) (fun c' hc' hs => ?_) L2 L3
        by_cases z : c' = c
        · rw [z] at hs ⊢; exact hT2 hs
        · exact hT c' (by omega) hs
      have none_ : (SS w ht cb root c → Tr (SS w ht cb root) (Fn w ht wx wy cb seed) root p c) → ∀ (k : Nat), aq_W e_X10_circle (fun r h' => h' = h ∧ ((r = some (.int (-1)) ∧ ∀ c, SS w ht cb root c → Tr (SS w ht cb root) (Fn w ht wx wy cb seed) root p c) ∨ ∃ a, r = some (.int (nI a)) ∧ SS w ht cb root a ∧ (∃ L, 0 < L ∧ itn g L a = a) ∧ ∀ t, SS w ht cb root (itn g t a))) 14 [some (.ref 47), some (.int (nI c)), some (.int (-1)), some (.int (nI k))] [] h 0 0 := by
        intro hT2 k
        rw [s_X10_circle_14]
        by_cases q : nI (w * ht) ≤ nI k
        · simp only [s_X10_circle_15, s_X10_circle_16, s_X10_circle_19, s_X10_circle_66, s_X10_circle_67, s_X10_circle_68, s_X10_circle_90, s_X10_circle_93, aq_gI, aq_gL, aq_gA, aq_isA, aq_s1, aq_s2, aq_kill, aq_ob, aq_sm, aq_arI, aq_arB, aq_isB, aq_arL, aq_arA, aq_arN, aq_sh, Value.category, List.getElem?_cons_zero, List.getElem?_cons_succ, List.length_cons, List.length_nil, Option.toList_some, Option.toList_none, List.cons_append, List.nil_append, true_and, and_true, List.set_cons_zero, List.set_cons_succ, aq_n1, aq_n2, aq_n3, aq_n4, aq_f1, aq_f2, aq_f3, aq_f4, aq_gs, aq_ty1, aq_ty2, aq_ty3, aq_ty4, aq_ty5, Nat.reduceAdd, Nat.reduceLT, Nat.reduceEqDiff, Nat.reduceSub, if_true, if_false, ne_eq, not_false_eq_true, not_true_eq_false, Option.map_some, Option.map_none, Nat.zero_add, reduceCtorEq, Nat.reduceLeDiff, one_ne_zero_a, zero_ne_one_a, aq_nb, aq_nb1, aq_nb0, aq_fb, aq_fb1, aq_fb0, aq_ofN, bB_t, bB_f, bB_v, vpn_b1, vpn_b0, nI_1, Bool.true_eq_false, Bool.false_eq_true, Bool.true_and, Bool.false_and, Bool.and_true, Bool.and_false, O1, q]
          exact go hT2 _ _
        · simp only [s_X10_circle_15, s_X10_circle_16, s_X10_circle_19, s_X10_circle_22, s_X10_circle_23, s_X10_circle_24, s_X10_circle_66, s_X10_circle_67, s_X10_circle_68, s_X10_circle_90, s_X10_circle_93, aq_gI, aq_gL, aq_gA, aq_isA, aq_s1, aq_s2, aq_kill, aq_ob, aq_sm, aq_arI, aq_arB, aq_isB, aq_arL, aq_arA, aq_arN, aq_sh, Value.category, List.getElem?_cons_zero, List.getElem?_cons_succ, List.length_cons, List.length_nil, Option.toList_some, Option.toList_none, List.cons_append, List.nil_append, true_and, and_true, List.set_cons_zero, List.set_cons_succ, aq_n1, aq_n2, aq_n3, aq_n4, aq_f1, aq_f2, aq_f3, aq_f4, aq_gs, aq_ty1, aq_ty2, aq_ty3, aq_ty4, aq_ty5, Nat.reduceAdd, Nat.reduceLT, Nat.reduceEqDiff, Nat.reduceSub, if_true, if_false, ne_eq, not_false_eq_true, not_true_eq_false, Option.map_some, Option.map_none, Nat.zero_add, reduceCtorEq, Nat.reduceLeDiff, one_ne_zero_a, zero_ne_one_a, aq_nb, aq_nb1, aq_nb0, aq_fb, aq_fb1, aq_fb0, aq_ofN, bB_t, bB_f, bB_v, vpn_b1, vpn_b0, nI_1, Bool.true_eq_false, Bool.false_eq_true, Bool.true_and, Bool.false_and, Bool.and_true, Bool.and_false, O1, q]
          exact go hT2 _ _
      rw [s_X10_circle_2]
      simp only [s_X10_circle_3, s_X10_circle_4, s_X10_circle_7, s_X10_circle_10, s_X10_circle_11, s_X10_circle_12, s_X10_circle_13, aq_gI, aq_gL, aq_gA, aq_isA, aq_s1, aq_s2, aq_kill, aq_ob, aq_sm, aq_arI, aq_arB, aq_isB, aq_arL, aq_arA, aq_arN, aq_sh, Value.category, List.getElem?_cons_zero, List.getElem?_cons_succ, List.length_cons, List.length_nil, Option.toList_some, Option.toList_none, List.cons_append, List.nil_append, true_and, and_true, List.set_cons_zero, List.set_cons_succ, aq_n1, aq_n2, aq_n3, aq_n4, aq_f1, aq_f2, aq_f3, aq_f4, aq_gs, aq_ty1, aq_ty2, aq_ty3, aq_ty4, aq_ty5, Nat.reduceAdd, Nat.reduceLT, Nat.reduceEqDiff, Nat.reduceSub, if_true, if_false, ne_eq, not_false_eq_true, not_true_eq_false, Option.map_some, Option.map_none, Nat.zero_add, reduceCtorEq, Nat.reduceLeDiff, one_ne_zero_a, zero_ne_one_a, aq_nb, aq_nb1, aq_nb0, aq_fb, aq_fb1, aq_fb0, aq_ofN, bB_t, bB_f, bB_v, vpn_b1, vpn_b0, nI_1, Bool.true_eq_false, Bool.false_eq_true, Bool.true_and, Bool.false_and, Bool.and_true, Bool.and_false, O1, nI_ge hc2 (show w * ht < 2 ^ 31 by omega)]
      cases hcb : cb c with
      | true =>
        rw [s_X10_circle_14]
        simp only [s_X10_circle_15, s_X10_circle_16, s_X10_circle_19, s_X10_circle_22, s_X10_circle_23, s_X10_circle_24, s_X10_circle_27, s_X10_circle_28, s_X10_circle_31, s_X10_circle_32, s_X10_circle_33, s_X10_circle_44, s_X10_circle_45, s_X10_circle_59, s_X10_circle_60, s_X10_circle_63, aq_gI, aq_gL, aq_gA, aq_isA, aq_s1, aq_s2, aq_kill, aq_ob, aq_sm, aq_arI, aq_arB, aq_isB, aq_arL, aq_arA, aq_arN, aq_sh, Value.category, List.getElem?_cons_zero, List.getElem?_cons_succ, List.length_cons, List.length_nil, Option.toList_some, Option.toList_none, List.cons_append, List.nil_append, true_and, and_true, List.set_cons_zero, List.set_cons_succ, aq_n1, aq_n2, aq_n3, aq_n4, aq_f1, aq_f2, aq_f3, aq_f4, aq_gs, aq_ty1, aq_ty2, aq_ty3, aq_ty4, aq_ty5, Nat.reduceAdd, Nat.reduceLT, Nat.reduceEqDiff, Nat.reduceSub, if_true, if_false, ne_eq, not_false_eq_true, not_true_eq_false, Option.map_some, Option.map_none, Nat.zero_add, reduceCtorEq, Nat.reduceLeDiff, one_ne_zero_a, zero_ne_one_a, aq_nb, aq_nb1, aq_nb0, aq_fb, aq_fb1, aq_fb0, aq_ofN, bB_t, bB_f, bB_v, vpn_b1, vpn_b0, nI_1, Bool.true_eq_false, Bool.false_eq_true, Bool.true_and, Bool.false_and, Bool.and_true, Bool.and_false, O1, show ¬ nI (w * ht) ≤ 0 from nI_nle hn.1 (by omega), nI_ne_m1 (show c < 2 ^ 31 by omega), G.2.2.1, vp_in_nI (show c < 144 by omega) (show 144 < 2 ^ 31 by decide), nI_clamp (show c < 2 ^ 31 by omega), G.2.2.2 c hc2, hcb]
        exact none_ (fun hs => by have := hs.2.1; rw [hcb] at this; cases this) 1
      | false =>
        have inn : ∀ (j k : Nat), k + j = w * ht → (∀ i, i < k → SS w ht cb root (itn g i c)) → itn g k c < w * ht → cb (itn g k c) = false → aq_W e_X10_circle (fun r h' => h' = h ∧ ((r = some (.int (-1)) ∧ ∀ c, SS w ht cb root c → Tr (SS w ht cb root) (Fn w ht wx wy cb seed) root p c) ∨ ∃ a, r = some (.int (nI a)) ∧ SS w ht cb root a ∧ (∃ L, 0 < L ∧ itn g L a = a) ∧ ∀ t, SS w ht cb root (itn g t a))) 14 [some (.ref 47), some (.int (nI c)), some (.int (nI (itn g k c))), some (.int (nI k))] [] h 0 0 := by
          intro j
          induction j with
          | zero =>
            intro k hk hS hl hb
            have e : k = w * ht := by omega
            rw [s_X10_circle_14]
            simp only [s_X10_circle_15, s_X10_circle_16, s_X10_circle_19, s_X10_circle_66, s_X10_circle_67, s_X10_circle_68, s_X10_circle_71, s_X10_circle_72, s_X10_circle_75, s_X10_circle_76, s_X10_circle_77, aq_gI, aq_gL, aq_gA, aq_isA, aq_s1, aq_s2, aq_kill, aq_ob, aq_sm, aq_arI, aq_arB, aq_isB, aq_arL, aq_arA, aq_arN, aq_sh, Value.category, List.getElem?_cons_zero, List.getElem?_cons_succ, List.length_cons, List.length_nil, Option.toList_some, Option.toList_none, List.cons_append, List.nil_append, true_and, and_true, List.set_cons_zero, List.set_cons_succ, aq_n1, aq_n2, aq_n3, aq_n4, aq_f1, aq_f2, aq_f3, aq_f4, aq_gs, aq_ty1, aq_ty2, aq_ty3, aq_ty4, aq_ty5, Nat.reduceAdd, Nat.reduceLT, Nat.reduceEqDiff, Nat.reduceSub, if_true, if_false, ne_eq, not_false_eq_true, not_true_eq_false, Option.map_some, Option.map_none, Nat.zero_add, reduceCtorEq, Nat.reduceLeDiff, one_ne_zero_a, zero_ne_one_a, aq_nb, aq_nb1, aq_nb0, aq_fb, aq_fb1, aq_fb0, aq_ofN, bB_t, bB_f, bB_v, vpn_b1, vpn_b0, nI_1, Bool.true_eq_false, Bool.false_eq_true, Bool.true_and, Bool.false_and, Bool.and_true, Bool.and_false, O1, nI_le (show w * ht ≤ k by omega) (show k < 2 ^ 31 by omega), nI_ne_m1 (show itn g k c < 2 ^ 31 by omega), G.2.2.1, vp_in_nI (show itn g k c < 144 by omega) (show 144 < 2 ^ 31 by decide), nI_clamp (show itn g k c < 2 ^ 31 by omega), G.2.2.2 _ hl, hb]
            have hq := nI_eq (a := itn g k c) (b := root) (by omega) (by omega)
            by_cases er : itn g k c = root
            · simp only [s_X10_circle_80, s_X10_circle_81, s_X10_circle_82, s_X10_circle_85, s_X10_circle_90, s_X10_circle_93, aq_gI, aq_gL, aq_gA, aq_isA, aq_s1, aq_s2, aq_kill, aq_ob, aq_sm, aq_arI, aq_arB, aq_isB, aq_arL, aq_arA, aq_arN, aq_sh, Value.category, List.getElem?_cons_zero, List.getElem?_cons_succ, List.length_cons, List.length_nil, Option.toList_some, Option.toList_none, List.cons_append, List.nil_append, true_and, and_true, List.set_cons_zero, List.set_cons_succ, aq_n1, aq_n2, aq_n3, aq_n4, aq_f1, aq_f2, aq_f3, aq_f4, aq_gs, aq_ty1, aq_ty2, aq_ty3, aq_ty4, aq_ty5, Nat.reduceAdd, Nat.reduceLT, Nat.reduceEqDiff, Nat.reduceSub, if_true, if_false, ne_eq, not_false_eq_true, not_true_eq_false, Option.map_some, Option.map_none, Nat.zero_add, reduceCtorEq, Nat.reduceLeDiff, one_ne_zero_a, zero_ne_one_a, aq_nb, aq_nb1, aq_nb0, aq_fb, aq_fb1, aq_fb0, aq_ofN, bB_t, bB_f, bB_v, vpn_b1, vpn_b0, nI_1, Bool.true_eq_false, Bool.false_eq_true, Bool.true_and, Bool.false_and, Bool.and_true, Bool.and_false, O1, hq.mpr er]
              refine go (fun hs => ?_) _ _
              rw [← hg] at hS er
              refine Tr_path k c hS ?_
              rw [er]
              exact Tr.rt
            · have er' : ¬ nI (itn g k c) = nI root := fun z => er (hq.mp z)
              simp only [s_X10_circle_80, s_X10_circle_81, s_X10_circle_82, s_X10_circle_85, s_X10_circle_88, s_X10_circle_89, aq_gI, aq_gL, aq_gA, aq_isA, aq_s1, aq_s2, aq_kill, aq_ob, aq_sm, aq_arI, aq_arB, aq_isB, aq_arL, aq_arA, aq_arN, aq_sh, Value.category, List.getElem?_cons_zero, List.getElem?_cons_succ, List.length_cons, List.length_nil, Option.toList_some, Option.toList_none, List.cons_append, List.nil_append, true_and, and_true, List.set_cons_zero, List.set_cons_succ, aq_n1, aq_n2, aq_n3, aq_n4, aq_f1, aq_f2, aq_f3, aq_f4, aq_gs, aq_ty1, aq_ty2, aq_ty3, aq_ty4, aq_ty5, Nat.reduceAdd, Nat.reduceLT, Nat.reduceEqDiff, Nat.reduceSub, if_true, if_false, ne_eq, not_false_eq_true, not_true_eq_false, Option.map_some, Option.map_none, Nat.zero_add, reduceCtorEq, Nat.reduceLeDiff, one_ne_zero_a, zero_ne_one_a, aq_nb, aq_nb1, aq_nb0, aq_fb, aq_fb1, aq_fb0, aq_ofN, bB_t, bB_f, bB_v, vpn_b1, vpn_b0, nI_1, Bool.true_eq_false, Bool.false_eq_true, Bool.true_and, Bool.false_and, Bool.and_true, Bool.and_false, O1, er']
              have hall : ∀ i, i ≤ w * ht → SS w ht cb root (itn g i c) := by
                intro i hi
                by_cases z : i = k
                · rw [z]; exact ⟨hl, hb, er⟩
                · exact hS i (by omega)
              obtain ⟨y1, y2⟩ := on_cyc2 (S := SS w ht cb root) (g := g) (n := w * ht) (c := c) (fun x hx => hx.1) hall
              rw [← e] at y1 y2
              exact Or.inr ⟨itn g k c, rfl, ⟨hl, hb, er⟩, y1, y2⟩
          | succ j ih2 =>
            intro k hk hS hl hb
            have hq := nI_eq (a := itn g k c) (b := root) (by omega) (by omega)
            rw [s_X10_circle_14]
            by_cases er : itn g k c = root
            · simp only [s_X10_circle_15, s_X10_circle_16, s_X10_circle_19, s_X10_circle_22, s_X10_circle_23, s_X10_circle_24, s_X10_circle_27, s_X10_circle_28, s_X10_circle_31, s_X10_circle_32, s_X10_circle_33, s_X10_circle_36, s_X10_circle_37, s_X10_circle_38, s_X10_circle_41, s_X10_circle_44, s_X10_circle_45, s_X10_circle_59, s_X10_circle_60, s_X10_circle_63, aq_gI, aq_gL, aq_gA, aq_isA, aq_s1, aq_s2, aq_kill, aq_ob, aq_sm, aq_arI, aq_arB, aq_isB, aq_arL, aq_arA, aq_arN, aq_sh, Value.category, List.getElem?_cons_zero, List.getElem?_cons_succ, List.length_cons, List.length_nil, Option.toList_some, Option.toList_none, List.cons_append, List.nil_append, true_and, and_true, List.set_cons_zero, List.set_cons_succ, aq_n1, aq_n2, aq_n3, aq_n4, aq_f1, aq_f2, aq_f3, aq_f4, aq_gs, aq_ty1, aq_ty2, aq_ty3, aq_ty4, aq_ty5, Nat.reduceAdd, Nat.reduceLT, Nat.reduceEqDiff, Nat.reduceSub, if_true, if_false, ne_eq, not_false_eq_true, not_true_eq_false, Option.map_some, Option.map_none, Nat.zero_add, reduceCtorEq, Nat.reduceLeDiff, one_ne_zero_a, zero_ne_one_a, aq_nb, aq_nb1, aq_nb0, aq_fb, aq_fb1, aq_fb0, aq_ofN, bB_t, bB_f, bB_v, vpn_b1, vpn_b0, nI_1, Bool.true_eq_false, Bool.false_eq_true, Bool.true_and, Bool.false_and, Bool.and_true, Bool.and_false, O1, nI_ge (show k < w * ht by omega) (show w * ht < 2 ^ 31 by omega), nI_ne_m1 (show itn g k c < 2 ^ 31 by omega), G.2.2.1, vp_in_nI (show itn g k c < 144 by omega) (show 144 < 2 ^ 31 by decide), nI_clamp (show itn g k c < 2 ^ 31 by omega), G.2.2.2 _ hl, hb, hq.mpr er, nI_ne_m1 (show root < 2 ^ 31 by omega), vp_in_nI (show root < 144 by omega) (show 144 < 2 ^ 31 by decide), nI_clamp (show root < 2 ^ 31 by omega), G.2.2.2 _ hr, show cb root = false by rw [← er]; exact hb]
              refine none_ (fun hs => ?_) (k + 1)
              rw [← hg] at hS er
              refine Tr_path k c hS ?_
              rw [er]
              exact Tr.rt
            · have er' : ¬ nI (itn g k c) = nI root := fun z => er (hq.mp z)
              obtain ⟨y1, y2, y3⟩ := nxt_ok (itn g k c) ⟨hl, hb, er⟩
              simp only [s_X10_circle_15, s_X10_circle_16, s_X10_circle_19, s_X10_circle_22, s_X10_circle_23, s_X10_circle_24, s_X10_circle_27, s_X10_circle_28, s_X10_circle_31, s_X10_circle_32, s_X10_circle_33, s_X10_circle_36, s_X10_circle_37, s_X10_circle_38, s_X10_circle_41, s_X10_circle_48, s_X10_circle_49, s_X10_circle_50, s_X10_circle_51, s_X10_circle_54, s_X10_circle_55, s_X10_circle_56, aq_gI, aq_gL, aq_gA, aq_isA, aq_s1, aq_s2, aq_kill, aq_ob, aq_sm, aq_arI, aq_arB, aq_isB, aq_arL, aq_arA, aq_arN, aq_sh, Value.category, List.getElem?_cons_zero, List.getElem?_cons_succ, List.length_cons, List.length_nil, Option.toList_some, Option.toList_none, List.cons_append, List.nil_append, true_and, and_true, List.set_cons_zero, List.set_cons_succ, aq_n1, aq_n2, aq_n3, aq_n4, aq_f1, aq_f2, aq_f3, aq_f4, aq_gs, aq_ty1, aq_ty2, aq_ty3, aq_ty4, aq_ty5, Nat.reduceAdd, Nat.reduceLT, Nat.reduceEqDiff, Nat.reduceSub, if_true, if_false, ne_eq, not_false_eq_true, not_true_eq_false, Option.map_some, Option.map_none, Nat.zero_add, reduceCtorEq, Nat.reduceLeDiff, one_ne_zero_a, zero_ne_one_a, aq_nb, aq_nb1, aq_nb0, aq_fb, aq_fb1, aq_fb0, aq_ofN, bB_t, bB_f, bB_v, vpn_b1, vpn_b0, nI_1, Bool.true_eq_false, Bool.false_eq_true, Bool.true_and, Bool.false_and, Bool.and_true, Bool.and_false, O1, nI_ge (show k < w * ht by omega) (show w * ht < 2 ^ 31 by omega), nI_ne_m1 (show itn g k c < 2 ^ 31 by omega), G.2.2.1, a2, vp_in_nI (show itn g k c < 144 by omega) (show 144 < 2 ^ 31 by decide), nI_clamp (show itn g k c < 2 ^ 31 by omega), G.2.2.2 _ hl, hb, er']
              refine (m_next O G (nI (itn g k c)) (mt (itn g k c))).use ?_
              rintro _ h ⟨rfl, rfl⟩
              rw [y1, ← itn_s g k c]
              rw [← itn_s g k c] at y2 y3
              simp only [s_X10_circle_59, s_X10_circle_60, s_X10_circle_63, aq_gI, aq_gL, aq_gA, aq_isA, aq_s1, aq_s2, aq_kill, aq_ob, aq_sm, aq_arI, aq_arB, aq_isB, aq_arL, aq_arA, aq_arN, aq_sh, Value.category, List.getElem?_cons_zero, List.getElem?_cons_succ, List.length_cons, List.length_nil, Option.toList_some, Option.toList_none, List.cons_append, List.nil_append, true_and, and_true, List.set_cons_zero, List.set_cons_succ, aq_n1, aq_n2, aq_n3, aq_n4, aq_f1, aq_f2, aq_f3, aq_f4, aq_gs, aq_ty1, aq_ty2, aq_ty3, aq_ty4, aq_ty5, Nat.reduceAdd, Nat.reduceLT, Nat.reduceEqDiff, Nat.reduceSub, if_true, if_false, ne_eq, not_false_eq_true, not_true_eq_false, Option.map_some, Option.map_none, Nat.zero_add, reduceCtorEq, Nat.reduceLeDiff, one_ne_zero_a, zero_ne_one_a, aq_nb, aq_nb1, aq_nb0, aq_fb, aq_fb1, aq_fb0, aq_ofN, bB_t, bB_f, bB_v, vpn_b1, vpn_b0, nI_1, Bool.true_eq_false, Bool.false_eq_true, Bool.true_and, Bool.false_and, Bool.and_true, Bool.and_false]
              refine ih2 (k + 1) (by omega) (fun i hi => ?_) y2 y3
              by_cases z : i = k
              · rw [z]; exact ⟨hl, hb, er⟩
              · exact hS i (by omega)
        exact inn (w * ht) 0 (Nat.zero_add _) (fun i hi => by omega) hc2 hcb
  simp only [s_X10_circle_0, s_X10_circle_1, aq_gI, aq_gL, aq_gA, aq_isA, aq_s1, aq_s2, aq_kill, aq_ob, aq_sm, aq_arI, aq_arB, aq_isB, aq_arL, aq_arA, aq_arN, aq_sh, Value.category, List.getElem?_cons_zero, List.getElem?_cons_succ, List.length_cons, List.length_nil, Option.toList_some, Option.toList_none, List.cons_append, List.nil_append, true_and, and_true, List.set_cons_zero, List.set_cons_succ, aq_n1, aq_n2, aq_n3, aq_n4, aq_f1, aq_f2, aq_f3, aq_f4, aq_gs, aq_ty1, aq_ty2, aq_ty3, aq_ty4, aq_ty5, Nat.reduceAdd, Nat.reduceLT, Nat.reduceEqDiff, Nat.reduceSub, if_true, if_false, ne_eq, not_false_eq_true, not_true_eq_false, Option.map_some, Option.map_none, Nat.zero_add, reduceCtorEq, Nat.reduceLeDiff, one_ne_zero_a, zero_ne_one_a, aq_nb, aq_nb1, aq_nb0, aq_fb, aq_fb1, aq_fb0, aq_ofN, bB_t, bB_f, bB_v, vpn_b1, vpn_b0, nI_1, Bool.true_eq_false, Bool.false_eq_true, Bool.true_and, Bool.false_and, Bool.and_true, Bool.and_false]
  exact out (w * ht) 0 (Nat.zero_add _) (fun c' hc' => by omega) none none
end MCI
