-- dep 62.base2 63.ops 65.num2 66.flood 67.kp 68.place 70.mdl 71.mdl2 72.mdl3 80.cyc 81.lay 82.pop 83.join 84.make 85.sweep 86.mcirc 87.mmake
/-! the model's make, to its end -/
theorem vpn_bm1 : vp_nar .byte (-1) = -1 := by
  have := pk_vb (-1)
  rwa [show (-1 : Int32).toInt8.toInt32 = -1 by decide] at this
theorem fs_none (p : Nat) : fs (fun _ => (none : Option Nat)) p none = fun _ => none := by
  funext q
  by_cases z : q = p
  · rw [z, fs_s]
  · rw [fs_n _ _ z]
section MM2
variable {h h' : aq_H} {w ht root : Nat} {wx wy hm : Bool} {cb : Nat → Bool} {seed : Int32} {p : Nat → Nat} {D : drT} {Z : mzT} {P : plT} {wr thr th rt ci st ex pl hd sg : Int32} {mc mx mt mp mo md mw mk mr pc fa go : Nat → Int32} {tb : Nat → Int64} {ob : Nat → Bool} {dr on ky : Nat → Option Nat}
theorem mk_end {Q : Option Value → aq_H → Prop} {h0 : aq_H} {x0 x1 : Int32} {k : Nat} (hr : root < w * ht) (hb : cb root = false) (hcn : ∀ c, SS w ht cb root c → 0 < (wyl w ht wx wy cb c).length) (hQ : ∀ h', sm 47 60 h0 h' → MDL h' w ht wx wy cb true (nD w ht wx wy cb seed root p k) (nZ w ht wx wy cb seed root p) (root, 0, 0) → Q (some (.int 1)) h') {h2 : aq_H} {L3 L4 L5 L6 : Option Value} (T : MKS h0 h2 w ht wx wy cb seed root k p) : aq_W e_X10_make Q 197 [some (.ref 47), some (.int x0), some (.int x1), L3, L4, L5, L6] [] h2 0 0 := by
  obtain ⟨S, wr, st, ex, pl, hd, sg, mc, mx, mt, mp, mo, md, mw, mk, mr, tb, pc, fa, go, O, G, A, g⟩ := T
  have hn := wh_lt G.1
  -- the keys
  have three : ∀ (j i : Nat), i + j = 4 → ∀ (h2 : aq_H) (mo md mw mk : Nat → Int32), sm 47 60 h0 h2 → iMo h2 w ht wr 0 0 (nI root) (nI k) st ex pl hd sg → gMb h2 w ht wx wy cb wr mc → iAr h2 mx mt mp mo md mw mk mr tb pc fa go → gMm w ht wx wy cb (obf w ht wx wy cb seed root p (w * ht)) (fun _ => none) (fun _ => none) mo md mw → (∀ i', i' < i → mk i' = -1) → aq_W e_X10_make Q 280 [some (.ref 47), some (.int x0), some (.int x1), some (.int (nI i)), L4, L5, L6] [] h2 0 0 := by
    intro j
    induction j with
    | zero =>
      intro i hi h2 mo md mw mk S O G A gm hk
      have e : i = 4 := by omega
      subst e
      have h4 : (4 : Int32) ≤ nI 4 := by decide
      have O1 := O
      unfold iMo at O1
      rw [s_X10_make_280]
      simp only [s_X10_make_281, s_X10_make_282, s_X10_make_298, s_X10_make_299, s_X10_make_300, s_X10_make_303, s_X10_make_304, s_X10_make_305, s_X10_make_308, s_X10_make_311, s_X10_make_312, s_X10_make_313, s_X10_make_316, s_X10_make_317, aq_gI, aq_gL, aq_gA, aq_isA, aq_s1, aq_s2, aq_kill, aq_ob, aq_sm, aq_arI, aq_arB, aq_isB, aq_arL, aq_arA, aq_arN, aq_sh, Value.category, List.getElem?_cons_zero, List.getElem?_cons_succ, List.length_cons, List.length_nil, Option.toList_some, Option.toList_none, List.cons_append, List.nil_append, true_and, and_true, List.set_cons_zero, List.set_cons_succ, aq_n1, aq_n2, aq_n3, aq_n4, aq_f1, aq_f2, aq_f3, aq_f4, aq_gs, aq_ty1, aq_ty2, aq_ty3, aq_ty4, aq_ty5, Nat.reduceAdd, Nat.reduceLT, Nat.reduceEqDiff, Nat.reduceSub, if_true, if_false, ne_eq, not_false_eq_true, not_true_eq_false, Option.map_some, Option.map_none, Nat.zero_add, reduceCtorEq, Nat.reduceLeDiff, one_ne_zero_a, zero_ne_one_a, aq_nb, aq_nb1, aq_nb0, aq_fb, aq_fb1, aq_fb0, aq_ofN, bB_t, bB_f, bB_v, vpn_b1, vpn_b0, nI_1, Bool.true_eq_false, Bool.false_eq_true, Bool.true_and, Bool.false_and, Bool.and_true, Bool.and_false, h4, O1, List.set_set]
      have O2 := O.st 1 wr 0 (nI root) (nI k) (nI root) (-1) pl hd sg
      have A2 := A.s48 (mOb w ht wr 0 1 (nI root) (nI k) (nI root) (-1) pl hd sg)
      have G2 := G.s48 (mOb w ht wr 0 1 (nI root) (nI k) (nI root) (-1) pl hd sg)
      have S2 := smx 47 (by decide) (by decide) h2 (mOb w ht wr 0 1 (nI root) (nI k) (nI root) (-1) pl hd sg)
      rw [show (Sum.inr (10, _) : aq_E) = mOb w ht wr 0 1 (nI root) (nI k) (nI root) (-1) pl hd sg from rfl]
      generalize h2.set 47 (mOb w ht wr 0 1 (nI root) (nI k) (nI root) (-1) pl hd sg) = h3 at O2 A2 G2 S2 ⊢
      refine (m_rest O2 A2).use ?_
      rintro _ h4 ⟨rfl, rfl⟩
      simp only [s_X10_make_320, s_X10_make_321, aq_gI, aq_gL, aq_gA, aq_isA, aq_s1, aq_s2, aq_kill, aq_ob, aq_sm, aq_arI, aq_arB, aq_isB, aq_arL, aq_arA, aq_arN, aq_sh, Value.category, List.getElem?_cons_zero, List.getElem?_cons_succ, List.length_cons, List.length_nil, Option.toList_some, Option.toList_none, List.cons_append, List.nil_append, true_and, and_true, List.set_cons_zero, List.set_cons_succ, aq_n1, aq_n2, aq_n3, aq_n4, aq_f1, aq_f2, aq_f3, aq_f4, aq_gs, aq_ty1, aq_ty2, aq_ty3, aq_ty4, aq_ty5, Nat.reduceAdd, Nat.reduceLT, Nat.reduceEqDiff, Nat.reduceSub, if_true, if_false, ne_eq, not_false_eq_true, not_true_eq_false, Option.map_some, Option.map_none, Nat.zero_add, reduceCtorEq, Nat.reduceLeDiff, one_ne_zero_a, zero_ne_one_a, aq_nb, aq_nb1, aq_nb0, aq_fb, aq_fb1, aq_fb0, aq_ofN, bB_t, bB_f, bB_v, vpn_b1, vpn_b0, nI_1, Bool.true_eq_false, Bool.false_eq_true, Bool.true_and, Bool.false_and, Bool.and_true, Bool.and_false]
      have hk0 : km mk (nI root) = 0 := by
        unfold km
        have : ∀ k, k < 4 → ¬ mk k = nI root := fun k hk4 z => nI_ne_m1 (show root < 2 ^ 31 by omega) (by rw [← z, hk k hk4])
        simp only [this 0 (by decide), this 1 (by decide), this 2 (by decide), this 3 (by decide), if_false]
      rw [hk0]
      have S3 := smx 47 (by decide) (by decide) h3 (mOb w ht wr 0 1 (nI root) (nI k) (nI root) (-1) (nI root) (nI 0) 0)
      refine hQ _ ((S.tr S2).tr S3) (MDL_mk (hm := true) (O2.st 1 wr 0 (nI root) (nI k) (nI root) (-1) (nI root) (nI 0) 0) (G2.s48 _) (A2.s48 _) (fun _ => ⟨⟨fun c hc hcb => ⟨g.2 c hc hcb, fun hne => ?_⟩, ?_, hr, rfl, rfl⟩, gm, fun i hi => hk i hi, ⟨rfl, rfl, rfl, rfl, rfl⟩, ⟨fun q y hq e => (by cases e), fun q y hq e => (by cases e)⟩, ⟨hr, hb⟩, fun e he => (by cases he), fun k c hk he => (by cases he), ⟨hr, hb⟩, (by decide : 0 < 16)⟩))
      · rw [(g.1 c ⟨hc, hcb, hne⟩).2]
        have hne' : ¬ c = root := hne
        simp only [nD, hne', if_false, oI]
      · simp only [nD, if_true]
    | succ j ih =>
      intro i hi h2 mo md mw mk S O G A gm hk
      have h4 : ¬ (4 : Int32) ≤ nI i := by rw [nI_4]; exact nI_ge (by omega) (by omega)
      have O1 := O
      unfold iMo at O1
      have S2 := sm1 55 h2 (.inl (.int, 4, .inl (upd mk i (-1))))
      rw [s_X10_make_280]
      simp only [s_X10_make_281, s_X10_make_282, s_X10_make_285, s_X10_make_286, s_X10_make_289, s_X10_make_290, s_X10_make_291, s_X10_make_292, s_X10_make_295, aq_gI, aq_gL, aq_gA, aq_isA, aq_s1, aq_s2, aq_kill, aq_ob, aq_sm, aq_arI, aq_arB, aq_isB, aq_arL, aq_arA, aq_arN, aq_sh, Value.category, List.getElem?_cons_zero, List.getElem?_cons_succ, List.length_cons, List.length_nil, Option.toList_some, Option.toList_none, List.cons_append, List.nil_append, true_and, and_true, List.set_cons_zero, List.set_cons_succ, aq_n1, aq_n2, aq_n3, aq_n4, aq_f1, aq_f2, aq_f3, aq_f4, aq_gs, aq_ty1, aq_ty2, aq_ty3, aq_ty4, aq_ty5, Nat.reduceAdd, Nat.reduceLT, Nat.reduceEqDiff, Nat.reduceSub, if_true, if_false, ne_eq, not_false_eq_true, not_true_eq_false, Option.map_some, Option.map_none, Nat.zero_add, reduceCtorEq, Nat.reduceLeDiff, one_ne_zero_a, zero_ne_one_a, aq_nb, aq_nb1, aq_nb0, aq_fb, aq_fb1, aq_fb0, aq_ofN, bB_t, bB_f, bB_v, vpn_b1, vpn_b0, nI_1, Bool.true_eq_false, Bool.false_eq_true, Bool.true_and, Bool.false_and, Bool.and_true, Bool.and_false, h4, O1, A.2.2.2.2.2.2.1, vp_in_nI (show i < 4 by omega) (show 4 < 2 ^ 31 by decide), nI_clamp (show i < 2 ^ 31 by omega)]
      refine ih (i + 1) (by omega) _ mo md mw (upd mk i (-1)) (S.tr (S2.mo (by decide) (by decide))) (O.sm S2 (by decide)) (G.sm S2 (by decide)) (A.s56 _) gm (fun i' hi' => ?_)
      by_cases z : i' = i
      · rw [z, upd_s]
      · rw [upd_n _ _ z]; exact hk i' (by omega)
  -- the tree's passages
  have two : ∀ (j c : Nat), c + j = w * ht → ∀ (h2 : aq_H) (mo md mw : Nat → Int32), sm 47 60 h0 h2 → iMo h2 w ht wr 0 0 (nI root) (nI k) st ex pl hd sg → gMb h2 w ht wx wy cb wr mc → iAr h2 mx mt mp mo md mw mk mr tb pc fa go → gMm w ht wx wy cb (obf w ht wx wy cb seed root p c) (fun _ => none) (fun _ => none) mo md mw → aq_W e_X10_make Q 235 [some (.ref 47), some (.int x0), some (.int x1), some (.int (nI c)), L4, L5, L6] [] h2 0 0 := by
    intro j
    induction j with
    | zero =>
      intro c hc h2 mo md mw S O G A gm
      have e : c = w * ht := by omega
      subst e
      have O1 := O
      unfold iMo at O1
      rw [s_X10_make_235]
      simp only [s_X10_make_236, s_X10_make_237, s_X10_make_240, s_X10_make_278, s_X10_make_279, aq_gI, aq_gL, aq_gA, aq_isA, aq_s1, aq_s2, aq_kill, aq_ob, aq_sm, aq_arI, aq_arB, aq_isB, aq_arL, aq_arA, aq_arN, aq_sh, Value.category, List.getElem?_cons_zero, List.getElem?_cons_succ, List.length_cons, List.length_nil, Option.toList_some, Option.toList_none, List.cons_append, List.nil_append, true_and, and_true, List.set_cons_zero, List.set_cons_succ, aq_n1, aq_n2, aq_n3, aq_n4, aq_f1, aq_f2, aq_f3, aq_f4, aq_gs, aq_ty1, aq_ty2, aq_ty3, aq_ty4, aq_ty5, Nat.reduceAdd, Nat.reduceLT, Nat.reduceEqDiff, Nat.reduceSub, if_true, if_false, ne_eq, not_false_eq_true, not_true_eq_false, Option.map_some, Option.map_none, Nat.zero_add, reduceCtorEq, Nat.reduceLeDiff, one_ne_zero_a, zero_ne_one_a, aq_nb, aq_nb1, aq_nb0, aq_fb, aq_fb1, aq_fb0, aq_ofN, bB_t, bB_f, bB_v, vpn_b1, vpn_b0, nI_1, Bool.true_eq_false, Bool.false_eq_true, Bool.true_and, Bool.false_and, Bool.and_true, Bool.and_false, O1, nI_le (Nat.le_refl (w * ht)) (show w * ht < 2 ^ 31 by omega)]
      exact three 4 0 rfl h2 mo md mw mk S O G A gm (fun i hi => by omega)
    | succ j ih =>
      intro c hc h2 mo md mw S O G A gm
      have hc2 : c < w * ht := by omega
      have O1 := O
      unfold iMo at O1
      have hq := nI_eq (a := c) (b := root) (by omega) (by omega)
      rw [s_X10_make_235]
      by_cases hs : cb c = false ∧ c ≠ root
      · have hS : SS w ht cb root c := ⟨hc2, hs.1, hs.2⟩
        obtain ⟨t1, t2⟩ := Tp_ok (seed := seed) (t := p c) (hcn c hS)
        have er' : ¬ nI c = nI root := fun z => hs.2 (hq.mp z)
        have hob : obf w ht wx wy cb seed root p (c + 1) = fs (obf w ht wx wy cb seed root p c) (pn c (Tp w ht wx wy cb seed c (p c)) (Fn w ht wx wy cb seed c (p c))) true := if_pos hs
        have gm2 := gMm_open G.1 gm hc2 t1 t2 true
        rw [← hob, fs_none] at gm2
        simp only [s_X10_make_236, s_X10_make_237, s_X10_make_240, s_X10_make_243, s_X10_make_244, s_X10_make_247, s_X10_make_248, s_X10_make_249, s_X10_make_252, s_X10_make_253, s_X10_make_254, s_X10_make_257, s_X10_make_260, s_X10_make_261, s_X10_make_262, s_X10_make_263, s_X10_make_266, s_X10_make_267, s_X10_make_268, s_X10_make_269, aq_gI, aq_gL, aq_gA, aq_isA, aq_s1, aq_s2, aq_kill, aq_ob, aq_sm, aq_arI, aq_arB, aq_isB, aq_arL, aq_arA, aq_arN, aq_sh, Value.category, List.getElem?_cons_zero, List.getElem?_cons_succ, List.length_cons, List.length_nil, Option.toList_some, Option.toList_none, List.cons_append, List.nil_append, true_and, and_true, List.set_cons_zero, List.set_cons_succ, aq_n1, aq_n2, aq_n3, aq_n4, aq_f1, aq_f2, aq_f3, aq_f4, aq_gs, aq_ty1, aq_ty2, aq_ty3, aq_ty4, aq_ty5, Nat.reduceAdd, Nat.reduceLT, Nat.reduceEqDiff, Nat.reduceSub, if_true, if_false, ne_eq, not_false_eq_true, not_true_eq_false, Option.map_some, Option.map_none, Nat.zero_add, reduceCtorEq, Nat.reduceLeDiff, one_ne_zero_a, zero_ne_one_a, aq_nb, aq_nb1, aq_nb0, aq_fb, aq_fb1, aq_fb0, aq_ofN, bB_t, bB_f, bB_v, vpn_b1, vpn_b0, nI_1, Bool.true_eq_false, Bool.false_eq_true, Bool.true_and, Bool.false_and, Bool.and_true, Bool.and_false, O1, nI_ge hc2 (show w * ht < 2 ^ 31 by omega), G.2.2.1, A.2.1, vp_in_nI (show c < 144 by omega) (show 144 < 2 ^ 31 by decide), nI_clamp (show c < 2 ^ 31 by omega), G.2.2.2 c hc2, hs.1, er', (g.1 c hS).2]
        refine (m_set O G A.2.2.2.1 A.2.2.2.2.1 A.2.2.2.2.2.1 hc2 t1 t2 true).use ?_
        rintro _ h3 ⟨rfl, rfl⟩
        simp only [s_X10_make_272, s_X10_make_275, aq_gI, aq_gL, aq_gA, aq_isA, aq_s1, aq_s2, aq_kill, aq_ob, aq_sm, aq_arI, aq_arB, aq_isB, aq_arL, aq_arA, aq_arN, aq_sh, Value.category, List.getElem?_cons_zero, List.getElem?_cons_succ, List.length_cons, List.length_nil, Option.toList_some, Option.toList_none, List.cons_append, List.nil_append, true_and, and_true, List.set_cons_zero, List.set_cons_succ, aq_n1, aq_n2, aq_n3, aq_n4, aq_f1, aq_f2, aq_f3, aq_f4, aq_gs, aq_ty1, aq_ty2, aq_ty3, aq_ty4, aq_ty5, Nat.reduceAdd, Nat.reduceLT, Nat.reduceEqDiff, Nat.reduceSub, if_true, if_false, ne_eq, not_false_eq_true, not_true_eq_false, Option.map_some, Option.map_none, Nat.zero_add, reduceCtorEq, Nat.reduceLeDiff, one_ne_zero_a, zero_ne_one_a, aq_nb, aq_nb1, aq_nb0, aq_fb, aq_fb1, aq_fb0, aq_ofN, bB_t, bB_f, bB_v, vpn_b1, vpn_b0, nI_1, Bool.true_eq_false, Bool.false_eq_true, Bool.true_and, Bool.false_and, Bool.and_true, Bool.and_false]
        generalize Tp w ht wx wy cb seed c (p c) = d at *
        generalize Fn w ht wx wy cb seed c (p c) = m at *
        have S3 := sm1 52 h2 (.inl (.boolean, 576, .inl (upd (upd mo (4 * c + d) (bB true)) (4 * m + (d + 2) % 4) (bB true))))
        have S4 := sm1 53 (h2.set 52 (.inl (.boolean, 576, .inl (upd (upd mo (4 * c + d) (bB true)) (4 * m + (d + 2) % 4) (bB true))))) (.inl (.byte, 576, .inl (upd (upd md (4 * c + d) (-1)) (4 * m + (d + 2) % 4) (-1))))
        have S5 := sm1 54 ((h2.set 52 (.inl (.boolean, 576, .inl (upd (upd mo (4 * c + d) (bB true)) (4 * m + (d + 2) % 4) (bB true))))).set 53 (.inl (.byte, 576, .inl (upd (upd md (4 * c + d) (-1)) (4 * m + (d + 2) % 4) (-1))))) (.inl (.boolean, 576, .inl (upd (upd mw (4 * c + d) 1) (4 * m + (d + 2) % 4) 1)))
        exact ih (c + 1) (by omega) _ _ _ _ (((S.tr (S3.mo (by decide) (by decide))).tr (S4.mo (by decide) (by decide))).tr (S5.mo (by decide) (by decide))) (((O.sm S3 (by decide)).sm S4 (by decide)).sm S5 (by decide)) (((G.sm S3 (by decide)).sm S4 (by decide)).sm S5 (by decide)) (((A.s53 _).s54 _).s55 _) gm2
      · have hob : obf w ht wx wy cb seed root p (c + 1) = obf w ht wx wy cb seed root p c := if_neg hs
        have gm2 := gm
        rw [← hob] at gm2
        cases hcb : cb c with
        | true =>
          simp only [s_X10_make_236, s_X10_make_237, s_X10_make_240, s_X10_make_243, s_X10_make_244, s_X10_make_247, s_X10_make_248, s_X10_make_249, s_X10_make_272, s_X10_make_275, aq_gI, aq_gL, aq_gA, aq_isA, aq_s1, aq_s2, aq_kill, aq_ob, aq_sm, aq_arI, aq_arB, aq_isB, aq_arL, aq_arA, aq_arN, aq_sh, Value.category, List.getElem?_cons_zero, List.getElem?_cons_succ, List.length_cons, List.length_nil, Option.toList_some, Option.toList_none, List.cons_append, List.nil_append, true_and, and_true, List.set_cons_zero, List.set_cons_succ, aq_n1, aq_n2, aq_n3, aq_n4, aq_f1, aq_f2, aq_f3, aq_f4, aq_gs, aq_ty1, aq_ty2, aq_ty3, aq_ty4, aq_ty5, Nat.reduceAdd, Nat.reduceLT, Nat.reduceEqDiff, Nat.reduceSub, if_true, if_false, ne_eq, not_false_eq_true, not_true_eq_false, Option.map_some, Option.map_none, Nat.zero_add, reduceCtorEq, Nat.reduceLeDiff, one_ne_zero_a, zero_ne_one_a, aq_nb, aq_nb1, aq_nb0, aq_fb, aq_fb1, aq_fb0, aq_ofN, bB_t, bB_f, bB_v, vpn_b1, vpn_b0, nI_1, Bool.true_eq_false, Bool.false_eq_true, Bool.true_and, Bool.false_and, Bool.and_true, Bool.and_false, O1, nI_ge hc2 (show w * ht < 2 ^ 31 by omega), G.2.2.1, vp_in_nI (show c < 144 by omega) (show 144 < 2 ^ 31 by decide), nI_clamp (show c < 2 ^ 31 by omega), G.2.2.2 c hc2, hcb]
          exact ih (c + 1) (by omega) h2 mo md mw S O G A gm2
        | false =>
          have er : c = root := Classical.byContradiction fun z => hs ⟨hcb, z⟩
          have hcb' := hcb
          simp only [s_X10_make_236, s_X10_make_237, s_X10_make_240, s_X10_make_243, s_X10_make_244, s_X10_make_247, s_X10_make_248, s_X10_make_249, s_X10_make_252, s_X10_make_253, s_X10_make_254, s_X10_make_257, s_X10_make_272, s_X10_make_275, aq_gI, aq_gL, aq_gA, aq_isA, aq_s1, aq_s2, aq_kill, aq_ob, aq_sm, aq_arI, aq_arB, aq_isB, aq_arL, aq_arA, aq_arN, aq_sh, Value.category, List.getElem?_cons_zero, List.getElem?_cons_succ, List.length_cons, List.length_nil, Option.toList_some, Option.toList_none, List.cons_append, List.nil_append, true_and, and_true, List.set_cons_zero, List.set_cons_succ, aq_n1, aq_n2, aq_n3, aq_n4, aq_f1, aq_f2, aq_f3, aq_f4, aq_gs, aq_ty1, aq_ty2, aq_ty3, aq_ty4, aq_ty5, Nat.reduceAdd, Nat.reduceLT, Nat.reduceEqDiff, Nat.reduceSub, if_true, if_false, ne_eq, not_false_eq_true, not_true_eq_false, Option.map_some, Option.map_none, Nat.zero_add, reduceCtorEq, Nat.reduceLeDiff, one_ne_zero_a, zero_ne_one_a, aq_nb, aq_nb1, aq_nb0, aq_fb, aq_fb1, aq_fb0, aq_ofN, bB_t, bB_f, bB_v, vpn_b1, vpn_b0, nI_1, Bool.true_eq_false, Bool.false_eq_true, Bool.true_and, Bool.false_and, Bool.and_true, Bool.and_false, O1, nI_ge hc2 (show w * ht < 2 ^ 31 by omega), G.2.2.1, vp_in_nI (show c < 144 by omega) (show 144 < 2 ^ 31 by decide), nI_clamp (show c < 2 ^ 31 by omega), G.2.2.2 c hc2, hcb, show (nI c = nI root) = True from eq_true (hq.mpr er)]
          exact ih (c + 1) (by omega) h2 mo md mw S O G A gm2
  -- all is cleared
  have one : ∀ (j i : Nat), i + j = 576 → ∀ (h2 : aq_H) (mo md mw : Nat → Int32), sm 47 60 h0 h2 → iMo h2 w ht wr 0 0 (nI root) (nI k) st ex pl hd sg → gMb h2 w ht wx wy cb wr mc → iAr h2 mx mt mp mo md mw mk mr tb pc fa go → (∀ i', i' < i → mo i' = 0 ∧ md i' = -1 ∧ mw i' = 1) → aq_W e_X10_make Q 199 [some (.ref 47), some (.int x0), some (.int x1), some (.int (nI i)), L4, L5, L6] [] h2 0 0 := by
    intro j
    have h576 : (576 : Int32) = nI 576 := by decide
    induction j with
    | zero =>
      intro i hi h2 mo md mw S O G A hk
      have e : i = 576 := by omega
      subst e
      rw [s_X10_make_199]
      simp only [s_X10_make_200, s_X10_make_203, s_X10_make_233, s_X10_make_234, aq_gI, aq_gL, aq_gA, aq_isA, aq_s1, aq_s2, aq_kill, aq_ob, aq_sm, aq_arI, aq_arB, aq_isB, aq_arL, aq_arA, aq_arN, aq_sh, Value.category, List.getElem?_cons_zero, List.getElem?_cons_succ, List.length_cons, List.length_nil, Option.toList_some, Option.toList_none, List.cons_append, List.nil_append, true_and, and_true, List.set_cons_zero, List.set_cons_succ, aq_n1, aq_n2, aq_n3, aq_n4, aq_f1, aq_f2, aq_f3, aq_f4, aq_gs, aq_ty1, aq_ty2, aq_ty3, aq_ty4, aq_ty5, Nat.reduceAdd, Nat.reduceLT, Nat.reduceEqDiff, Nat.reduceSub, if_true, if_false, ne_eq, not_false_eq_true, not_true_eq_false, Option.map_some, Option.map_none, Nat.zero_add, reduceCtorEq, Nat.reduceLeDiff, one_ne_zero_a, zero_ne_one_a, aq_nb, aq_nb1, aq_nb0, aq_fb, aq_fb1, aq_fb0, aq_ofN, bB_t, bB_f, bB_v, vpn_b1, vpn_b0, nI_1, Bool.true_eq_false, Bool.false_eq_true, Bool.true_and, Bool.false_and, Bool.and_true, Bool.and_false, h576, nI_le (Nat.le_refl 576) (show 576 < 2 ^ 31 by decide)]
      refine two (w * ht) 0 (Nat.zero_add _) h2 mo md mw S O G A (fun c d m hc hd hx => ?_)
      obtain ⟨y1, y2, y3⟩ := hk (4 * c + d) (by omega)
      exact ⟨y1, y2, by rw [y3]; rfl⟩
    | succ j ih =>
      intro i hi h2 mo md mw S O G A hk
      have O1 := O
      unfold iMo at O1
      rw [s_X10_make_199]
      simp only [s_X10_make_200, s_X10_make_203, s_X10_make_206, s_X10_make_207, s_X10_make_210, s_X10_make_211, s_X10_make_212, s_X10_make_213, s_X10_make_214, s_X10_make_217, s_X10_make_218, s_X10_make_219, s_X10_make_220, s_X10_make_221, s_X10_make_224, s_X10_make_225, s_X10_make_226, s_X10_make_227, s_X10_make_230, aq_gI, aq_gL, aq_gA, aq_isA, aq_s1, aq_s2, aq_kill, aq_ob, aq_sm, aq_arI, aq_arB, aq_isB, aq_arL, aq_arA, aq_arN, aq_sh, Value.category, List.getElem?_cons_zero, List.getElem?_cons_succ, List.length_cons, List.length_nil, Option.toList_some, Option.toList_none, List.cons_append, List.nil_append, true_and, and_true, List.set_cons_zero, List.set_cons_succ, aq_n1, aq_n2, aq_n3, aq_n4, aq_f1, aq_f2, aq_f3, aq_f4, aq_gs, aq_ty1, aq_ty2, aq_ty3, aq_ty4, aq_ty5, Nat.reduceAdd, Nat.reduceLT, Nat.reduceEqDiff, Nat.reduceSub, if_true, if_false, ne_eq, not_false_eq_true, not_true_eq_false, Option.map_some, Option.map_none, Nat.zero_add, reduceCtorEq, Nat.reduceLeDiff, one_ne_zero_a, zero_ne_one_a, aq_nb, aq_nb1, aq_nb0, aq_fb, aq_fb1, aq_fb0, aq_ofN, bB_t, bB_f, bB_v, vpn_b1, vpn_b0, nI_1, Bool.true_eq_false, Bool.false_eq_true, Bool.true_and, Bool.false_and, Bool.and_true, Bool.and_false, h576, nI_ge (show i < 576 by omega) (show 576 < 2 ^ 31 by decide), O1, A.2.2.2.1, A.2.2.2.2.1, A.2.2.2.2.2.1, vp_in_nI (show i < 576 by omega) (show 576 < 2 ^ 31 by decide), nI_clamp (show i < 2 ^ 31 by omega), vpn_bm1]
      have S3 := sm1 52 h2 (.inl (.boolean, 576, .inl (upd mo i 0)))
      have S4 := sm1 53 (h2.set 52 (.inl (.boolean, 576, .inl (upd mo i 0)))) (.inl (.byte, 576, .inl (upd md i (-1))))
      have S5 := sm1 54 ((h2.set 52 (.inl (.boolean, 576, .inl (upd mo i 0)))).set 53 (.inl (.byte, 576, .inl (upd md i (-1))))) (.inl (.boolean, 576, .inl (upd mw i 1)))
      refine ih (i + 1) (by omega) _ (upd mo i 0) (upd md i (-1)) (upd mw i 1) (((S.tr (S3.mo (by decide) (by decide))).tr (S4.mo (by decide) (by decide))).tr (S5.mo (by decide) (by decide))) (((O.sm S3 (by decide)).sm S4 (by decide)).sm S5 (by decide)) (((G.sm S3 (by decide)).sm S4 (by decide)).sm S5 (by decide)) (((A.s53 _).s54 _).s55 _) (fun i' hi' => ?_)
      by_cases z : i' = i
      · rw [z, upd_s, upd_s, upd_s]; exact ⟨rfl, rfl, rfl⟩
      · rw [upd_n _ _ z, upd_n _ _ z, upd_n _ _ z]; exact hk i' (by omega)
  simp only [s_X10_make_197, s_X10_make_198, aq_gI, aq_gL, aq_gA, aq_isA, aq_s1, aq_s2, aq_kill, aq_ob, aq_sm, aq_arI, aq_arB, aq_isB, aq_arL, aq_arA, aq_arN, aq_sh, Value.category, List.getElem?_cons_zero, List.getElem?_cons_succ, List.length_cons, List.length_nil, Option.toList_some, Option.toList_none, List.cons_append, List.nil_append, true_and, and_true, List.set_cons_zero, List.set_cons_succ, aq_n1, aq_n2, aq_n3, aq_n4, aq_f1, aq_f2, aq_f3, aq_f4, aq_gs, aq_ty1, aq_ty2, aq_ty3, aq_ty4, aq_ty5, Nat.reduceAdd, Nat.reduceLT, Nat.reduceEqDiff, Nat.reduceSub, if_true, if_false, ne_eq, not_false_eq_true, not_true_eq_false, Option.map_some, Option.map_none, Nat.zero_add, reduceCtorEq, Nat.reduceLeDiff, one_ne_zero_a, zero_ne_one_a, aq_nb, aq_nb1, aq_nb0, aq_fb, aq_fb1, aq_fb0, aq_ofN, bB_t, bB_f, bB_v, vpn_b1, vpn_b0, nI_1, Bool.true_eq_false, Bool.false_eq_true, Bool.true_and, Bool.false_and, Bool.and_true, Bool.and_false]
  exact one 576 0 rfl h2 mo md mw S O G A (fun i hi => by omega)
theorem m_make (T : MDL h w ht wx wy cb hm D Z P) (seed rt : Int32) : aq_T e_X10_make 7 0 0 [.ref 47, .int seed, .int rt] h (fun r h' => if (inC (w * ht) rt && !cb rt.toNatClampNeg) = false then mR h (-1) w ht wx wy cb hm D Z P r h' else sm 47 60 h h' ∧ ((r = some (.int 0) ∧ ¬ AR w ht wx wy cb rt.toNatClampNeg ∧ MDL h' w ht wx wy cb false D Z P) ∨ (AR w ht wx wy cb rt.toNatClampNeg ∧ ((r = some (.int 2) ∧ gOv w ht wx wy cb seed rt.toNatClampNeg ∧ MDL h' w ht wx wy cb false D Z P) ∨ (r = some (.int 1) ∧ ∃ p k, gEn w ht wx wy cb seed rt.toNatClampNeg p k ∧ MDL h' w ht wx wy cb true (nD w ht wx wy cb seed rt.toNatClampNeg p k) (nZ w ht wx wy cb seed rt.toNatClampNeg p) (rt.toNatClampNeg, 0, 0)))))) := by
  obtain ⟨from_, hfrom⟩ : ∃ x, x = rt := ⟨rt, rfl⟩
  subst hfrom
  refine ⟨Nat.le_of_ble_eq_true rfl, ?_⟩
  show aq_W _ _ 0 [some (.ref 47), some (.int seed), some (.int from_), none, none, none, none] [] _ _ _
  obtain ⟨wr, thr, rt, ci, st, ex, pl, hd, sg, mc, mx, mt, mp, mo, md, mw, mk, mr, tb, pc, fa, go, O0, G0, A0, g⟩ := T
  have OO := O0
  unfold iMo at OO
  simp only [s_X10_make_0, s_X10_make_1, s_X10_make_2, aq_gI, aq_gL, aq_gA, aq_isA, aq_s1, aq_s2, aq_kill, aq_ob, aq_sm, aq_arI, aq_arB, aq_isB, aq_arL, aq_arA, aq_arN, aq_sh, Value.category, List.getElem?_cons_zero, List.getElem?_cons_succ, List.length_cons, List.length_nil, Option.toList_some, Option.toList_none, List.cons_append, List.nil_append, true_and, and_true, List.set_cons_zero, List.set_cons_succ, aq_n1, aq_n2, aq_n3, aq_n4, aq_f1, aq_f2, aq_f3, aq_f4, aq_gs, aq_ty1, aq_ty2, aq_ty3, aq_ty4, aq_ty5, Nat.reduceAdd, Nat.reduceLT, Nat.reduceEqDiff, Nat.reduceSub, if_true, if_false, ne_eq, not_false_eq_true, not_true_eq_false, Option.map_some, Option.map_none, Nat.zero_add, reduceCtorEq, Nat.reduceLeDiff, one_ne_zero_a, zero_ne_one_a, OO]
  have O := O0.st (bB hm) wr 0 rt ci st ex pl hd sg
  have G := G0.s48 (mOb w ht wr 0 (bB hm) rt ci st ex pl hd sg)
  have A := A0.s48 (mOb w ht wr 0 (bB hm) rt ci st ex pl hd sg)
  have S : sm 47 60 h (h.set 47 (mOb w ht wr 0 (bB hm) rt ci st ex pl hd sg)) := (sm.rf _ _ _).st (by decide) (by decide)
  change aq_W _ _ _ _ _ (h.set 47 (mOb w ht wr 0 (bB hm) rt ci st ex pl hd sg)) _ _
  generalize h.set 47 (mOb w ht wr 0 (bB hm) rt ci st ex pl hd sg) = h1 at O G A S ⊢
  have O1 := O
  unfold iMo at O1
  have hn := wh_lt G.1
  simp only [s_X10_make_5, s_X10_make_6, s_X10_make_7, aq_gI, aq_gL, aq_gA, aq_isA, aq_s1, aq_s2, aq_kill, aq_ob, aq_sm, aq_arI, aq_arB, aq_isB, aq_arL, aq_arA, aq_arN, aq_sh, Value.category, List.getElem?_cons_zero, List.getElem?_cons_succ, List.length_cons, List.length_nil, Option.toList_some, Option.toList_none, List.cons_append, List.nil_append, true_and, and_true, List.set_cons_zero, List.set_cons_succ, aq_n1, aq_n2, aq_n3, aq_n4, aq_f1, aq_f2, aq_f3, aq_f4, aq_gs, aq_ty1, aq_ty2, aq_ty3, aq_ty4, aq_ty5, Nat.reduceAdd, Nat.reduceLT, Nat.reduceEqDiff, Nat.reduceSub, if_true, if_false, ne_eq, not_false_eq_true, not_true_eq_false, Option.map_some, Option.map_none, Nat.zero_add, reduceCtorEq, Nat.reduceLeDiff, one_ne_zero_a, zero_ne_one_a, aq_nb, aq_nb1, aq_nb0, aq_fb, aq_fb1, aq_fb0, aq_ofN, bB_t, bB_f, bB_v, vpn_b1, vpn_b0, nI_1, Bool.true_eq_false, Bool.false_eq_true, Bool.true_and, Bool.false_and, Bool.and_true, Bool.and_false, O1]
  refine (m_stands O G from_).use ?_
  rintro _ h1 ⟨rfl, rfl⟩
  cases e : (inC (w * ht) from_ && !cb from_.toNatClampNeg) with
  | false =>
    simp only [s_X10_make_10, s_X10_make_13, s_X10_make_14, aq_gI, aq_gL, aq_gA, aq_isA, aq_s1, aq_s2, aq_kill, aq_ob, aq_sm, aq_arI, aq_arB, aq_isB, aq_arL, aq_arA, aq_arN, aq_sh, Value.category, List.getElem?_cons_zero, List.getElem?_cons_succ, List.length_cons, List.length_nil, Option.toList_some, Option.toList_none, List.cons_append, List.nil_append, true_and, and_true, List.set_cons_zero, List.set_cons_succ, aq_n1, aq_n2, aq_n3, aq_n4, aq_f1, aq_f2, aq_f3, aq_f4, aq_gs, aq_ty1, aq_ty2, aq_ty3, aq_ty4, aq_ty5, Nat.reduceAdd, Nat.reduceLT, Nat.reduceEqDiff, Nat.reduceSub, if_true, if_false, ne_eq, not_false_eq_true, not_true_eq_false, Option.map_some, Option.map_none, Nat.zero_add, reduceCtorEq, Nat.reduceLeDiff, one_ne_zero_a, zero_ne_one_a, aq_nb, aq_nb1, aq_nb0, aq_fb, aq_fb1, aq_fb0, aq_ofN, bB_t, bB_f, bB_v, vpn_b1, vpn_b0, nI_1, Bool.true_eq_false, Bool.false_eq_true, Bool.true_and, Bool.false_and, Bool.and_true, Bool.and_false]
    exact ⟨rfl, S, MDL_mk O G A g⟩
  | true =>
    obtain ⟨e1, e2⟩ := Bool.and_eq_true_iff.mp e
    rcases inC_cs (w * ht) from_ (by omega) with q | ⟨root, hr, rfl⟩
    · rw [q] at e1; cases e1
    · rw [nI_clamp (by omega)] at e2 ⊢
      have hb : cb root = false := by simpa using e2
      simp only [s_X10_make_10, s_X10_make_15, s_X10_make_16, s_X10_make_17, s_X10_make_20, s_X10_make_21, aq_gI, aq_gL, aq_gA, aq_isA, aq_s1, aq_s2, aq_kill, aq_ob, aq_sm, aq_arI, aq_arB, aq_isB, aq_arL, aq_arA, aq_arN, aq_sh, Value.category, List.getElem?_cons_zero, List.getElem?_cons_succ, List.length_cons, List.length_nil, Option.toList_some, Option.toList_none, List.cons_append, List.nil_append, true_and, and_true, List.set_cons_zero, List.set_cons_succ, aq_n1, aq_n2, aq_n3, aq_n4, aq_f1, aq_f2, aq_f3, aq_f4, aq_gs, aq_ty1, aq_ty2, aq_ty3, aq_ty4, aq_ty5, Nat.reduceAdd, Nat.reduceLT, Nat.reduceEqDiff, Nat.reduceSub, if_true, if_false, ne_eq, not_false_eq_true, not_true_eq_false, Option.map_some, Option.map_none, Nat.zero_add, reduceCtorEq, Nat.reduceLeDiff, one_ne_zero_a, zero_ne_one_a, aq_nb, aq_nb1, aq_nb0, aq_fb, aq_fb1, aq_fb0, aq_ofN, bB_t, bB_f, bB_v, vpn_b1, vpn_b0, nI_1, Bool.true_eq_false, Bool.false_eq_true, Bool.true_and, Bool.false_and, Bool.and_true, Bool.and_false, O1]
      have O2 := O.st 0 wr 0 rt ci st ex pl hd sg
      have A2 := A.s48 (mOb w ht wr 0 0 rt ci st ex pl hd sg)
      have G2 := G.s48 (mOb w ht wr 0 0 rt ci st ex pl hd sg)
      have S2 := smx 47 (by decide) (by decide) h1 (mOb w ht wr 0 0 rt ci st ex pl hd sg)
      rw [show (Sum.inr (10, _) : aq_E) = mOb w ht wr 0 0 rt ci st ex pl hd sg from rfl]
      generalize h1.set 47 (mOb w ht wr 0 0 rt ci st ex pl hd sg) = h2 at O2 A2 G2 S2 ⊢
      have O2' := O2
      unfold iMo at O2'
      simp only [s_X10_make_22, aq_gI, aq_gL, aq_gA, aq_isA, aq_s1, aq_s2, aq_kill, aq_ob, aq_sm, aq_arI, aq_arB, aq_isB, aq_arL, aq_arA, aq_arN, aq_sh, Value.category, List.getElem?_cons_zero, List.getElem?_cons_succ, List.length_cons, List.length_nil, Option.toList_some, Option.toList_none, List.cons_append, List.nil_append, true_and, and_true, List.set_cons_zero, List.set_cons_succ, aq_n1, aq_n2, aq_n3, aq_n4, aq_f1, aq_f2, aq_f3, aq_f4, aq_gs, aq_ty1, aq_ty2, aq_ty3, aq_ty4, aq_ty5, Nat.reduceAdd, Nat.reduceLT, Nat.reduceEqDiff, Nat.reduceSub, if_true, if_false, ne_eq, not_false_eq_true, not_true_eq_false, Option.map_some, Option.map_none, Nat.zero_add, reduceCtorEq, Nat.reduceLeDiff, one_ne_zero_a, zero_ne_one_a, aq_nb, aq_nb1, aq_nb0, aq_fb, aq_fb1, aq_fb0, aq_ofN, bB_t, bB_f, bB_v, vpn_b1, vpn_b0, nI_1, Bool.true_eq_false, Bool.false_eq_true, Bool.true_and, Bool.false_and, Bool.and_true, Bool.and_false, O2']
      refine (m_allReach O2 G2 A2.2.2.2.2.2.2.2.1 hr).use ?_
      rintro _ h3 ⟨S3, ⟨mr3, b8⟩, hcase⟩
      have O3 := O2.sm S3 (by decide)
      have G3 := G2.sm S3 (by decide)
      have A3 := iAr_rr A2 S3 b8
      have S13 := (S.tr S2).tr (S3.mo (show 47 ≤ 56 by decide) (show 56 ≤ 60 by decide))
      rcases hcase with ⟨rfl, hA⟩ | ⟨rfl, hA⟩
      · have hcn : ∀ c, SS w ht cb root c → 0 < (wyl w ht wx wy cb c).length := fun c hc => (Rc_nx G.1 hr hb (hA c hc.1 hc.2.1)).2 hc.2.2
        have O3' := O3
        unfold iMo at O3'
        simp only [s_X10_make_25, s_X10_make_30, s_X10_make_31, s_X10_make_32, s_X10_make_35, s_X10_make_36, s_X10_make_37, s_X10_make_40, s_X10_make_41, aq_gI, aq_gL, aq_gA, aq_isA, aq_s1, aq_s2, aq_kill, aq_ob, aq_sm, aq_arI, aq_arB, aq_isB, aq_arL, aq_arA, aq_arN, aq_sh, Value.category, List.getElem?_cons_zero, List.getElem?_cons_succ, List.length_cons, List.length_nil, Option.toList_some, Option.toList_none, List.cons_append, List.nil_append, true_and, and_true, List.set_cons_zero, List.set_cons_succ, aq_n1, aq_n2, aq_n3, aq_n4, aq_f1, aq_f2, aq_f3, aq_f4, aq_gs, aq_ty1, aq_ty2, aq_ty3, aq_ty4, aq_ty5, Nat.reduceAdd, Nat.reduceLT, Nat.reduceEqDiff, Nat.reduceSub, if_true, if_false, ne_eq, not_false_eq_true, not_true_eq_false, Option.map_some, Option.map_none, Nat.zero_add, reduceCtorEq, Nat.reduceLeDiff, one_ne_zero_a, zero_ne_one_a, aq_nb, aq_nb1, aq_nb0, aq_fb, aq_fb1, aq_fb0, aq_ofN, bB_t, bB_f, bB_v, vpn_b1, vpn_b0, nI_1, Bool.true_eq_false, Bool.false_eq_true, Bool.true_and, Bool.false_and, Bool.and_true, Bool.and_false, O3', List.set_set]
        have O4 := O3.st 0 wr 0 (nI root) 0 st ex pl hd sg
        have A4 := A3.s48 (mOb w ht wr 0 0 (nI root) 0 st ex pl hd sg)
        have G4 := G3.s48 (mOb w ht wr 0 0 (nI root) 0 st ex pl hd sg)
        have S4 := S13.tr (smx 47 (by decide) (by decide) h3 (mOb w ht wr 0 0 (nI root) 0 st ex pl hd sg))
        rw [show (Sum.inr (10, _) : aq_E) = mOb w ht wr 0 0 (nI root) 0 st ex pl hd sg from rfl]
        generalize h3.set 47 (mOb w ht wr 0 0 (nI root) 0 st ex pl hd sg) = h4 at O4 A4 G4 S4 ⊢
        have one : ∀ (j c : Nat), c + j = w * ht → ∀ (h2 : aq_H) (mx mt mp : Nat → Int32), sm 47 60 h h2 → iMo h2 w ht wr 0 0 (nI root) 0 st ex pl hd sg → gMb h2 w ht wx wy cb wr mc → iAr h2 mx mt mp mo md mw mk mr3 tb pc fa go → (∀ c', c' < c → mp c' = 0) → (∀ c', c' < c → SS w ht cb root c' → mx c' = Xs seed c' 0 ∧ mt c' = nI (Tp w ht wx wy cb seed c' 0)) → aq_W e_X10_make (fun r h' => if true = false then mR h (-1) w ht wx wy cb hm D Z P r h' else sm 47 60 h h' ∧ ((r = some (.int 0) ∧ ¬ AR w ht wx wy cb root ∧ MDL h' w ht wx wy cb false D Z P) ∨ (AR w ht wx wy cb root ∧ ((r = some (.int 2) ∧ gOv w ht wx wy cb seed root ∧ MDL h' w ht wx wy cb false D Z P) ∨ (r = some (.int 1) ∧ ∃ p k, gEn w ht wx wy cb seed root p k ∧ MDL h' w ht wx wy cb true (nD w ht wx wy cb seed root p k) (nZ w ht wx wy cb seed root p) (root, 0, 0)))))) 42 [some (.ref 47), some (.int seed), some (.int (nI root)), some (.int (nI c)), none, none, none] [] h2 0 0 := by
          clear O O1 G A S O2 O2' A2 G2 S2 O3 O3' A3 G3 S13 O4 A4 G4 S4 g OO O0 G0 A0 S3 b8
          intro j
          induction j with
          | zero =>
            intro c hc h2 mx mt mp S O G A q1 q2
            have e : c = w * ht := by omega
            subst e
            have O1 := O
            unfold iMo at O1
            rw [s_X10_make_42]
            simp only [s_X10_make_43, s_X10_make_44, s_X10_make_47, s_X10_make_97, s_X10_make_98, aq_gI, aq_gL, aq_gA, aq_isA, aq_s1, aq_s2, aq_kill, aq_ob, aq_sm, aq_arI, aq_arB, aq_isB, aq_arL, aq_arA, aq_arN, aq_sh, Value.category, List.getElem?_cons_zero, List.getElem?_cons_succ, List.length_cons, List.length_nil, Option.toList_some, Option.toList_none, List.cons_append, List.nil_append, true_and, and_true, List.set_cons_zero, List.set_cons_succ, aq_n1, aq_n2, aq_n3, aq_n4, aq_f1, aq_f2, aq_f3, aq_f4, aq_gs, aq_ty1, aq_ty2, aq_ty3, aq_ty4, aq_ty5, Nat.reduceAdd, Nat.reduceLT, Nat.reduceEqDiff, Nat.reduceSub, if_true, if_false, ne_eq, not_false_eq_true, not_true_eq_false, Option.map_some, Option.map_none, Nat.zero_add, reduceCtorEq, Nat.reduceLeDiff, one_ne_zero_a, zero_ne_one_a, aq_nb, aq_nb1, aq_nb0, aq_fb, aq_fb1, aq_fb0, aq_ofN, bB_t, bB_f, bB_v, vpn_b1, vpn_b0, nI_1, Bool.true_eq_false, Bool.false_eq_true, Bool.true_and, Bool.false_and, Bool.and_true, Bool.and_false, O1, nI_le (Nat.le_refl (w * ht)) (show w * ht < 2 ^ 31 by omega)]
            refine (m_circle (p := fun _ => 0) O G A.2.1 hr hcn (fun c hc => (q2 c hc.1 hc).2)).use ?_
            rintro r4 h4 ⟨rfl, hcases⟩
            have hr4 : ∃ v, r4 = some (.int v) := by
              rcases hcases with ⟨rfl, -⟩ | ⟨a, rfl, -⟩
              · exact ⟨_, rfl⟩
              · exact ⟨_, rfl⟩
            obtain ⟨v, rfl⟩ := hr4
            simp only [s_X10_make_101, aq_gI, aq_gL, aq_gA, aq_isA, aq_s1, aq_s2, aq_kill, aq_ob, aq_sm, aq_arI, aq_arB, aq_isB, aq_arL, aq_arA, aq_arN, aq_sh, Value.category, List.getElem?_cons_zero, List.getElem?_cons_succ, List.length_cons, List.length_nil, Option.toList_some, Option.toList_none, List.cons_append, List.nil_append, true_and, and_true, List.set_cons_zero, List.set_cons_succ, aq_n1, aq_n2, aq_n3, aq_n4, aq_f1, aq_f2, aq_f3, aq_f4, aq_gs, aq_ty1, aq_ty2, aq_ty3, aq_ty4, aq_ty5, Nat.reduceAdd, Nat.reduceLT, Nat.reduceEqDiff, Nat.reduceSub, if_true, if_false, ne_eq, not_false_eq_true, not_true_eq_false, Option.map_some, Option.map_none, Nat.zero_add, reduceCtorEq, Nat.reduceLeDiff, one_ne_zero_a, zero_ne_one_a, aq_nb, aq_nb1, aq_nb0, aq_fb, aq_fb1, aq_fb0, aq_ofN, bB_t, bB_f, bB_v, vpn_b1, vpn_b0, nI_1, Bool.true_eq_false, Bool.false_eq_true, Bool.true_and, Bool.false_and, Bool.and_true, Bool.and_false]
            refine mk_out (h0 := h) (D := D) (Z := Z) (P := P) (seed := seed) hr (fun ov h' S' T' => ⟨S', Or.inr ⟨hA, Or.inl ⟨rfl, ov, T'⟩⟩⟩) hcn (fun h2 p k L4 L5 L6 T2 en => mk_end hr hb hcn (fun h' S' T' => ⟨S', Or.inr ⟨hA, Or.inr ⟨rfl, p, k, en, T'⟩⟩⟩) T2) 720001 (fun _ => 0) 0 h4 none none none (some (.int v)) (by omega) ⟨S, _, _, _, _, _, _, _, _, _, _, _, _, _, _, _, _, _, _, _, O, G, A, fun c hc => q2 c hc.1 hc, fun c hc _ => q1 c hc⟩ ⟨rfl, fun c => Nat.zero_le _⟩ hcases
          | succ j ih =>
            intro c hc h2 mx mt mp S O G A q1 q2
            have hc2 : c < w * ht := by omega
            have O1 := O
            unfold iMo at O1
            have hq := nI_eq (a := c) (b := root) (by omega) (by omega)
            have S2 := sm1 51 h2 (.inl (.int, 144, .inl (upd mp c 0)))
            have S3 := sm1 49 (h2.set 51 (.inl (.int, 144, .inl (upd mp c 0)))) (.inl (.int, 144, .inl (upd mx c (seed + nI c * -1640531535))))
            have O2 := (O.sm S2 (by decide)).sm S3 (by decide)
            have G2 := (G.sm S2 (by decide)).sm S3 (by decide)
            have A2 := (A.s52 (upd mp c 0)).s50 (upd mx c (seed + nI c * -1640531535))
            have S4 := (S.tr (S2.mo (by decide) (by decide))).tr (S3.mo (show 47 ≤ 49 by decide) (show 49 ≤ 60 by decide))
            have p4 : ∀ c', c' < c + 1 → upd mp c 0 c' = 0 := by
              intro c' hc'
              by_cases z : c' = c
              · rw [z, upd_s]
              · rw [upd_n _ _ z]; exact q1 c' (by omega)
            rw [s_X10_make_42]
            simp only [s_X10_make_43, s_X10_make_44, s_X10_make_47, s_X10_make_50, s_X10_make_51, s_X10_make_54, s_X10_make_55, s_X10_make_56, s_X10_make_57, s_X10_make_58, s_X10_make_61, s_X10_make_62, s_X10_make_63, s_X10_make_64, s_X10_make_66, s_X10_make_67, s_X10_make_68, s_X10_make_69, s_X10_make_70, s_X10_make_73, s_X10_make_74, aq_gI, aq_gL, aq_gA, aq_isA, aq_s1, aq_s2, aq_kill, aq_ob, aq_sm, aq_arI, aq_arB, aq_isB, aq_arL, aq_arA, aq_arN, aq_sh, Value.category, List.getElem?_cons_zero, List.getElem?_cons_succ, List.length_cons, List.length_nil, Option.toList_some, Option.toList_none, List.cons_append, List.nil_append, true_and, and_true, List.set_cons_zero, List.set_cons_succ, aq_n1, aq_n2, aq_n3, aq_n4, aq_f1, aq_f2, aq_f3, aq_f4, aq_gs, aq_ty1, aq_ty2, aq_ty3, aq_ty4, aq_ty5, Nat.reduceAdd, Nat.reduceLT, Nat.reduceEqDiff, Nat.reduceSub, if_true, if_false, ne_eq, not_false_eq_true, not_true_eq_false, Option.map_some, Option.map_none, Nat.zero_add, reduceCtorEq, Nat.reduceLeDiff, one_ne_zero_a, zero_ne_one_a, aq_nb, aq_nb1, aq_nb0, aq_fb, aq_fb1, aq_fb0, aq_ofN, bB_t, bB_f, bB_v, vpn_b1, vpn_b0, nI_1, Bool.true_eq_false, Bool.false_eq_true, Bool.true_and, Bool.false_and, Bool.and_true, Bool.and_false, O1, nI_ge hc2 (show w * ht < 2 ^ 31 by omega), A.1, A.2.2.1, G.2.2.1, vp_in_nI (show c < 144 by omega) (show 144 < 2 ^ 31 by decide), nI_clamp (show c < 2 ^ 31 by omega), G.2.2.2 c hc2]
            generalize (h2.set 51 (.inl (.int, 144, .inl (upd mp c 0)))).set 49 (.inl (.int, 144, .inl (upd mx c (seed + nI c * -1640531535)))) = h3 at O2 G2 A2 S4 ⊢
            have O2' := O2
            unfold iMo at O2'
            cases hcb : cb c with
            | true =>
              simp only [s_X10_make_75, s_X10_make_91, s_X10_make_94, aq_gI, aq_gL, aq_gA, aq_isA, aq_s1, aq_s2, aq_kill, aq_ob, aq_sm, aq_arI, aq_arB, aq_isB, aq_arL, aq_arA, aq_arN, aq_sh, Value.category, List.getElem?_cons_zero, List.getElem?_cons_succ, List.length_cons, List.length_nil, Option.toList_some, Option.toList_none, List.cons_append, List.nil_append, true_and, and_true, List.set_cons_zero, List.set_cons_succ, aq_n1, aq_n2, aq_n3, aq_n4, aq_f1, aq_f2, aq_f3, aq_f4, aq_gs, aq_ty1, aq_ty2, aq_ty3, aq_ty4, aq_ty5, Nat.reduceAdd, Nat.reduceLT, Nat.reduceEqDiff, Nat.reduceSub, if_true, if_false, ne_eq, not_false_eq_true, not_true_eq_false, Option.map_some, Option.map_none, Nat.zero_add, reduceCtorEq, Nat.reduceLeDiff, one_ne_zero_a, zero_ne_one_a, aq_nb, aq_nb1, aq_nb0, aq_fb, aq_fb1, aq_fb0, aq_ofN, bB_t, bB_f, bB_v, vpn_b1, vpn_b0, nI_1, Bool.true_eq_false, Bool.false_eq_true, Bool.true_and, Bool.false_and, Bool.and_true, Bool.and_false]
              refine ih (c + 1) (by omega) h3 _ mt _ S4 O2 G2 A2 p4 (fun c' hc' hs => ?_)
              have z : c' ≠ c := fun z => by rw [z] at hs; have := hs.2.1; rw [hcb] at this; cases this
              rw [upd_n _ _ z]
              exact q2 c' (by omega) hs
            | false =>
              by_cases er : c = root
              · simp only [s_X10_make_75, s_X10_make_78, s_X10_make_79, s_X10_make_80, s_X10_make_83, s_X10_make_91, s_X10_make_94, aq_gI, aq_gL, aq_gA, aq_isA, aq_s1, aq_s2, aq_kill, aq_ob, aq_sm, aq_arI, aq_arB, aq_isB, aq_arL, aq_arA, aq_arN, aq_sh, Value.category, List.getElem?_cons_zero, List.getElem?_cons_succ, List.length_cons, List.length_nil, Option.toList_some, Option.toList_none, List.cons_append, List.nil_append, true_and, and_true, List.set_cons_zero, List.set_cons_succ, aq_n1, aq_n2, aq_n3, aq_n4, aq_f1, aq_f2, aq_f3, aq_f4, aq_gs, aq_ty1, aq_ty2, aq_ty3, aq_ty4, aq_ty5, Nat.reduceAdd, Nat.reduceLT, Nat.reduceEqDiff, Nat.reduceSub, if_true, if_false, ne_eq, not_false_eq_true, not_true_eq_false, Option.map_some, Option.map_none, Nat.zero_add, reduceCtorEq, Nat.reduceLeDiff, one_ne_zero_a, zero_ne_one_a, aq_nb, aq_nb1, aq_nb0, aq_fb, aq_fb1, aq_fb0, aq_ofN, bB_t, bB_f, bB_v, vpn_b1, vpn_b0, nI_1, Bool.true_eq_false, Bool.false_eq_true, Bool.true_and, Bool.false_and, Bool.and_true, Bool.and_false, O2', show (nI c = nI root) = True from eq_true (hq.mpr er)]
                refine ih (c + 1) (by omega) h3 _ mt _ S4 O2 G2 A2 p4 (fun c' hc' hs => ?_)
                have z : c' ≠ c := fun z => hs.2.2 (z.trans er)
                rw [upd_n _ _ z]
                exact q2 c' (by omega) hs
              · have er' : ¬ nI c = nI root := fun z => er (hq.mp z)
                simp only [s_X10_make_75, s_X10_make_78, s_X10_make_79, s_X10_make_80, s_X10_make_83, s_X10_make_86, s_X10_make_87, s_X10_make_88, aq_gI, aq_gL, aq_gA, aq_isA, aq_s1, aq_s2, aq_kill, aq_ob, aq_sm, aq_arI, aq_arB, aq_isB, aq_arL, aq_arA, aq_arN, aq_sh, Value.category, List.getElem?_cons_zero, List.getElem?_cons_succ, List.length_cons, List.length_nil, Option.toList_some, Option.toList_none, List.cons_append, List.nil_append, true_and, and_true, List.set_cons_zero, List.set_cons_succ, aq_n1, aq_n2, aq_n3, aq_n4, aq_f1, aq_f2, aq_f3, aq_f4, aq_gs, aq_ty1, aq_ty2, aq_ty3, aq_ty4, aq_ty5, Nat.reduceAdd, Nat.reduceLT, Nat.reduceEqDiff, Nat.reduceSub, if_true, if_false, ne_eq, not_false_eq_true, not_true_eq_false, Option.map_some, Option.map_none, Nat.zero_add, reduceCtorEq, Nat.reduceLeDiff, one_ne_zero_a, zero_ne_one_a, aq_nb, aq_nb1, aq_nb0, aq_fb, aq_fb1, aq_fb0, aq_ofN, bB_t, bB_f, bB_v, vpn_b1, vpn_b0, nI_1, Bool.true_eq_false, Bool.false_eq_true, Bool.true_and, Bool.false_and, Bool.and_true, Bool.and_false, O2', er']
                refine (m_pop O2 G2 A2.1 A2.2.1 hc2 (hcn c ⟨hc2, hcb, er⟩)).use ?_
                rintro _ h5 ⟨rfl, S5, b1, b2⟩
                simp only [s_X10_make_91, s_X10_make_94, aq_gI, aq_gL, aq_gA, aq_isA, aq_s1, aq_s2, aq_kill, aq_ob, aq_sm, aq_arI, aq_arB, aq_isB, aq_arL, aq_arA, aq_arN, aq_sh, Value.category, List.getElem?_cons_zero, List.getElem?_cons_succ, List.length_cons, List.length_nil, Option.toList_some, Option.toList_none, List.cons_append, List.nil_append, true_and, and_true, List.set_cons_zero, List.set_cons_succ, aq_n1, aq_n2, aq_n3, aq_n4, aq_f1, aq_f2, aq_f3, aq_f4, aq_gs, aq_ty1, aq_ty2, aq_ty3, aq_ty4, aq_ty5, Nat.reduceAdd, Nat.reduceLT, Nat.reduceEqDiff, Nat.reduceSub, if_true, if_false, ne_eq, not_false_eq_true, not_true_eq_false, Option.map_some, Option.map_none, Nat.zero_add, reduceCtorEq, Nat.reduceLeDiff, one_ne_zero_a, zero_ne_one_a, aq_nb, aq_nb1, aq_nb0, aq_fb, aq_fb1, aq_fb0, aq_ofN, bB_t, bB_f, bB_v, vpn_b1, vpn_b0, nI_1, Bool.true_eq_false, Bool.false_eq_true, Bool.true_and, Bool.false_and, Bool.and_true, Bool.and_false]
                refine ih (c + 1) (by omega) h5 _ _ _ (S4.tr (S5.mo (by decide) (by decide))) (O2.sm S5 (by decide)) (G2.sm S5 (by decide)) (iAr_pp A2 S5 b1 b2) p4 (fun c' hc' hs => ?_)
                by_cases z : c' = c
                · rw [z, upd_s, upd_s, upd_s]
                  exact ⟨rfl, rfl⟩
                · rw [upd_n _ _ z, upd_n _ _ z, upd_n _ _ z]
                  exact q2 c' (by omega) hs
        exact one (w * ht) 0 (Nat.zero_add _) h4 mx mt mp S4 O4 G4 A4 (fun c hc => by omega) (fun c hc => by omega)
      · simp only [s_X10_make_25, s_X10_make_28, s_X10_make_29, aq_gI, aq_gL, aq_gA, aq_isA, aq_s1, aq_s2, aq_kill, aq_ob, aq_sm, aq_arI, aq_arB, aq_isB, aq_arL, aq_arA, aq_arN, aq_sh, Value.category, List.getElem?_cons_zero, List.getElem?_cons_succ, List.length_cons, List.length_nil, Option.toList_some, Option.toList_none, List.cons_append, List.nil_append, true_and, and_true, List.set_cons_zero, List.set_cons_succ, aq_n1, aq_n2, aq_n3, aq_n4, aq_f1, aq_f2, aq_f3, aq_f4, aq_gs, aq_ty1, aq_ty2, aq_ty3, aq_ty4, aq_ty5, Nat.reduceAdd, Nat.reduceLT, Nat.reduceEqDiff, Nat.reduceSub, if_true, if_false, ne_eq, not_false_eq_true, not_true_eq_false, Option.map_some, Option.map_none, Nat.zero_add, reduceCtorEq, Nat.reduceLeDiff, one_ne_zero_a, zero_ne_one_a, aq_nb, aq_nb1, aq_nb0, aq_fb, aq_fb1, aq_fb0, aq_ofN, bB_t, bB_f, bB_v, vpn_b1, vpn_b0, nI_1, Bool.true_eq_false, Bool.false_eq_true, Bool.true_and, Bool.false_and, Bool.and_true, Bool.and_false]
        exact ⟨S13, Or.inl ⟨hA, MDL_mk (hm := false) O3 G3 A3 (fun q => by cases q)⟩⟩
end MM2
