/-! one place of a math array set -/
def fs {α : Type} (f : Nat → α) (p : Nat) (v : α) : Nat → α := fun q => if q = p then v else f q
theorem fs_s {α : Type} (f : Nat → α) (p : Nat) (v : α) : fs f p v p = v := if_pos rfl
theorem fs_n {α : Type} (f : Nat → α) {p q : Nat} (v : α) (h : q ≠ p) : fs f p v q = f q := if_neg h
/-- what the model's arrays of passages hold -/
def gMm (w ht : Nat) (wx wy : Bool) (cb ob : Nat → Bool) (dr on : Nat → Option Nat) (mo md mw : Nat → Int32) : Prop :=
  ∀ c d m, c < w * ht → d < 4 → nx w ht wx wy cb c d = some m → mo (4 * c + d) = bB (ob (pn c d m)) ∧ md (4 * c + d) = oI (dr (pn c d m)) ∧ mw (4 * c + d) = bB (decide (¬ on (pn c d m) = some ((d + 2) % 4)))
def gDr (N : Nat) (dr on : Nat → Option Nat) : Prop := (∀ p, p < N → ∀ k, dr p = some k → k < 4) ∧ (∀ p, p < N → ∀ d, on p = some d → d < 4)
theorem bd4 {d : Nat} (h : d < 4) : ((d + 2) % 4 + 2) % 4 = d ∧ (d + 2) % 4 < 4 ∧ (d + 2) % 4 ≠ d := by omega
theorem pn_back {w ht c d m : Nat} {wx wy : Bool} {cb : Nat → Bool} (h : nx w ht wx wy cb c d = some m) (hd : d < 4) : pn m ((d + 2) % 4) c = pn c d m := by
  have d1 : d = 0 ∨ d = 1 ∨ d = 2 ∨ d = 3 := by omega
  rcases d1 with rfl | rfl | rfl | rfl <;> simp [pn]
section MD2
variable {h : aq_H} {w ht : Nat} {wr thr th rt ci st ex pl hd sg : Int32} {wx wy : Bool} {cb ob : Nat → Bool} {mc mo md mw mk : Nat → Int32} {dr on ky : Nat → Option Nat}
theorem m_back (O : iMo h w ht wr thr th rt ci st ex pl hd sg) (G : gMb h w ht wx wy cb wr mc) {c d m : Nat} (hc : c < w * ht) (hd4 : d < 4) (hx : nx w ht wx wy cb c d = some m) : aq_T e_X10_back 3 0 0 [.ref 47, .int (nI c), .int (nI d)] h (rd (nI (4 * m + (d + 2) % 4)) h) := by
  have hn := wh_lt G.1
  have tt := m_next O G (nI c) (nI d)
  rw [NX_in hc (by omega) hd4, hx] at tt
  have hm := (nx_ok G.1.2.1 G.1.2.2.2 hc hd4 hx).1
  unfold iMo at O
  refine ⟨Nat.le_of_ble_eq_true rfl, ?_⟩
  show aq_W _ _ 0 [some (.ref 47), some (.int (nI c)), some (.int (nI d))] [] _ _ _
  simp only [s_X10_back_0, s_X10_back_1, s_X10_back_2, s_X10_back_3, s_X10_back_4, s_X10_back_7, s_X10_back_8, s_X10_back_9, s_X10_back_10, s_X10_back_11, s_X10_back_12, s_X10_back_13, s_X10_back_14, aq_gI, aq_gL, aq_gA, aq_isA, aq_s1, aq_s2, aq_kill, aq_ob, aq_sm, aq_arI, aq_arB, aq_isB, aq_arL, aq_arA, aq_arN, aq_sh, Value.category, List.getElem?_cons_zero, List.getElem?_cons_succ, List.length_cons, List.length_nil, Option.toList_some, Option.toList_none, List.cons_append, List.nil_append, true_and, and_true, List.set_cons_zero, List.set_cons_succ, aq_n1, aq_n2, aq_n3, aq_n4, aq_f1, aq_f2, aq_f3, aq_f4, aq_gs, aq_ty1, aq_ty2, aq_ty3, aq_ty4, aq_ty5, Nat.reduceAdd, Nat.reduceLT, Nat.reduceEqDiff, Nat.reduceSub, if_true, if_false, ne_eq, not_false_eq_true, not_true_eq_false, Option.map_some, Option.map_none, Nat.zero_add, reduceCtorEq, Nat.reduceLeDiff, one_ne_zero_a, zero_ne_one_a, O]
  refine tt.use ?_
  rintro _ _ ⟨rfl, rfl⟩
  have e1 : (nI d + 2) - (nI d + 2) / 4 * 4 = nI ((d + 2) % 4) := by rw [nI_2, nI_add, nI_4]; exact pk_rem (by omega) (by omega) (by decide)
  have e2 : 4 * nI m = nI (4 * m) := by rw [nI_4, pk_mul]
  have e3 : ¬ (4 : Int32) = 0 := by decide
  simp only [oI, s_X10_back_0, s_X10_back_1, s_X10_back_2, s_X10_back_3, s_X10_back_4, s_X10_back_7, s_X10_back_8, s_X10_back_9, s_X10_back_10, s_X10_back_11, s_X10_back_12, s_X10_back_13, s_X10_back_14, aq_gI, aq_gL, aq_gA, aq_isA, aq_s1, aq_s2, aq_kill, aq_ob, aq_sm, aq_arI, aq_arB, aq_isB, aq_arL, aq_arA, aq_arN, aq_sh, Value.category, List.getElem?_cons_zero, List.getElem?_cons_succ, List.length_cons, List.length_nil, Option.toList_some, Option.toList_none, List.cons_append, List.nil_append, true_and, and_true, List.set_cons_zero, List.set_cons_succ, aq_n1, aq_n2, aq_n3, aq_n4, aq_f1, aq_f2, aq_f3, aq_f4, aq_gs, aq_ty1, aq_ty2, aq_ty3, aq_ty4, aq_ty5, Nat.reduceAdd, Nat.reduceLT, Nat.reduceEqDiff, Nat.reduceSub, if_true, if_false, ne_eq, not_false_eq_true, not_true_eq_false, Option.map_some, Option.map_none, Nat.zero_add, reduceCtorEq, Nat.reduceLeDiff, one_ne_zero_a, zero_ne_one_a, e1, e2, nI_add, rd, e3]
/-- free, door and walkable of a passage are set -/
theorem m_set (O : iMo h w ht wr thr th rt ci st ex pl hd sg) (G : gMb h w ht wx wy cb wr mc) (a3 : h[52]? = some (.inl (.boolean, 576, .inl mo))) (a4 : h[53]? = some (.inl (.byte, 576, .inl md))) (a5 : h[54]? = some (.inl (.boolean, 576, .inl mw))) {c d m : Nat} (hc : c < w * ht) (hd4 : d < 4) (hx : nx w ht wx wy cb c d = some m) (v : Bool) :
    aq_T e_X10_set 4 0 0 [.ref 47, .int (nI c), .int (nI d), .int (bB v)] h (fun r h' => r = none ∧ h' = ((h.set 52 (.inl (.boolean, 576, .inl (upd (upd mo (4 * c + d) (bB v)) (4 * m + (d + 2) % 4) (bB v))))).set 53 (.inl (.byte, 576, .inl (upd (upd md (4 * c + d) (-1)) (4 * m + (d + 2) % 4) (-1))))).set 54 (.inl (.boolean, 576, .inl (upd (upd mw (4 * c + d) 1) (4 * m + (d + 2) % 4) 1)))) := by
  have hn := wh_lt G.1
  have hm := (nx_ok G.1.2.1 G.1.2.2.2 hc hd4 hx).1
  have hb := (bd4 hd4).2.1
  have i1 : vp_in (nI (4 * c + d)) 576 := vp_in_nI (by omega) (by decide)
  have i2 : vp_in (nI (4 * m + (d + 2) % 4)) 576 := vp_in_nI (by omega) (by decide)
  have c1 : (nI (4 * c + d)).toNatClampNeg = 4 * c + d := nI_clamp (by omega)
  have c2 : (nI (4 * m + (d + 2) % 4)).toNatClampNeg = 4 * m + (d + 2) % 4 := nI_clamp (by omega)
  have nm : vp_nar .byte (-1) = -1 := by decide
  have n1 : vp_nar .boolean 1 = 1 := by decide
  have tb : ∀ h' : aq_H, (∀ k, k < 52 → h'[k]? = h[k]?) → aq_T e_X10_back 3 0 0 [.ref 47, .int (nI c), .int (nI d)] h' (rd (nI (4 * m + (d + 2) % 4)) h') := by
    intro h' hs
    refine m_back (wr := wr) (thr := thr) (th := th) (rt := rt) (ci := ci) (st := st) (ex := ex) (pl := pl) (hd := hd) (sg := sg) (mc := mc) ((hs 47 (by omega)).trans O) ⟨G.1, G.2.1, (hs 48 (by omega)).trans G.2.2.1, G.2.2.2⟩ hc hd4 hx
  unfold iMo at O
  refine ⟨Nat.le_of_ble_eq_true rfl, ?_⟩
  show aq_W _ _ 0 [some (.ref 47), some (.int (nI c)), some (.int (nI d)), some (.int (bB v))] [] _ _ _
  simp only [s_X10_set_0, s_X10_set_1, s_X10_set_4, s_X10_set_5, s_X10_set_6, s_X10_set_7, s_X10_set_8, s_X10_set_9, s_X10_set_10, s_X10_set_11, s_X10_set_12, s_X10_set_15, s_X10_set_16, s_X10_set_17, s_X10_set_18, s_X10_set_21, s_X10_set_22, s_X10_set_23, s_X10_set_24, s_X10_set_27, s_X10_set_28, s_X10_set_29, s_X10_set_30, s_X10_set_31, s_X10_set_32, s_X10_set_33, s_X10_set_34, s_X10_set_35, s_X10_set_38, s_X10_set_39, s_X10_set_40, s_X10_set_41, s_X10_set_44, s_X10_set_45, s_X10_set_46, s_X10_set_47, s_X10_set_50, s_X10_set_51, s_X10_set_52, s_X10_set_53, s_X10_set_54, s_X10_set_55, s_X10_set_56, s_X10_set_57, s_X10_set_58, s_X10_set_61, s_X10_set_62, s_X10_set_63, s_X10_set_64, s_X10_set_67, s_X10_set_68, s_X10_set_69, aq_gI, aq_gL, aq_gA, aq_isA, aq_s1, aq_s2, aq_kill, aq_ob, aq_sm, aq_arI, aq_arB, aq_isB, aq_arL, aq_arA, aq_arN, aq_sh, Value.category, List.getElem?_cons_zero, List.getElem?_cons_succ, List.length_cons, List.length_nil, Option.toList_some, Option.toList_none, List.cons_append, List.nil_append, true_and, and_true, List.set_cons_zero, List.set_cons_succ, aq_n1, aq_n2, aq_n3, aq_n4, aq_f1, aq_f2, aq_f3, aq_f4, aq_gs, aq_ty1, aq_ty2, aq_ty3, aq_ty4, aq_ty5, Nat.reduceAdd, Nat.reduceLT, Nat.reduceEqDiff, Nat.reduceSub, if_true, if_false, ne_eq, not_false_eq_true, not_true_eq_false, Option.map_some, Option.map_none, Nat.zero_add, reduceCtorEq, Nat.reduceLeDiff, one_ne_zero_a, zero_ne_one_a, O, nI_4c, a3, i1, c1, bB_v]
  refine (tb _ (fun k hk => by simp only [aq_gs, show ¬ 52 = k by omega, if_false])).use ?_
  rintro _ _ ⟨rfl, rfl⟩
  simp only [s_X10_set_0, s_X10_set_1, s_X10_set_4, s_X10_set_5, s_X10_set_6, s_X10_set_7, s_X10_set_8, s_X10_set_9, s_X10_set_10, s_X10_set_11, s_X10_set_12, s_X10_set_15, s_X10_set_16, s_X10_set_17, s_X10_set_18, s_X10_set_21, s_X10_set_22, s_X10_set_23, s_X10_set_24, s_X10_set_27, s_X10_set_28, s_X10_set_29, s_X10_set_30, s_X10_set_31, s_X10_set_32, s_X10_set_33, s_X10_set_34, s_X10_set_35, s_X10_set_38, s_X10_set_39, s_X10_set_40, s_X10_set_41, s_X10_set_44, s_X10_set_45, s_X10_set_46, s_X10_set_47, s_X10_set_50, s_X10_set_51, s_X10_set_52, s_X10_set_53, s_X10_set_54, s_X10_set_55, s_X10_set_56, s_X10_set_57, s_X10_set_58, s_X10_set_61, s_X10_set_62, s_X10_set_63, s_X10_set_64, s_X10_set_67, s_X10_set_68, s_X10_set_69, aq_gI, aq_gL, aq_gA, aq_isA, aq_s1, aq_s2, aq_kill, aq_ob, aq_sm, aq_arI, aq_arB, aq_isB, aq_arL, aq_arA, aq_arN, aq_sh, Value.category, List.getElem?_cons_zero, List.getElem?_cons_succ, List.length_cons, List.length_nil, Option.toList_some, Option.toList_none, List.cons_append, List.nil_append, true_and, and_true, List.set_cons_zero, List.set_cons_succ, aq_n1, aq_n2, aq_n3, aq_n4, aq_f1, aq_f2, aq_f3, aq_f4, aq_gs, aq_ty1, aq_ty2, aq_ty3, aq_ty4, aq_ty5, Nat.reduceAdd, Nat.reduceLT, Nat.reduceEqDiff, Nat.reduceSub, if_true, if_false, ne_eq, not_false_eq_true, not_true_eq_false, Option.map_some, Option.map_none, Nat.zero_add, reduceCtorEq, Nat.reduceLeDiff, one_ne_zero_a, zero_ne_one_a, O, nI_4c, a3, a4, i1, c1, i2, c2, bB_v, List.set_set, nm]
  refine (tb _ (fun k hk => by simp only [aq_gs, show ¬ 52 = k by omega, show ¬ 53 = k by omega, if_false])).use ?_
  rintro _ _ ⟨rfl, rfl⟩
  simp only [s_X10_set_0, s_X10_set_1, s_X10_set_4, s_X10_set_5, s_X10_set_6, s_X10_set_7, s_X10_set_8, s_X10_set_9, s_X10_set_10, s_X10_set_11, s_X10_set_12, s_X10_set_15, s_X10_set_16, s_X10_set_17, s_X10_set_18, s_X10_set_21, s_X10_set_22, s_X10_set_23, s_X10_set_24, s_X10_set_27, s_X10_set_28, s_X10_set_29, s_X10_set_30, s_X10_set_31, s_X10_set_32, s_X10_set_33, s_X10_set_34, s_X10_set_35, s_X10_set_38, s_X10_set_39, s_X10_set_40, s_X10_set_41, s_X10_set_44, s_X10_set_45, s_X10_set_46, s_X10_set_47, s_X10_set_50, s_X10_set_51, s_X10_set_52, s_X10_set_53, s_X10_set_54, s_X10_set_55, s_X10_set_56, s_X10_set_57, s_X10_set_58, s_X10_set_61, s_X10_set_62, s_X10_set_63, s_X10_set_64, s_X10_set_67, s_X10_set_68, s_X10_set_69, aq_gI, aq_gL, aq_gA, aq_isA, aq_s1, aq_s2, aq_kill, aq_ob, aq_sm, aq_arI, aq_arB, aq_isB, aq_arL, aq_arA, aq_arN, aq_sh, Value.category, List.getElem?_cons_zero, List.getElem?_cons_succ, List.length_cons, List.length_nil, Option.toList_some, Option.toList_none, List.cons_append, List.nil_append, true_and, and_true, List.set_cons_zero, List.set_cons_succ, aq_n1, aq_n2, aq_n3, aq_n4, aq_f1, aq_f2, aq_f3, aq_f4, aq_gs, aq_ty1, aq_ty2, aq_ty3, aq_ty4, aq_ty5, Nat.reduceAdd, Nat.reduceLT, Nat.reduceEqDiff, Nat.reduceSub, if_true, if_false, ne_eq, not_false_eq_true, not_true_eq_false, Option.map_some, Option.map_none, Nat.zero_add, reduceCtorEq, Nat.reduceLeDiff, one_ne_zero_a, zero_ne_one_a, O, nI_4c, a3, a4, a5, i1, c1, i2, c2, bB_v, List.set_set, nm, n1]
  refine (tb _ (fun k hk => by simp only [aq_gs, show ¬ 52 = k by omega, show ¬ 53 = k by omega, show ¬ 54 = k by omega, if_false])).use ?_
  rintro _ _ ⟨rfl, rfl⟩
  simp only [s_X10_set_0, s_X10_set_1, s_X10_set_4, s_X10_set_5, s_X10_set_6, s_X10_set_7, s_X10_set_8, s_X10_set_9, s_X10_set_10, s_X10_set_11, s_X10_set_12, s_X10_set_15, s_X10_set_16, s_X10_set_17, s_X10_set_18, s_X10_set_21, s_X10_set_22, s_X10_set_23, s_X10_set_24, s_X10_set_27, s_X10_set_28, s_X10_set_29, s_X10_set_30, s_X10_set_31, s_X10_set_32, s_X10_set_33, s_X10_set_34, s_X10_set_35, s_X10_set_38, s_X10_set_39, s_X10_set_40, s_X10_set_41, s_X10_set_44, s_X10_set_45, s_X10_set_46, s_X10_set_47, s_X10_set_50, s_X10_set_51, s_X10_set_52, s_X10_set_53, s_X10_set_54, s_X10_set_55, s_X10_set_56, s_X10_set_57, s_X10_set_58, s_X10_set_61, s_X10_set_62, s_X10_set_63, s_X10_set_64, s_X10_set_67, s_X10_set_68, s_X10_set_69, aq_gI, aq_gL, aq_gA, aq_isA, aq_s1, aq_s2, aq_kill, aq_ob, aq_sm, aq_arI, aq_arB, aq_isB, aq_arL, aq_arA, aq_arN, aq_sh, Value.category, List.getElem?_cons_zero, List.getElem?_cons_succ, List.length_cons, List.length_nil, Option.toList_some, Option.toList_none, List.cons_append, List.nil_append, true_and, and_true, List.set_cons_zero, List.set_cons_succ, aq_n1, aq_n2, aq_n3, aq_n4, aq_f1, aq_f2, aq_f3, aq_f4, aq_gs, aq_ty1, aq_ty2, aq_ty3, aq_ty4, aq_ty5, Nat.reduceAdd, Nat.reduceLT, Nat.reduceEqDiff, Nat.reduceSub, if_true, if_false, ne_eq, not_false_eq_true, not_true_eq_false, Option.map_some, Option.map_none, Nat.zero_add, reduceCtorEq, Nat.reduceLeDiff, one_ne_zero_a, zero_ne_one_a, O, nI_4c, a3, a4, a5, i1, c1, i2, c2, bB_v, List.set_set, nm, n1]
theorem upd2 (f : Nat → Int32) (a b j : Nat) (x : Int32) : upd (upd f a x) b x j = if j = a ∨ j = b then x else f j := by
  unfold upd
  by_cases h1 : j = b
  · simp [h1]
  · by_cases h2 : j = a <;> simp [h1, h2]
theorem gMm_upd (Gd : 0 < w ∧ w < 13 ∧ 0 < ht ∧ ht < 13) (R : gMm w ht wx wy cb ob dr on mo md mw) {c d m : Nat} (hc : c < w * ht) (hd4 : d < 4) (hx : nx w ht wx wy cb c d = some m) {c' d' m' : Nat} (hc' : c' < w * ht) (hd' : d' < 4) (hx' : nx w ht wx wy cb c' d' = some m') : (4 * c' + d' = 4 * c + d ∨ 4 * c' + d' = 4 * m + (d + 2) % 4) ↔ pn c' d' m' = pn c d m := by
  have hb := (bd4 hd4).2.1
  have hk := nx_ok Gd.2.1 Gd.2.2.2 hc hd4 hx
  constructor
  · rintro (e | e)
    · have e1 : c' = c := by omega
      have e2 : d' = d := by omega
      subst e1; subst e2
      rw [hx] at hx'
      cases hx'
      rfl
    · have e1 : c' = m := by omega
      have e2 : d' = (d + 2) % 4 := by omega
      subst e1; subst e2
      rw [hk.2.2.2.2] at hx'
      cases hx'
      exact pn_back hx hd4
  · intro e
    rcases pn_inj Gd.2.1 Gd.2.2.2 hc hd4 hx hc' hd' hx' e.symm with ⟨e1, e2, -⟩ | ⟨e1, e2, -⟩
    · exact Or.inl (by omega)
    · exact Or.inr (by omega)
theorem gMm_open (Gd : 0 < w ∧ w < 13 ∧ 0 < ht ∧ ht < 13) (R : gMm w ht wx wy cb ob dr on mo md mw) {c d m : Nat} (hc : c < w * ht) (hd4 : d < 4) (hx : nx w ht wx wy cb c d = some m) (v : Bool) :
    gMm w ht wx wy cb (fs ob (pn c d m) v) (fs dr (pn c d m) none) (fs on (pn c d m) none) (upd (upd mo (4 * c + d) (bB v)) (4 * m + (d + 2) % 4) (bB v)) (upd (upd md (4 * c + d) (-1)) (4 * m + (d + 2) % 4) (-1)) (upd (upd mw (4 * c + d) 1) (4 * m + (d + 2) % 4) 1) := by
  intro c' d' m' hc' hd' hx'
  have hi := gMm_upd Gd R hc hd4 hx hc' hd' hx'
  have hr := R c' d' m' hc' hd' hx'
  rw [upd2, upd2, upd2]
  by_cases e : pn c' d' m' = pn c d m
  · rw [if_pos (hi.mpr e), if_pos (hi.mpr e), if_pos (hi.mpr e), e, fs_s, fs_s, fs_s]
    exact ⟨rfl, rfl, rfl⟩
  · have e2 : ¬ (4 * c' + d' = 4 * c + d ∨ 4 * c' + d' = 4 * m + (d + 2) % 4) := fun q => e (hi.mp q)
    rw [if_neg e2, if_neg e2, if_neg e2, fs_n _ _ e, fs_n _ _ e, fs_n _ _ e]
    exact hr
theorem gMz_open {N : Nat} {op dk od kc : Nat → Int32} (H : gMz N ob dr on ky op dk od kc) {p : Nat} (v : Bool) : gMz N (fs ob p v) (fs dr p none) (fs on p none) ky (upd op p (bB v)) (upd dk p (-1)) (upd od p (-1)) kc := by
  obtain ⟨h1, h2, h3, h4⟩ := H
  refine ⟨fun q hq => ?_, fun q hq => ?_, fun q hq => ?_, h4⟩
  · by_cases e : q = p
    · rw [e, upd_s, fs_s]
    · rw [upd_n _ _ e, fs_n _ _ e]; exact h1 q hq
  · by_cases e : q = p
    · rw [e, upd_s, fs_s]; exact ⟨rfl, fun k hk => by cases hk⟩
    · rw [upd_n _ _ e, fs_n _ _ e]; exact h2 q hq
  · by_cases e : q = p
    · rw [e, upd_s, fs_s]; exact ⟨rfl, fun k hk => by cases hk⟩
    · rw [upd_n _ _ e, fs_n _ _ e]; exact h3 q hq
theorem m_openOnes (O : iMo h w ht wr thr th rt ci st ex pl hd sg) (G : gMb h w ht wx wy cb wr mc) (a3 : h[52]? = some (.inl (.boolean, 576, .inl mo))) (R : gMm w ht wx wy cb ob dr on mo md mw) {c : Nat} (hc : c < w * ht) : aq_T e_X10_openOnes 4 0 0 [.ref 47, .int (nI c)] h (rd (nI (opc w ht wx wy cb ob c 4)) h) := by
  have hn := wh_lt G.1
  have tt := fun d => m_next O G (nI c) d
  unfold iMo at O
  refine ⟨Nat.le_of_ble_eq_true rfl, ?_⟩
  show aq_W _ _ 0 [some (.ref 47), some (.int (nI c)), none, none] [] _ _ _
  have one : ∀ (k d : Nat), d + k = 4 → aq_W e_X10_openOnes (rd (nI (opc w ht wx wy cb ob c 4)) h) 4 [some (.ref 47), some (.int (nI c)), some (.int (nI (opc w ht wx wy cb ob c d))), some (.int (nI d))] [] h 0 0 := by
    intro k
    induction k with
    | zero =>
      intro d hd'
      have e : d = 4 := by omega
      subst e
      have h4 : (4 : Int32) ≤ nI 4 := by decide
      rw [s_X10_openOnes_4]
      simp only [s_X10_openOnes_0, s_X10_openOnes_1, s_X10_openOnes_2, s_X10_openOnes_3, s_X10_openOnes_5, s_X10_openOnes_6, s_X10_openOnes_9, s_X10_openOnes_10, s_X10_openOnes_11, s_X10_openOnes_12, s_X10_openOnes_13, s_X10_openOnes_16, s_X10_openOnes_17, s_X10_openOnes_20, s_X10_openOnes_21, s_X10_openOnes_24, s_X10_openOnes_25, s_X10_openOnes_26, s_X10_openOnes_27, s_X10_openOnes_28, s_X10_openOnes_29, s_X10_openOnes_30, s_X10_openOnes_33, s_X10_openOnes_34, s_X10_openOnes_37, s_X10_openOnes_38, s_X10_openOnes_39, s_X10_openOnes_40, s_X10_openOnes_43, s_X10_openOnes_46, s_X10_openOnes_47, aq_gI, aq_gL, aq_gA, aq_isA, aq_s1, aq_s2, aq_kill, aq_ob, aq_sm, aq_arI, aq_arB, aq_isB, aq_arL, aq_arA, aq_arN, aq_sh, Value.category, List.getElem?_cons_zero, List.getElem?_cons_succ, List.length_cons, List.length_nil, Option.toList_some, Option.toList_none, List.cons_append, List.nil_append, true_and, and_true, List.set_cons_zero, List.set_cons_succ, aq_n1, aq_n2, aq_n3, aq_n4, aq_f1, aq_f2, aq_f3, aq_f4, aq_gs, aq_ty1, aq_ty2, aq_ty3, aq_ty4, aq_ty5, Nat.reduceAdd, Nat.reduceLT, Nat.reduceEqDiff, Nat.reduceSub, if_true, if_false, ne_eq, not_false_eq_true, not_true_eq_false, Option.map_some, Option.map_none, Nat.zero_add, reduceCtorEq, Nat.reduceLeDiff, one_ne_zero_a, zero_ne_one_a, h4, rd]
    | succ k ih =>
      intro d hd'
      have hd4 : d < 4 := by omega
      have h4 : ¬ (4 : Int32) ≤ nI d := by rw [nI_4]; exact nI_ge hd4 (by omega)
      have hnext := ih (d + 1) (by omega)
      rw [s_X10_openOnes_4]
      simp only [s_X10_openOnes_0, s_X10_openOnes_1, s_X10_openOnes_2, s_X10_openOnes_3, s_X10_openOnes_5, s_X10_openOnes_6, s_X10_openOnes_9, s_X10_openOnes_10, s_X10_openOnes_11, s_X10_openOnes_12, s_X10_openOnes_13, s_X10_openOnes_16, s_X10_openOnes_17, s_X10_openOnes_20, s_X10_openOnes_21, s_X10_openOnes_24, s_X10_openOnes_25, s_X10_openOnes_26, s_X10_openOnes_27, s_X10_openOnes_28, s_X10_openOnes_29, s_X10_openOnes_30, s_X10_openOnes_33, s_X10_openOnes_34, s_X10_openOnes_37, s_X10_openOnes_38, s_X10_openOnes_39, s_X10_openOnes_40, s_X10_openOnes_43, s_X10_openOnes_46, s_X10_openOnes_47, aq_gI, aq_gL, aq_gA, aq_isA, aq_s1, aq_s2, aq_kill, aq_ob, aq_sm, aq_arI, aq_arB, aq_isB, aq_arL, aq_arA, aq_arN, aq_sh, Value.category, List.getElem?_cons_zero, List.getElem?_cons_succ, List.length_cons, List.length_nil, Option.toList_some, Option.toList_none, List.cons_append, List.nil_append, true_and, and_true, List.set_cons_zero, List.set_cons_succ, aq_n1, aq_n2, aq_n3, aq_n4, aq_f1, aq_f2, aq_f3, aq_f4, aq_gs, aq_ty1, aq_ty2, aq_ty3, aq_ty4, aq_ty5, Nat.reduceAdd, Nat.reduceLT, Nat.reduceEqDiff, Nat.reduceSub, if_true, if_false, ne_eq, not_false_eq_true, not_true_eq_false, Option.map_some, Option.map_none, Nat.zero_add, reduceCtorEq, Nat.reduceLeDiff, one_ne_zero_a, zero_ne_one_a, h4, O]
      refine (tt (nI d)).use ?_
      rintro _ _ ⟨rfl, rfl⟩
      rw [NX_in hc (by omega) hd4]
      rw [show opc w ht wx wy cb ob c (d + 1) = opc w ht wx wy cb ob c d + (if opn w ht wx wy cb ob c d = true then 1 else 0) from rfl] at hnext
      unfold opn at hnext
      cases hx : nx w ht wx wy cb c d with
      | none =>
        rw [hx] at hnext
        simp only [oI, s_X10_openOnes_0, s_X10_openOnes_1, s_X10_openOnes_2, s_X10_openOnes_3, s_X10_openOnes_5, s_X10_openOnes_6, s_X10_openOnes_9, s_X10_openOnes_10, s_X10_openOnes_11, s_X10_openOnes_12, s_X10_openOnes_13, s_X10_openOnes_16, s_X10_openOnes_17, s_X10_openOnes_20, s_X10_openOnes_21, s_X10_openOnes_24, s_X10_openOnes_25, s_X10_openOnes_26, s_X10_openOnes_27, s_X10_openOnes_28, s_X10_openOnes_29, s_X10_openOnes_30, s_X10_openOnes_33, s_X10_openOnes_34, s_X10_openOnes_37, s_X10_openOnes_38, s_X10_openOnes_39, s_X10_openOnes_40, s_X10_openOnes_43, s_X10_openOnes_46, s_X10_openOnes_47, aq_gI, aq_gL, aq_gA, aq_isA, aq_s1, aq_s2, aq_kill, aq_ob, aq_sm, aq_arI, aq_arB, aq_isB, aq_arL, aq_arA, aq_arN, aq_sh, Value.category, List.getElem?_cons_zero, List.getElem?_cons_succ, List.length_cons, List.length_nil, Option.toList_some, Option.toList_none, List.cons_append, List.nil_append, true_and, and_true, List.set_cons_zero, List.set_cons_succ, aq_n1, aq_n2, aq_n3, aq_n4, aq_f1, aq_f2, aq_f3, aq_f4, aq_gs, aq_ty1, aq_ty2, aq_ty3, aq_ty4, aq_ty5, Nat.reduceAdd, Nat.reduceLT, Nat.reduceEqDiff, Nat.reduceSub, if_true, if_false, ne_eq, not_false_eq_true, not_true_eq_false, Option.map_some, Option.map_none, Nat.zero_add, reduceCtorEq, Nat.reduceLeDiff, one_ne_zero_a, zero_ne_one_a, nI_1, n0a]
        exact hnext
      | some m =>
        have hm := (nx_ok G.1.2.1 G.1.2.2.2 hc hd4 hx).1
        rw [hx] at hnext
        simp only [oI, s_X10_openOnes_0, s_X10_openOnes_1, s_X10_openOnes_2, s_X10_openOnes_3, s_X10_openOnes_5, s_X10_openOnes_6, s_X10_openOnes_9, s_X10_openOnes_10, s_X10_openOnes_11, s_X10_openOnes_12, s_X10_openOnes_13, s_X10_openOnes_16, s_X10_openOnes_17, s_X10_openOnes_20, s_X10_openOnes_21, s_X10_openOnes_24, s_X10_openOnes_25, s_X10_openOnes_26, s_X10_openOnes_27, s_X10_openOnes_28, s_X10_openOnes_29, s_X10_openOnes_30, s_X10_openOnes_33, s_X10_openOnes_34, s_X10_openOnes_37, s_X10_openOnes_38, s_X10_openOnes_39, s_X10_openOnes_40, s_X10_openOnes_43, s_X10_openOnes_46, s_X10_openOnes_47, aq_gI, aq_gL, aq_gA, aq_isA, aq_s1, aq_s2, aq_kill, aq_ob, aq_sm, aq_arI, aq_arB, aq_isB, aq_arL, aq_arA, aq_arN, aq_sh, Value.category, List.getElem?_cons_zero, List.getElem?_cons_succ, List.length_cons, List.length_nil, Option.toList_some, Option.toList_none, List.cons_append, List.nil_append, true_and, and_true, List.set_cons_zero, List.set_cons_succ, aq_n1, aq_n2, aq_n3, aq_n4, aq_f1, aq_f2, aq_f3, aq_f4, aq_gs, aq_ty1, aq_ty2, aq_ty3, aq_ty4, aq_ty5, Nat.reduceAdd, Nat.reduceLT, Nat.reduceEqDiff, Nat.reduceSub, if_true, if_false, ne_eq, not_false_eq_true, not_true_eq_false, Option.map_some, Option.map_none, Nat.zero_add, reduceCtorEq, Nat.reduceLeDiff, one_ne_zero_a, zero_ne_one_a, nI_ne_m1 (show m < 2 ^ 31 by omega), O, a3, nI_4c, vp_in_nI (show 4 * c + d < 576 by omega) (show 576 < 2 ^ 31 by decide), nI_clamp (show 4 * c + d < 2 ^ 31 by omega), (R c d m hc hd4 hx).1]
        cases ho : ob (pn c d m) with
        | false =>
          simp only [ho] at hnext
          simp only [bB_f, s_X10_openOnes_0, s_X10_openOnes_1, s_X10_openOnes_2, s_X10_openOnes_3, s_X10_openOnes_5, s_X10_openOnes_6, s_X10_openOnes_9, s_X10_openOnes_10, s_X10_openOnes_11, s_X10_openOnes_12, s_X10_openOnes_13, s_X10_openOnes_16, s_X10_openOnes_17, s_X10_openOnes_20, s_X10_openOnes_21, s_X10_openOnes_24, s_X10_openOnes_25, s_X10_openOnes_26, s_X10_openOnes_27, s_X10_openOnes_28, s_X10_openOnes_29, s_X10_openOnes_30, s_X10_openOnes_33, s_X10_openOnes_34, s_X10_openOnes_37, s_X10_openOnes_38, s_X10_openOnes_39, s_X10_openOnes_40, s_X10_openOnes_43, s_X10_openOnes_46, s_X10_openOnes_47, aq_gI, aq_gL, aq_gA, aq_isA, aq_s1, aq_s2, aq_kill, aq_ob, aq_sm, aq_arI, aq_arB, aq_isB, aq_arL, aq_arA, aq_arN, aq_sh, Value.category, List.getElem?_cons_zero, List.getElem?_cons_succ, List.length_cons, List.length_nil, Option.toList_some, Option.toList_none, List.cons_append, List.nil_append, true_and, and_true, List.set_cons_zero, List.set_cons_succ, aq_n1, aq_n2, aq_n3, aq_n4, aq_f1, aq_f2, aq_f3, aq_f4, aq_gs, aq_ty1, aq_ty2, aq_ty3, aq_ty4, aq_ty5, Nat.reduceAdd, Nat.reduceLT, Nat.reduceEqDiff, Nat.reduceSub, if_true, if_false, ne_eq, not_false_eq_true, not_true_eq_false, Option.map_some, Option.map_none, Nat.zero_add, reduceCtorEq, Nat.reduceLeDiff, one_ne_zero_a, zero_ne_one_a, nI_1, n0a]
          exact hnext
        | true =>
          simp only [ho] at hnext
          simp only [bB_t, s_X10_openOnes_0, s_X10_openOnes_1, s_X10_openOnes_2, s_X10_openOnes_3, s_X10_openOnes_5, s_X10_openOnes_6, s_X10_openOnes_9, s_X10_openOnes_10, s_X10_openOnes_11, s_X10_openOnes_12, s_X10_openOnes_13, s_X10_openOnes_16, s_X10_openOnes_17, s_X10_openOnes_20, s_X10_openOnes_21, s_X10_openOnes_24, s_X10_openOnes_25, s_X10_openOnes_26, s_X10_openOnes_27, s_X10_openOnes_28, s_X10_openOnes_29, s_X10_openOnes_30, s_X10_openOnes_33, s_X10_openOnes_34, s_X10_openOnes_37, s_X10_openOnes_38, s_X10_openOnes_39, s_X10_openOnes_40, s_X10_openOnes_43, s_X10_openOnes_46, s_X10_openOnes_47, aq_gI, aq_gL, aq_gA, aq_isA, aq_s1, aq_s2, aq_kill, aq_ob, aq_sm, aq_arI, aq_arB, aq_isB, aq_arL, aq_arA, aq_arN, aq_sh, Value.category, List.getElem?_cons_zero, List.getElem?_cons_succ, List.length_cons, List.length_nil, Option.toList_some, Option.toList_none, List.cons_append, List.nil_append, true_and, and_true, List.set_cons_zero, List.set_cons_succ, aq_n1, aq_n2, aq_n3, aq_n4, aq_f1, aq_f2, aq_f3, aq_f4, aq_gs, aq_ty1, aq_ty2, aq_ty3, aq_ty4, aq_ty5, Nat.reduceAdd, Nat.reduceLT, Nat.reduceEqDiff, Nat.reduceSub, if_true, if_false, ne_eq, not_false_eq_true, not_true_eq_false, Option.map_some, Option.map_none, Nat.zero_add, reduceCtorEq, Nat.reduceLeDiff, one_ne_zero_a, zero_ne_one_a, nI_1]
          exact hnext
  simp only [s_X10_openOnes_0, s_X10_openOnes_1, s_X10_openOnes_2, s_X10_openOnes_3, s_X10_openOnes_5, s_X10_openOnes_6, s_X10_openOnes_9, s_X10_openOnes_10, s_X10_openOnes_11, s_X10_openOnes_12, s_X10_openOnes_13, s_X10_openOnes_16, s_X10_openOnes_17, s_X10_openOnes_20, s_X10_openOnes_21, s_X10_openOnes_24, s_X10_openOnes_25, s_X10_openOnes_26, s_X10_openOnes_27, s_X10_openOnes_28, s_X10_openOnes_29, s_X10_openOnes_30, s_X10_openOnes_33, s_X10_openOnes_34, s_X10_openOnes_37, s_X10_openOnes_38, s_X10_openOnes_39, s_X10_openOnes_40, s_X10_openOnes_43, s_X10_openOnes_46, s_X10_openOnes_47, aq_gI, aq_gL, aq_gA, aq_isA, aq_s1, aq_s2, aq_kill, aq_ob, aq_sm, aq_arI, aq_arB, aq_isB, aq_arL, aq_arA, aq_arN, aq_sh, Value.category, List.getElem?_cons_zero, List.getElem?_cons_succ, List.length_cons, List.length_nil, Option.toList_some, Option.toList_none, List.cons_append, List.nil_append, true_and, and_true, List.set_cons_zero, List.set_cons_succ, aq_n1, aq_n2, aq_n3, aq_n4, aq_f1, aq_f2, aq_f3, aq_f4, aq_gs, aq_ty1, aq_ty2, aq_ty3, aq_ty4, aq_ty5, Nat.reduceAdd, Nat.reduceLT, Nat.reduceEqDiff, Nat.reduceSub, if_true, if_false, ne_eq, not_false_eq_true, not_true_eq_false, Option.map_some, Option.map_none, Nat.zero_add, reduceCtorEq, Nat.reduceLeDiff, one_ne_zero_a, zero_ne_one_a]
  exact one 4 0 rfl
theorem m_isOpen (O : iMo h w ht wr thr 1 rt ci st ex pl hd sg) (G : gMb h w ht wx wy cb wr mc) (a3 : h[52]? = some (.inl (.boolean, 576, .inl mo))) (R : gMm w ht wx wy cb ob dr on mo md mw) {c : Nat} (hc : c < w * ht) (d : Int32) : aq_T e_X10_isOpen 3 0 0 [.ref 47, .int (nI c), .int d] h (rd (bB (inC 4 d && opn w ht wx wy cb ob c d.toNatClampNeg)) h) := by
  have hn := wh_lt G.1
  have tt := m_next O G (nI c) d
  unfold iMo at O
  refine ⟨Nat.le_of_ble_eq_true rfl, ?_⟩
  show aq_W _ _ 0 [some (.ref 47), some (.int (nI c)), some (.int d)] [] _ _ _
  simp only [s_X10_isOpen_0, s_X10_isOpen_1, s_X10_isOpen_4, s_X10_isOpen_7, s_X10_isOpen_8, s_X10_isOpen_9, s_X10_isOpen_10, s_X10_isOpen_13, s_X10_isOpen_14, s_X10_isOpen_17, s_X10_isOpen_18, s_X10_isOpen_21, s_X10_isOpen_22, s_X10_isOpen_23, s_X10_isOpen_24, s_X10_isOpen_25, s_X10_isOpen_26, s_X10_isOpen_27, s_X10_isOpen_30, s_X10_isOpen_31, s_X10_isOpen_34, s_X10_isOpen_35, aq_gI, aq_gL, aq_gA, aq_isA, aq_s1, aq_s2, aq_kill, aq_ob, aq_sm, aq_arI, aq_arB, aq_isB, aq_arL, aq_arA, aq_arN, aq_sh, Value.category, List.getElem?_cons_zero, List.getElem?_cons_succ, List.length_cons, List.length_nil, Option.toList_some, Option.toList_none, List.cons_append, List.nil_append, true_and, and_true, List.set_cons_zero, List.set_cons_succ, aq_n1, aq_n2, aq_n3, aq_n4, aq_f1, aq_f2, aq_f3, aq_f4, aq_gs, aq_ty1, aq_ty2, aq_ty3, aq_ty4, aq_ty5, Nat.reduceAdd, Nat.reduceLT, Nat.reduceEqDiff, Nat.reduceSub, if_true, if_false, ne_eq, not_false_eq_true, not_true_eq_false, Option.map_some, Option.map_none, Nat.zero_add, reduceCtorEq, Nat.reduceLeDiff, one_ne_zero_a, zero_ne_one_a, O]
  refine tt.use ?_
  rintro _ _ ⟨rfl, rfl⟩
  rcases inC_cs 4 d (by omega) with hd' | ⟨k, hk, rfl⟩
  · simp only [NX_out (Or.inr hd'), s_X10_isOpen_0, s_X10_isOpen_1, s_X10_isOpen_4, s_X10_isOpen_7, s_X10_isOpen_8, s_X10_isOpen_9, s_X10_isOpen_10, s_X10_isOpen_13, s_X10_isOpen_14, s_X10_isOpen_17, s_X10_isOpen_18, s_X10_isOpen_21, s_X10_isOpen_22, s_X10_isOpen_23, s_X10_isOpen_24, s_X10_isOpen_25, s_X10_isOpen_26, s_X10_isOpen_27, s_X10_isOpen_30, s_X10_isOpen_31, s_X10_isOpen_34, s_X10_isOpen_35, aq_gI, aq_gL, aq_gA, aq_isA, aq_s1, aq_s2, aq_kill, aq_ob, aq_sm, aq_arI, aq_arB, aq_isB, aq_arL, aq_arA, aq_arN, aq_sh, Value.category, List.getElem?_cons_zero, List.getElem?_cons_succ, List.length_cons, List.length_nil, Option.toList_some, Option.toList_none, List.cons_append, List.nil_append, true_and, and_true, List.set_cons_zero, List.set_cons_succ, aq_n1, aq_n2, aq_n3, aq_n4, aq_f1, aq_f2, aq_f3, aq_f4, aq_gs, aq_ty1, aq_ty2, aq_ty3, aq_ty4, aq_ty5, Nat.reduceAdd, Nat.reduceLT, Nat.reduceEqDiff, Nat.reduceSub, if_true, if_false, ne_eq, not_false_eq_true, not_true_eq_false, Option.map_some, Option.map_none, Nat.zero_add, reduceCtorEq, Nat.reduceLeDiff, one_ne_zero_a, zero_ne_one_a, hd', rd, Bool.false_and, bB_f]; (first | trivial | exact ⟨rfl, rfl⟩ | exact ⟨rfl, trivial⟩ | exact ⟨rfl, rfl, trivial⟩ | rfl)
  · simp only [NX_in hc (show w * ht < 2 ^ 31 by omega) hk, inC_nI hk (show 4 < 2 ^ 31 by decide), nI_clamp (show k < 2 ^ 31 by omega), Bool.true_and]
    unfold opn
    cases hx : nx w ht wx wy cb c k with
    | none => simp only [oI, s_X10_isOpen_0, s_X10_isOpen_1, s_X10_isOpen_4, s_X10_isOpen_7, s_X10_isOpen_8, s_X10_isOpen_9, s_X10_isOpen_10, s_X10_isOpen_13, s_X10_isOpen_14, s_X10_isOpen_17, s_X10_isOpen_18, s_X10_isOpen_21, s_X10_isOpen_22, s_X10_isOpen_23, s_X10_isOpen_24, s_X10_isOpen_25, s_X10_isOpen_26, s_X10_isOpen_27, s_X10_isOpen_30, s_X10_isOpen_31, s_X10_isOpen_34, s_X10_isOpen_35, aq_gI, aq_gL, aq_gA, aq_isA, aq_s1, aq_s2, aq_kill, aq_ob, aq_sm, aq_arI, aq_arB, aq_isB, aq_arL, aq_arA, aq_arN, aq_sh, Value.category, List.getElem?_cons_zero, List.getElem?_cons_succ, List.length_cons, List.length_nil, Option.toList_some, Option.toList_none, List.cons_append, List.nil_append, true_and, and_true, List.set_cons_zero, List.set_cons_succ, aq_n1, aq_n2, aq_n3, aq_n4, aq_f1, aq_f2, aq_f3, aq_f4, aq_gs, aq_ty1, aq_ty2, aq_ty3, aq_ty4, aq_ty5, Nat.reduceAdd, Nat.reduceLT, Nat.reduceEqDiff, Nat.reduceSub, if_true, if_false, ne_eq, not_false_eq_true, not_true_eq_false, Option.map_some, Option.map_none, Nat.zero_add, reduceCtorEq, Nat.reduceLeDiff, one_ne_zero_a, zero_ne_one_a, rd, bB_f]; (first | trivial | exact ⟨rfl, rfl⟩ | exact ⟨rfl, trivial⟩ | exact ⟨rfl, rfl, trivial⟩ | rfl)
    | some m =>
      have hm := (nx_ok G.1.2.1 G.1.2.2.2 hc hk hx).1
      simp only [oI, s_X10_isOpen_0, s_X10_isOpen_1, s_X10_isOpen_4, s_X10_isOpen_7, s_X10_isOpen_8, s_X10_isOpen_9, s_X10_isOpen_10, s_X10_isOpen_13, s_X10_isOpen_14, s_X10_isOpen_17, s_X10_isOpen_18, s_X10_isOpen_21, s_X10_isOpen_22, s_X10_isOpen_23, s_X10_isOpen_24, s_X10_isOpen_25, s_X10_isOpen_26, s_X10_isOpen_27, s_X10_isOpen_30, s_X10_isOpen_31, s_X10_isOpen_34, s_X10_isOpen_35, aq_gI, aq_gL, aq_gA, aq_isA, aq_s1, aq_s2, aq_kill, aq_ob, aq_sm, aq_arI, aq_arB, aq_isB, aq_arL, aq_arA, aq_arN, aq_sh, Value.category, List.getElem?_cons_zero, List.getElem?_cons_succ, List.length_cons, List.length_nil, Option.toList_some, Option.toList_none, List.cons_append, List.nil_append, true_and, and_true, List.set_cons_zero, List.set_cons_succ, aq_n1, aq_n2, aq_n3, aq_n4, aq_f1, aq_f2, aq_f3, aq_f4, aq_gs, aq_ty1, aq_ty2, aq_ty3, aq_ty4, aq_ty5, Nat.reduceAdd, Nat.reduceLT, Nat.reduceEqDiff, Nat.reduceSub, if_true, if_false, ne_eq, not_false_eq_true, not_true_eq_false, Option.map_some, Option.map_none, Nat.zero_add, reduceCtorEq, Nat.reduceLeDiff, one_ne_zero_a, zero_ne_one_a, nI_ne_m1 (show m < 2 ^ 31 by omega), O, a3, nI_4c, vp_in_nI (show 4 * c + k < 576 by omega) (show 576 < 2 ^ 31 by decide), nI_clamp (show 4 * c + k < 2 ^ 31 by omega), (R c k m hc hk hx).1, rd]
      cases ho : ob (pn c k m)
      · simp only [bB_f, if_true]; (first | trivial | exact ⟨rfl, rfl⟩ | exact ⟨rfl, trivial⟩ | exact ⟨rfl, rfl, trivial⟩ | rfl)
      · simp only [bB_t, one_ne_zero_a, if_false]; (first | trivial | exact ⟨rfl, rfl⟩ | exact ⟨rfl, trivial⟩ | exact ⟨rfl, rfl, trivial⟩ | rfl)
theorem m_isOpen0 (O : iMo h w ht wr thr 0 rt ci st ex pl hd sg) (c d : Int32) : aq_T e_X10_isOpen 3 0 0 [.ref 47, .int c, .int d] h (rd 0 h) := by
  unfold iMo at O
  refine ⟨Nat.le_of_ble_eq_true rfl, ?_⟩
  show aq_W _ _ 0 [some (.ref 47), some (.int c), some (.int d)] [] _ _ _
  simp only [s_X10_isOpen_0, s_X10_isOpen_1, s_X10_isOpen_4, s_X10_isOpen_7, s_X10_isOpen_8, s_X10_isOpen_9, s_X10_isOpen_10, s_X10_isOpen_13, s_X10_isOpen_14, s_X10_isOpen_17, s_X10_isOpen_18, s_X10_isOpen_21, s_X10_isOpen_22, s_X10_isOpen_23, s_X10_isOpen_24, s_X10_isOpen_25, s_X10_isOpen_26, s_X10_isOpen_27, s_X10_isOpen_30, s_X10_isOpen_31, s_X10_isOpen_34, s_X10_isOpen_35, aq_gI, aq_gL, aq_gA, aq_isA, aq_s1, aq_s2, aq_kill, aq_ob, aq_sm, aq_arI, aq_arB, aq_isB, aq_arL, aq_arA, aq_arN, aq_sh, Value.category, List.getElem?_cons_zero, List.getElem?_cons_succ, List.length_cons, List.length_nil, Option.toList_some, Option.toList_none, List.cons_append, List.nil_append, true_and, and_true, List.set_cons_zero, List.set_cons_succ, aq_n1, aq_n2, aq_n3, aq_n4, aq_f1, aq_f2, aq_f3, aq_f4, aq_gs, aq_ty1, aq_ty2, aq_ty3, aq_ty4, aq_ty5, Nat.reduceAdd, Nat.reduceLT, Nat.reduceEqDiff, Nat.reduceSub, if_true, if_false, ne_eq, not_false_eq_true, not_true_eq_false, Option.map_some, Option.map_none, Nat.zero_add, reduceCtorEq, Nat.reduceLeDiff, one_ne_zero_a, zero_ne_one_a, O, rd]
  (first | trivial | exact ⟨rfl, rfl⟩ | exact ⟨rfl, trivial⟩ | exact ⟨rfl, rfl, trivial⟩ | rfl)
theorem m_keysAt (O : iMo h w ht wr thr th rt ci st ex pl hd sg) (a6 : h[55]? = some (.inl (.int, 4, .inl mk))) (c : Int32) : aq_T e_X10_keysAt 4 0 0 [.ref 47, .int c] h (rd (nI (km mk c)) h) := by
  unfold iMo at O
  refine ⟨Nat.le_of_ble_eq_true rfl, ?_⟩
  show aq_W _ _ 0 [some (.ref 47), some (.int c), none, none] [] _ _ _
  have one : ∀ (k : Nat) (a : Int32), k < 4 → aq_W e_X10_keysAt (rd (nI (km mk c)) h) 4 [some (.ref 47), some (.int c), some (.int (a + (if mk k = c then ((1 : Int32) <<< (nI k &&& 31)) else 0))), some (.int (nI (k + 1)))] [] h 0 0 → aq_W e_X10_keysAt (rd (nI (km mk c)) h) 4 [some (.ref 47), some (.int c), some (.int a), some (.int (nI k))] [] h 0 0 := by
    intro k a hk hh
    have h4 : ¬ (4 : Int32) ≤ nI k := by rw [nI_4]; exact nI_ge hk (by omega)
    rw [s_X10_keysAt_4]
    simp only [s_X10_keysAt_0, s_X10_keysAt_1, s_X10_keysAt_2, s_X10_keysAt_3, s_X10_keysAt_5, s_X10_keysAt_6, s_X10_keysAt_9, s_X10_keysAt_10, s_X10_keysAt_11, s_X10_keysAt_14, s_X10_keysAt_15, s_X10_keysAt_16, s_X10_keysAt_17, s_X10_keysAt_20, s_X10_keysAt_21, s_X10_keysAt_22, s_X10_keysAt_23, s_X10_keysAt_26, s_X10_keysAt_27, s_X10_keysAt_28, s_X10_keysAt_29, s_X10_keysAt_32, s_X10_keysAt_35, s_X10_keysAt_36, aq_gI, aq_gL, aq_gA, aq_isA, aq_s1, aq_s2, aq_kill, aq_ob, aq_sm, aq_arI, aq_arB, aq_isB, aq_arL, aq_arA, aq_arN, aq_sh, Value.category, List.getElem?_cons_zero, List.getElem?_cons_succ, List.length_cons, List.length_nil, Option.toList_some, Option.toList_none, List.cons_append, List.nil_append, true_and, and_true, List.set_cons_zero, List.set_cons_succ, aq_n1, aq_n2, aq_n3, aq_n4, aq_f1, aq_f2, aq_f3, aq_f4, aq_gs, aq_ty1, aq_ty2, aq_ty3, aq_ty4, aq_ty5, Nat.reduceAdd, Nat.reduceLT, Nat.reduceEqDiff, Nat.reduceSub, if_true, if_false, ne_eq, not_false_eq_true, not_true_eq_false, Option.map_some, Option.map_none, Nat.zero_add, reduceCtorEq, Nat.reduceLeDiff, one_ne_zero_a, zero_ne_one_a, O, a6, h4, vp_in_nI hk (show 4 < 2 ^ 31 by decide), nI_clamp (show k < 2 ^ 31 by omega), nI_1]
    by_cases e : mk k = c
    · simp only [e, s_X10_keysAt_0, s_X10_keysAt_1, s_X10_keysAt_2, s_X10_keysAt_3, s_X10_keysAt_5, s_X10_keysAt_6, s_X10_keysAt_9, s_X10_keysAt_10, s_X10_keysAt_11, s_X10_keysAt_14, s_X10_keysAt_15, s_X10_keysAt_16, s_X10_keysAt_17, s_X10_keysAt_20, s_X10_keysAt_21, s_X10_keysAt_22, s_X10_keysAt_23, s_X10_keysAt_26, s_X10_keysAt_27, s_X10_keysAt_28, s_X10_keysAt_29, s_X10_keysAt_32, s_X10_keysAt_35, s_X10_keysAt_36, aq_gI, aq_gL, aq_gA, aq_isA, aq_s1, aq_s2, aq_kill, aq_ob, aq_sm, aq_arI, aq_arB, aq_isB, aq_arL, aq_arA, aq_arN, aq_sh, Value.category, List.getElem?_cons_zero, List.getElem?_cons_succ, List.length_cons, List.length_nil, Option.toList_some, Option.toList_none, List.cons_append, List.nil_append, true_and, and_true, List.set_cons_zero, List.set_cons_succ, aq_n1, aq_n2, aq_n3, aq_n4, aq_f1, aq_f2, aq_f3, aq_f4, aq_gs, aq_ty1, aq_ty2, aq_ty3, aq_ty4, aq_ty5, Nat.reduceAdd, Nat.reduceLT, Nat.reduceEqDiff, Nat.reduceSub, if_true, if_false, ne_eq, not_false_eq_true, not_true_eq_false, Option.map_some, Option.map_none, Nat.zero_add, reduceCtorEq, Nat.reduceLeDiff, one_ne_zero_a, zero_ne_one_a, nI_1] at hh ⊢
      exact hh
    · simp only [e, s_X10_keysAt_0, s_X10_keysAt_1, s_X10_keysAt_2, s_X10_keysAt_3, s_X10_keysAt_5, s_X10_keysAt_6, s_X10_keysAt_9, s_X10_keysAt_10, s_X10_keysAt_11, s_X10_keysAt_14, s_X10_keysAt_15, s_X10_keysAt_16, s_X10_keysAt_17, s_X10_keysAt_20, s_X10_keysAt_21, s_X10_keysAt_22, s_X10_keysAt_23, s_X10_keysAt_26, s_X10_keysAt_27, s_X10_keysAt_28, s_X10_keysAt_29, s_X10_keysAt_32, s_X10_keysAt_35, s_X10_keysAt_36, aq_gI, aq_gL, aq_gA, aq_isA, aq_s1, aq_s2, aq_kill, aq_ob, aq_sm, aq_arI, aq_arB, aq_isB, aq_arL, aq_arA, aq_arN, aq_sh, Value.category, List.getElem?_cons_zero, List.getElem?_cons_succ, List.length_cons, List.length_nil, Option.toList_some, Option.toList_none, List.cons_append, List.nil_append, true_and, and_true, List.set_cons_zero, List.set_cons_succ, aq_n1, aq_n2, aq_n3, aq_n4, aq_f1, aq_f2, aq_f3, aq_f4, aq_gs, aq_ty1, aq_ty2, aq_ty3, aq_ty4, aq_ty5, Nat.reduceAdd, Nat.reduceLT, Nat.reduceEqDiff, Nat.reduceSub, if_true, if_false, ne_eq, not_false_eq_true, not_true_eq_false, Option.map_some, Option.map_none, Nat.zero_add, reduceCtorEq, Nat.reduceLeDiff, one_ne_zero_a, zero_ne_one_a, nI_1] at hh ⊢
      exact hh
  simp only [s_X10_keysAt_0, s_X10_keysAt_1, s_X10_keysAt_2, s_X10_keysAt_3, s_X10_keysAt_5, s_X10_keysAt_6, s_X10_keysAt_9, s_X10_keysAt_10, s_X10_keysAt_11, s_X10_keysAt_14, s_X10_keysAt_15, s_X10_keysAt_16, s_X10_keysAt_17, s_X10_keysAt_20, s_X10_keysAt_21, s_X10_keysAt_22, s_X10_keysAt_23, s_X10_keysAt_26, s_X10_keysAt_27, s_X10_keysAt_28, s_X10_keysAt_29, s_X10_keysAt_32, s_X10_keysAt_35, s_X10_keysAt_36, aq_gI, aq_gL, aq_gA, aq_isA, aq_s1, aq_s2, aq_kill, aq_ob, aq_sm, aq_arI, aq_arB, aq_isB, aq_arL, aq_arA, aq_arN, aq_sh, Value.category, List.getElem?_cons_zero, List.getElem?_cons_succ, List.length_cons, List.length_nil, Option.toList_some, Option.toList_none, List.cons_append, List.nil_append, true_and, and_true, List.set_cons_zero, List.set_cons_succ, aq_n1, aq_n2, aq_n3, aq_n4, aq_f1, aq_f2, aq_f3, aq_f4, aq_gs, aq_ty1, aq_ty2, aq_ty3, aq_ty4, aq_ty5, Nat.reduceAdd, Nat.reduceLT, Nat.reduceEqDiff, Nat.reduceSub, if_true, if_false, ne_eq, not_false_eq_true, not_true_eq_false, Option.map_some, Option.map_none, Nat.zero_add, reduceCtorEq, Nat.reduceLeDiff, one_ne_zero_a, zero_ne_one_a]
  refine one 0 _ (by decide) (one 1 _ (by decide) (one 2 _ (by decide) (one 3 _ (by decide) ?_)))
  rw [s_X10_keysAt_4]
  have h4 : (4 : Int32) ≤ nI (3 + 1) := by decide
  simp only [s_X10_keysAt_0, s_X10_keysAt_1, s_X10_keysAt_2, s_X10_keysAt_3, s_X10_keysAt_5, s_X10_keysAt_6, s_X10_keysAt_9, s_X10_keysAt_10, s_X10_keysAt_11, s_X10_keysAt_14, s_X10_keysAt_15, s_X10_keysAt_16, s_X10_keysAt_17, s_X10_keysAt_20, s_X10_keysAt_21, s_X10_keysAt_22, s_X10_keysAt_23, s_X10_keysAt_26, s_X10_keysAt_27, s_X10_keysAt_28, s_X10_keysAt_29, s_X10_keysAt_32, s_X10_keysAt_35, s_X10_keysAt_36, aq_gI, aq_gL, aq_gA, aq_isA, aq_s1, aq_s2, aq_kill, aq_ob, aq_sm, aq_arI, aq_arB, aq_isB, aq_arL, aq_arA, aq_arN, aq_sh, Value.category, List.getElem?_cons_zero, List.getElem?_cons_succ, List.length_cons, List.length_nil, Option.toList_some, Option.toList_none, List.cons_append, List.nil_append, true_and, and_true, List.set_cons_zero, List.set_cons_succ, aq_n1, aq_n2, aq_n3, aq_n4, aq_f1, aq_f2, aq_f3, aq_f4, aq_gs, aq_ty1, aq_ty2, aq_ty3, aq_ty4, aq_ty5, Nat.reduceAdd, Nat.reduceLT, Nat.reduceEqDiff, Nat.reduceSub, if_true, if_false, ne_eq, not_false_eq_true, not_true_eq_false, Option.map_some, Option.map_none, Nat.zero_add, reduceCtorEq, Nat.reduceLeDiff, one_ne_zero_a, zero_ne_one_a, h4, rd]
  unfold km
  by_cases e0 : mk 0 = c <;> by_cases e1 : mk 1 = c <;> by_cases e2 : mk 2 = c <;> by_cases e3 : mk 3 = c <;> simp only [e0, e1, e2, e3, if_true, if_false] <;> decide
end MD2
