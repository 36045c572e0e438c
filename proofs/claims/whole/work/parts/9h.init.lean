/-! the desk's objects are made: the board -/
theorem ap_g (h : aq_H) (e : aq_E) (k : Nat) : (h ++ [e])[k]? = if k = h.length then some e else h[k]? := by
  by_cases c : k < h.length
  · rw [List.getElem?_append_left c, if_neg (by omega)]
  · rw [List.getElem?_append_right (by omega)]
    by_cases e1 : k = h.length
    · rw [if_pos e1, e1, Nat.sub_self]; rfl
    · rw [if_neg e1, List.getElem?_eq_none (l := [e]) (by simp; omega), List.getElem?_eq_none (by omega)]
theorem ap_l (h : aq_H) (e : aq_E) : (h ++ [e]).length = h.length + 1 := by simp
theorem sm.ap {a b n : Nat} {h1 h2 : aq_H} {e : aq_E} (p : sm a b h1 h2) (hl : h2.length = n) (h : a ≤ n) (h' : n ≤ b) : sm a b h1 (h2 ++ [e]) := by
  intro k hk
  rw [ap_g, if_neg (by omega)]
  exact p k hk
def cW (x : Int32) : Nat := if x < 1 then 1 else if 12 < x then 12 else x.toNatClampNeg
def wX (z : Int32) : Bool := decide (¬ z &&& 1 = 0)
def wY (z : Int32) : Bool := decide (¬ z &&& 2 = 0)
theorem cW_cs (x : Int32) : (x < 1 ∧ cW x = 1) ∨ (¬ x < 1 ∧ 12 < x ∧ cW x = 12) ∨ (¬ x < 1 ∧ ¬ 12 < x ∧ x = nI (cW x) ∧ 0 < cW x ∧ cW x < 13) := by
  unfold cW
  by_cases h1 : x < 1
  · exact Or.inl ⟨h1, by rw [if_pos h1]⟩
  · by_cases h2 : 12 < x
    · exact Or.inr (Or.inl ⟨h1, h2, by rw [if_neg h1, if_pos h2]⟩)
    · refine Or.inr (Or.inr ⟨h1, h2, ?_⟩)
      rw [if_neg h1, if_neg h2]
      rcases ix_c x (n := 13) (by decide) with q | ⟨j, hj, rfl⟩
      · exfalso
        apply q
        rw [Int32.lt_iff_toInt_lt] at h1 h2
        rw [Int32.le_iff_toInt_le, Int32.lt_iff_toInt_lt]
        have e0 : (0 : Int32).toInt = 0 := by decide
        have e1 : (1 : Int32).toInt = 1 := by decide
        have e2 : (12 : Int32).toInt = 12 := by decide
        have e3 : (nI 13).toInt = 13 := by decide
        omega
      · rw [nI_clamp (by omega)]
        refine ⟨rfl, ?_, hj⟩
        by_cases z : j = 0
        · subst z; exact absurd (by decide) h1
        · omega
theorem cW_bd (x : Int32) : 0 < cW x ∧ cW x < 13 := by
  rcases cW_cs x with ⟨-, e⟩ | ⟨-, -, e⟩ | ⟨-, -, -, e⟩
  · omega
  · omega
  · exact e
theorem cW_cls (x : Int32) : (if (1 : Int32) < (if x < 12 then x else 12) then (if x < 12 then x else 12) else 1) = nI (cW x) := by
  rcases cW_cs x with ⟨h, e⟩ | ⟨h1, h2, e⟩ | ⟨h1, h2, e, e2, e3⟩
  · have hx : x < 12 := by
      rw [Int32.lt_iff_toInt_lt] at h ⊢
      have e1 : (1 : Int32).toInt = 1 := by decide
      have e2 : (12 : Int32).toInt = 12 := by decide
      omega
    have hy : ¬ (1 : Int32) < x := by
      rw [Int32.lt_iff_toInt_lt] at h ⊢
      omega
    rw [if_pos hx, if_neg hy, e]
    rfl
  · have hx : ¬ x < 12 := by
      rw [Int32.lt_iff_toInt_lt] at h2 ⊢
      omega
    rw [if_neg hx, if_pos (by decide), e]
    rfl
  · have key : ∀ j, j < 13 → 0 < j → (if (1 : Int32) < (if nI j < 12 then nI j else 12) then (if nI j < 12 then nI j else 12) else 1) = nI j := by decide
    have := key (cW x) e3 e2
    rw [← e] at this
    exact this.trans e
theorem t_min {h : aq_H} (x y : Int32) : aq_T e_J9_min_7cf53 2 0 0 [.int x, .int y] h (rd (if y < x then y else x) h) := by
  refine ⟨Nat.le_of_ble_eq_true rfl, ?_⟩
  show aq_W _ _ 0 [some (.int x), some (.int y)] [] _ _ _
  by_cases e : y < x
  · simp only [s_J9_min_7cf53_0, s_J9_min_7cf53_1, s_J9_min_7cf53_2, s_J9_min_7cf53_5, s_J9_min_7cf53_6, s_J9_min_7cf53_9, s_J9_min_7cf53_10, aq_gI, aq_gL, aq_gA, aq_isA, aq_s1, aq_s2, aq_kill, aq_ob, aq_sm, aq_arI, aq_arB, aq_isB, aq_arL, aq_arA, aq_arN, aq_sh, Value.category, List.getElem?_cons_zero, List.getElem?_cons_succ, List.length_cons, List.length_nil, Option.toList_some, Option.toList_none, List.cons_append, List.nil_append, true_and, and_true, List.set_cons_zero, List.set_cons_succ, aq_n1, aq_n2, aq_n3, aq_n4, aq_f1, aq_f2, aq_f3, aq_f4, aq_gs, aq_ty1, aq_ty2, aq_ty3, aq_ty4, aq_ty5, Nat.reduceAdd, Nat.reduceLT, Nat.reduceEqDiff, Nat.reduceSub, if_true, if_false, ne_eq, not_false_eq_true, not_true_eq_false, Option.map_some, Option.map_none, Nat.zero_add, reduceCtorEq, Nat.reduceLeDiff, one_ne_zero_a, zero_ne_one_a, aq_nb, aq_nb1, aq_nb0, aq_fb, aq_fb1, aq_fb0, aq_ofN, bB_t, bB_f, bB_v, vpn_b1, vpn_b0, nI_1, Bool.true_eq_false, Bool.false_eq_true, Bool.true_and, Bool.false_and, Bool.and_true, Bool.and_false, e]
    exact ⟨rfl, rfl⟩
  · simp only [s_J9_min_7cf53_0, s_J9_min_7cf53_1, s_J9_min_7cf53_2, s_J9_min_7cf53_5, s_J9_min_7cf53_6, s_J9_min_7cf53_9, s_J9_min_7cf53_10, aq_gI, aq_gL, aq_gA, aq_isA, aq_s1, aq_s2, aq_kill, aq_ob, aq_sm, aq_arI, aq_arB, aq_isB, aq_arL, aq_arA, aq_arN, aq_sh, Value.category, List.getElem?_cons_zero, List.getElem?_cons_succ, List.length_cons, List.length_nil, Option.toList_some, Option.toList_none, List.cons_append, List.nil_append, true_and, and_true, List.set_cons_zero, List.set_cons_succ, aq_n1, aq_n2, aq_n3, aq_n4, aq_f1, aq_f2, aq_f3, aq_f4, aq_gs, aq_ty1, aq_ty2, aq_ty3, aq_ty4, aq_ty5, Nat.reduceAdd, Nat.reduceLT, Nat.reduceEqDiff, Nat.reduceSub, if_true, if_false, ne_eq, not_false_eq_true, not_true_eq_false, Option.map_some, Option.map_none, Nat.zero_add, reduceCtorEq, Nat.reduceLeDiff, one_ne_zero_a, zero_ne_one_a, aq_nb, aq_nb1, aq_nb0, aq_fb, aq_fb1, aq_fb0, aq_ofN, bB_t, bB_f, bB_v, vpn_b1, vpn_b0, nI_1, Bool.true_eq_false, Bool.false_eq_true, Bool.true_and, Bool.false_and, Bool.and_true, Bool.and_false, e]
    exact ⟨rfl, rfl⟩
theorem t_max {h : aq_H} (x y : Int32) : aq_T e_J9_max_7cf53 2 0 0 [.int x, .int y] h (rd (if x < y then y else x) h) := by
  refine ⟨Nat.le_of_ble_eq_true rfl, ?_⟩
  show aq_W _ _ 0 [some (.int x), some (.int y)] [] _ _ _
  by_cases e : x < y
  · simp only [s_J9_max_7cf53_0, s_J9_max_7cf53_1, s_J9_max_7cf53_2, s_J9_max_7cf53_5, s_J9_max_7cf53_6, s_J9_max_7cf53_9, s_J9_max_7cf53_10, aq_gI, aq_gL, aq_gA, aq_isA, aq_s1, aq_s2, aq_kill, aq_ob, aq_sm, aq_arI, aq_arB, aq_isB, aq_arL, aq_arA, aq_arN, aq_sh, Value.category, List.getElem?_cons_zero, List.getElem?_cons_succ, List.length_cons, List.length_nil, Option.toList_some, Option.toList_none, List.cons_append, List.nil_append, true_and, and_true, List.set_cons_zero, List.set_cons_succ, aq_n1, aq_n2, aq_n3, aq_n4, aq_f1, aq_f2, aq_f3, aq_f4, aq_gs, aq_ty1, aq_ty2, aq_ty3, aq_ty4, aq_ty5, Nat.reduceAdd, Nat.reduceLT, Nat.reduceEqDiff, Nat.reduceSub, if_true, if_false, ne_eq, not_false_eq_true, not_true_eq_false, Option.map_some, Option.map_none, Nat.zero_add, reduceCtorEq, Nat.reduceLeDiff, one_ne_zero_a, zero_ne_one_a, aq_nb, aq_nb1, aq_nb0, aq_fb, aq_fb1, aq_fb0, aq_ofN, bB_t, bB_f, bB_v, vpn_b1, vpn_b0, nI_1, Bool.true_eq_false, Bool.false_eq_true, Bool.true_and, Bool.false_and, Bool.and_true, Bool.and_false, e]
    exact ⟨rfl, rfl⟩
  · simp only [s_J9_max_7cf53_0, s_J9_max_7cf53_1, s_J9_max_7cf53_2, s_J9_max_7cf53_5, s_J9_max_7cf53_6, s_J9_max_7cf53_9, s_J9_max_7cf53_10, aq_gI, aq_gL, aq_gA, aq_isA, aq_s1, aq_s2, aq_kill, aq_ob, aq_sm, aq_arI, aq_arB, aq_isB, aq_arL, aq_arA, aq_arN, aq_sh, Value.category, List.getElem?_cons_zero, List.getElem?_cons_succ, List.length_cons, List.length_nil, Option.toList_some, Option.toList_none, List.cons_append, List.nil_append, true_and, and_true, List.set_cons_zero, List.set_cons_succ, aq_n1, aq_n2, aq_n3, aq_n4, aq_f1, aq_f2, aq_f3, aq_f4, aq_gs, aq_ty1, aq_ty2, aq_ty3, aq_ty4, aq_ty5, Nat.reduceAdd, Nat.reduceLT, Nat.reduceEqDiff, Nat.reduceSub, if_true, if_false, ne_eq, not_false_eq_true, not_true_eq_false, Option.map_some, Option.map_none, Nat.zero_add, reduceCtorEq, Nat.reduceLeDiff, one_ne_zero_a, zero_ne_one_a, aq_nb, aq_nb1, aq_nb0, aq_fb, aq_fb1, aq_fb0, aq_ofN, bB_t, bB_f, bB_v, vpn_b1, vpn_b0, nI_1, Bool.true_eq_false, Bool.false_eq_true, Bool.true_and, Bool.false_and, Bool.and_true, Bool.and_false, e]
    exact ⟨rfl, rfl⟩
theorem nI_sb {a b : Nat} (h : b ≤ a) : nI a - nI b = nI (a - b) := by
  have : nI a = nI (a - b) + nI b := by rw [nI_add, Nat.sub_add_cancel h]
  rw [this, Int32.add_sub_cancel]
theorem nI_a2 (x : Nat) : nI x + 2 = nI (x + 2) := by rw [nI_2, nI_add]
theorem nI_a3 (x : Nat) : nI x + 3 = nI (x + 3) := by rw [nI_3, nI_add]
section PLC2
variable {h h' : aq_H} {w ht : Nat} {cut bes lead pas : Nat → Int32} {fr : Int32} {wx wy : Bool}
/-- neighbours are right up to a place -/
def plI (w ht : Nat) (wx wy : Bool) (t : Nat) (bes : Nat → Int32) : Prop := ∀ c d, d < 4 → c * 4 + d < t → bes (c * 4 + d) = oI (nb w ht wx wy c d)
theorem plI_up {t : Nat} {b : Nat → Int32} (H : plI w ht wx wy t b) {c d : Nat} (hd : d < 4) (e : t = c * 4 + d) : plI w ht wx wy (t + 1) (upd b t (oI (nb w ht wx wy c d))) := by
  intro c' d' hd' hlt
  by_cases z : c' * 4 + d' = t
  · have h1 : c' = c := by omega
    have h2 : d' = d := by omega
    rw [z, upd_s, h1, h2]
  · rw [upd_n _ _ z]
    exact H c' d' hd' (by omega)
theorem t_placeCells (B : iBd h w ht cut bes lead pas fr) (hw : 0 < w ∧ w < 13 ∧ 0 < ht ∧ ht < 13) : aq_T e_X0_placeCells 7 0 0 [.ref 1, .int (bB wx), .int (bB wy)] h (fun r h' => r = none ∧ ∃ bes', iBd h' w ht cut bes' lead pas fr ∧ sm 3 3 h h' ∧ ∀ c d, c < w * ht → d < 4 → bes' (c * 4 + d) = oI (nb w ht wx wy c d)) := by
  have hn := wh_lt hw
  have hwp : ¬ nI w = 0 := nI_ne0 hw.1 (by omega)
  obtain ⟨b1, b2, b3, b4, b5⟩ := B
  refine ⟨Nat.le_of_ble_eq_true rfl, ?_⟩
  show aq_W _ _ 0 [some (.ref 1), some (.int (bB wx)), some (.int (bB wy)), none, none, none, none] [] _ _ _
  generalize hQ : (fun (r : Option Value) (h' : aq_H) => r = none ∧ ∃ bes', iBd h' w ht cut bes' lead pas fr ∧ sm 3 3 h h' ∧ ∀ c d, c < w * ht → d < 4 → bes' (c * 4 + d) = oI (nb w ht wx wy c d)) = Q
  have one : ∀ (j c : Nat), c + j = w * ht → ∀ (b : Nat → Int32) (L4 L5 L6 : Option Value), plI w ht wx wy (c * 4) b → aq_W e_X0_placeCells Q 2 [some (.ref 1), some (.int (bB wx)), some (.int (bB wy)), some (.int (nI c)), L4, L5, L6] [] (h.set 3 (.inl (.int, w * ht * 4, .inl b))) 0 0 := by
    intro j
    induction j with
    | zero =>
      intro c hc b L4 L5 L6 H
      have e : c = w * ht := by omega
      rw [s_X0_placeCells_2]
      simp only [s_X0_placeCells_3, s_X0_placeCells_4, s_X0_placeCells_7, s_X0_placeCells_193, aq_gI, aq_gL, aq_gA, aq_isA, aq_s1, aq_s2, aq_kill, aq_ob, aq_sm, aq_arI, aq_arB, aq_isB, aq_arL, aq_arA, aq_arN, aq_sh, Value.category, List.getElem?_cons_zero, List.getElem?_cons_succ, List.length_cons, List.length_nil, Option.toList_some, Option.toList_none, List.cons_append, List.nil_append, true_and, and_true, List.set_cons_zero, List.set_cons_succ, aq_n1, aq_n2, aq_n3, aq_n4, aq_f1, aq_f2, aq_f3, aq_f4, aq_gs, aq_ty1, aq_ty2, aq_ty3, aq_ty4, aq_ty5, Nat.reduceAdd, Nat.reduceLT, Nat.reduceEqDiff, Nat.reduceSub, if_true, if_false, ne_eq, not_false_eq_true, not_true_eq_false, Option.map_some, Option.map_none, Nat.zero_add, reduceCtorEq, Nat.reduceLeDiff, one_ne_zero_a, zero_ne_one_a, aq_nb, aq_nb1, aq_nb0, aq_fb, aq_fb1, aq_fb0, aq_ofN, bB_t, bB_f, bB_v, vpn_b1, vpn_b0, nI_1, Bool.true_eq_false, Bool.false_eq_true, Bool.true_and, Bool.false_and, Bool.and_true, Bool.and_false, b1, nI_le (show w * ht ≤ c by omega) (show c < 2 ^ 31 by omega)]
      rw [← hQ]
      refine ⟨rfl, b, ⟨?_, ?_, ?_, ?_, ?_⟩, (sm.rf _ _ _).st (Nat.le_refl _) (Nat.le_refl _), fun c' d' h1 h2 => H c' d' h2 (by omega)⟩ <;> simp only [aq_gI, aq_gL, aq_gA, aq_isA, aq_s1, aq_s2, aq_kill, aq_ob, aq_sm, aq_arI, aq_arB, aq_isB, aq_arL, aq_arA, aq_arN, aq_sh, Value.category, List.getElem?_cons_zero, List.getElem?_cons_succ, List.length_cons, List.length_nil, Option.toList_some, Option.toList_none, List.cons_append, List.nil_append, true_and, and_true, List.set_cons_zero, List.set_cons_succ, aq_n1, aq_n2, aq_n3, aq_n4, aq_f1, aq_f2, aq_f3, aq_f4, aq_gs, aq_ty1, aq_ty2, aq_ty3, aq_ty4, aq_ty5, Nat.reduceAdd, Nat.reduceLT, Nat.reduceEqDiff, Nat.reduceSub, if_true, if_false, ne_eq, not_false_eq_true, not_true_eq_false, Option.map_some, Option.map_none, Nat.zero_add, reduceCtorEq, Nat.reduceLeDiff, one_ne_zero_a, zero_ne_one_a, b1, b2, b3, b4, b5]
    | succ j ih =>
      intro c hc b L4 L5 L6 H
      have hc2 : c < w * ht := by omega
      have hdm := Nat.div_add_mod c w
      have hml := Nat.mod_lt c hw.1
      have hdl : c / w < ht := Nat.div_lt_of_lt_mul hc2
      have hwh : w ≤ w * ht := Nat.le_mul_of_pos_right w hw.2.2.1
      have hw1 : w * ht = w ↔ ht = 1 := by
        constructor
        · intro e; exact Nat.eq_of_mul_eq_mul_left hw.1 (by omega)
        · intro e; rw [e, Nat.mul_one]
      have hlast : ¬ c / w + 1 < ht → w * ht ≤ c + w := by
        intro e
        have e2 : ht = c / w + 1 := by omega
        have e3 : w * ht = w * (c / w) + w := by rw [e2, Nat.mul_add, Nat.mul_one]
        omega
      have hfirst : 0 < c / w → w ≤ c := by
        intro e
        have := Nat.mul_le_mul_left w (show 1 ≤ c / w by omega)
        omega
      have edx : nI c - nI c / nI w * nI w = nI (c % w) := pk_rem (by omega) hw.1 (by omega)
      have edy : nI c / nI w = nI (c / w) := pk_div (by omega) hw.1 (by omega)
      have edx2 : nI c - nI (c / w) * nI w = nI (c % w) := by rw [← edy]; exact edx
      have i0 : vp_in (nI (c * 4)) (w * ht * 4) := vp_in_nI (by omega) (by omega)
      have i1 : vp_in (nI (c * 4 + 1)) (w * ht * 4) := vp_in_nI (by omega) (by omega)
      have i2 : vp_in (nI (c * 4 + 2)) (w * ht * 4) := vp_in_nI (by omega) (by omega)
      have i3 : vp_in (nI (c * 4 + 3)) (w * ht * 4) := vp_in_nI (by omega) (by omega)
      have k0 : (nI (c * 4)).toNatClampNeg = c * 4 := nI_clamp (by omega)
      have k1 : (nI (c * 4 + 1)).toNatClampNeg = c * 4 + 1 := nI_clamp (by omega)
      have k2 : (nI (c * 4 + 2)).toNatClampNeg = c * 4 + 2 := nI_clamp (by omega)
      have k3 : (nI (c * 4 + 3)).toNatClampNeg = c * 4 + 3 := nI_clamp (by omega)
      have c4 : nI c * 4 = nI (c * 4) := by rw [nI_4, pk_mul]
      have w1 : nI w - 1 = nI (w - 1) := by rw [nI_one]; exact nI_sb hw.1
      have t1 : nI ht - 1 = nI (ht - 1) := by rw [nI_one]; exact nI_sb hw.2.2.1
      -- direction 3
      have s3 : ∀ b, plI w ht wx wy (c * 4 + 3) b → aq_W e_X0_placeCells Q 154 [some (.ref 1), some (.int (bB wx)), some (.int (bB wy)), some (.int (nI c)), some (.int (nI (c % w))), some (.int (nI (c / w))), some (.int (nI (c * 4)))] [] (h.set 3 (.inl (.int, w * ht * 4, .inl b))) 0 0 := by
        intro b H
        have tl : aq_W e_X0_placeCells Q 186 [some (.ref 1), some (.int (bB wx)), some (.int (bB wy)), some (.int (nI c)), some (.int (nI (c % w))), some (.int (nI (c / w))), some (.int (nI (c * 4)))] [.int (oI (nb w ht wx wy c 3)), .int (nI (c * 4 + 3)), .ref 3] (h.set 3 (.inl (.int, w * ht * 4, .inl b))) 0 0 := by
          simp only [s_X0_placeCells_186, s_X0_placeCells_187, s_X0_placeCells_190, aq_gI, aq_gL, aq_gA, aq_isA, aq_s1, aq_s2, aq_kill, aq_ob, aq_sm, aq_arI, aq_arB, aq_isB, aq_arL, aq_arA, aq_arN, aq_sh, Value.category, List.getElem?_cons_zero, List.getElem?_cons_succ, List.length_cons, List.length_nil, Option.toList_some, Option.toList_none, List.cons_append, List.nil_append, true_and, and_true, List.set_cons_zero, List.set_cons_succ, aq_n1, aq_n2, aq_n3, aq_n4, aq_f1, aq_f2, aq_f3, aq_f4, aq_gs, aq_ty1, aq_ty2, aq_ty3, aq_ty4, aq_ty5, Nat.reduceAdd, Nat.reduceLT, Nat.reduceEqDiff, Nat.reduceSub, if_true, if_false, ne_eq, not_false_eq_true, not_true_eq_false, Option.map_some, Option.map_none, Nat.zero_add, reduceCtorEq, Nat.reduceLeDiff, one_ne_zero_a, zero_ne_one_a, aq_nb, aq_nb1, aq_nb0, aq_fb, aq_fb1, aq_fb0, aq_ofN, bB_t, bB_f, bB_v, vpn_b1, vpn_b0, nI_1, Bool.true_eq_false, Bool.false_eq_true, Bool.true_and, Bool.false_and, Bool.and_true, Bool.and_false, b3, i3, k3, List.set_set]
          exact ih (c + 1) (by omega) _ _ _ _ (by have := plI_up H (c := c) (d := 3) (by decide) rfl; rw [show (c + 1) * 4 = c * 4 + 3 + 1 by omega]; exact this)
        by_cases e : 0 < c % w
        · have hv : oI (nb w ht wx wy c 3) = nI c - 1 := by
            rw [nI_one, nI_sb (show 1 ≤ c by have := Nat.mod_le c w; omega)]
            simp only [nb, Nat.reduceEqDiff, if_false, if_true, if_pos e]
            rfl
          rw [hv] at tl
          simp only [s_X0_placeCells_154, s_X0_placeCells_155, s_X0_placeCells_158, s_X0_placeCells_160, s_X0_placeCells_161, s_X0_placeCells_162, s_X0_placeCells_164, s_X0_placeCells_167, s_X0_placeCells_168, s_X0_placeCells_169, s_X0_placeCells_170, aq_gI, aq_gL, aq_gA, aq_isA, aq_s1, aq_s2, aq_kill, aq_ob, aq_sm, aq_arI, aq_arB, aq_isB, aq_arL, aq_arA, aq_arN, aq_sh, Value.category, List.getElem?_cons_zero, List.getElem?_cons_succ, List.length_cons, List.length_nil, Option.toList_some, Option.toList_none, List.cons_append, List.nil_append, true_and, and_true, List.set_cons_zero, List.set_cons_succ, aq_n1, aq_n2, aq_n3, aq_n4, aq_f1, aq_f2, aq_f3, aq_f4, aq_gs, aq_ty1, aq_ty2, aq_ty3, aq_ty4, aq_ty5, Nat.reduceAdd, Nat.reduceLT, Nat.reduceEqDiff, Nat.reduceSub, if_true, if_false, ne_eq, not_false_eq_true, not_true_eq_false, Option.map_some, Option.map_none, Nat.zero_add, reduceCtorEq, Nat.reduceLeDiff, one_ne_zero_a, zero_ne_one_a, aq_nb, aq_nb1, aq_nb0, aq_fb, aq_fb1, aq_fb0, aq_ofN, bB_t, bB_f, bB_v, vpn_b1, vpn_b0, nI_1, Bool.true_eq_false, Bool.false_eq_true, Bool.true_and, Bool.false_and, Bool.and_true, Bool.and_false, b1, nI_a3, show ¬ nI (c % w) ≤ 0 from by rw [← nI_0]; exact nI_ge e (by omega)]
          exact tl
        · have e0 : c % w = 0 := by omega
          simp only [s_X0_placeCells_154, s_X0_placeCells_155, s_X0_placeCells_158, s_X0_placeCells_160, s_X0_placeCells_161, s_X0_placeCells_162, s_X0_placeCells_164, s_X0_placeCells_173, s_X0_placeCells_174, s_X0_placeCells_175, s_X0_placeCells_176, s_X0_placeCells_177, s_X0_placeCells_180, s_X0_placeCells_181, s_X0_placeCells_182, s_X0_placeCells_183, aq_gI, aq_gL, aq_gA, aq_isA, aq_s1, aq_s2, aq_kill, aq_ob, aq_sm, aq_arI, aq_arB, aq_isB, aq_arL, aq_arA, aq_arN, aq_sh, Value.category, List.getElem?_cons_zero, List.getElem?_cons_succ, List.length_cons, List.length_nil, Option.toList_some, Option.toList_none, List.cons_append, List.nil_append, true_and, and_true, List.set_cons_zero, List.set_cons_succ, aq_n1, aq_n2, aq_n3, aq_n4, aq_f1, aq_f2, aq_f3, aq_f4, aq_gs, aq_ty1, aq_ty2, aq_ty3, aq_ty4, aq_ty5, Nat.reduceAdd, Nat.reduceLT, Nat.reduceEqDiff, Nat.reduceSub, if_true, if_false, ne_eq, not_false_eq_true, not_true_eq_false, Option.map_some, Option.map_none, Nat.zero_add, reduceCtorEq, Nat.reduceLeDiff, one_ne_zero_a, zero_ne_one_a, aq_nb, aq_nb1, aq_nb0, aq_fb, aq_fb1, aq_fb0, aq_ofN, bB_t, bB_f, bB_v, vpn_b1, vpn_b0, nI_1, Bool.true_eq_false, Bool.false_eq_true, Bool.true_and, Bool.false_and, Bool.and_true, Bool.and_false, b1, nI_a3, show nI (c % w) ≤ 0 from by rw [e0]; decide]
          refine (t_acrossTo wx (nI c) _).use ?_
          rintro _ _ ⟨rfl, rfl⟩
          have ho : nI c + nI w - 1 = nI (c + w - 1) := by rw [nI_add, nI_one, nI_sb (by omega)]
          have hv : (if wx = true ∧ ¬ nI c + nI w - 1 = nI c then nI c + nI w - 1 else -1) = oI (nb w ht wx wy c 3) := by
            have hq := nI_eq (a := c + w - 1) (b := c) (by omega) (by omega)
            rw [ho]
            simp only [hq]
            simp only [nb, Nat.reduceEqDiff, if_false, if_true, if_neg e]
            by_cases q : wx = true ∧ w ≠ 1
            · rw [if_pos ⟨q.1, by have := q.2; omega⟩, if_pos q]; rfl
            · rw [if_neg (fun z => q ⟨z.1, by have := z.2; omega⟩), if_neg q]; rfl
          rw [hv]
          exact tl
      -- direction 2
      have s2 : ∀ b, plI w ht wx wy (c * 4 + 2) b → aq_W e_X0_placeCells Q 109 [some (.ref 1), some (.int (bB wx)), some (.int (bB wy)), some (.int (nI c)), some (.int (nI (c % w))), some (.int (nI (c / w))), some (.int (nI (c * 4)))] [] (h.set 3 (.inl (.int, w * ht * 4, .inl b))) 0 0 := by
        intro b H
        have tl : aq_W e_X0_placeCells Q 153 [some (.ref 1), some (.int (bB wx)), some (.int (bB wy)), some (.int (nI c)), some (.int (nI (c % w))), some (.int (nI (c / w))), some (.int (nI (c * 4)))] [.int (oI (nb w ht wx wy c 2)), .int (nI (c * 4 + 2)), .ref 3] (h.set 3 (.inl (.int, w * ht * 4, .inl b))) 0 0 := by
          simp only [s_X0_placeCells_153, aq_gI, aq_gL, aq_gA, aq_isA, aq_s1, aq_s2, aq_kill, aq_ob, aq_sm, aq_arI, aq_arB, aq_isB, aq_arL, aq_arA, aq_arN, aq_sh, Value.category, List.getElem?_cons_zero, List.getElem?_cons_succ, List.length_cons, List.length_nil, Option.toList_some, Option.toList_none, List.cons_append, List.nil_append, true_and, and_true, List.set_cons_zero, List.set_cons_succ, aq_n1, aq_n2, aq_n3, aq_n4, aq_f1, aq_f2, aq_f3, aq_f4, aq_gs, aq_ty1, aq_ty2, aq_ty3, aq_ty4, aq_ty5, Nat.reduceAdd, Nat.reduceLT, Nat.reduceEqDiff, Nat.reduceSub, if_true, if_false, ne_eq, not_false_eq_true, not_true_eq_false, Option.map_some, Option.map_none, Nat.zero_add, reduceCtorEq, Nat.reduceLeDiff, one_ne_zero_a, zero_ne_one_a, aq_nb, aq_nb1, aq_nb0, aq_fb, aq_fb1, aq_fb0, aq_ofN, bB_t, bB_f, bB_v, vpn_b1, vpn_b0, nI_1, Bool.true_eq_false, Bool.false_eq_true, Bool.true_and, Bool.false_and, Bool.and_true, Bool.and_false, b3, i2, k2, List.set_set]
          exact s3 _ (plI_up H (c := c) (d := 2) (by decide) rfl)
        by_cases e : c / w + 1 < ht
        · have hv : oI (nb w ht wx wy c 2) = nI c + nI w := by
            rw [nI_add]
            simp only [nb, Nat.reduceEqDiff, if_false, if_true, if_pos e]
            rfl
          rw [hv] at tl
          simp only [s_X0_placeCells_109, s_X0_placeCells_110, s_X0_placeCells_113, s_X0_placeCells_115, s_X0_placeCells_116, s_X0_placeCells_117, s_X0_placeCells_119, s_X0_placeCells_120, s_X0_placeCells_123, s_X0_placeCells_124, s_X0_placeCells_125, s_X0_placeCells_128, s_X0_placeCells_129, s_X0_placeCells_130, s_X0_placeCells_133, s_X0_placeCells_134, aq_gI, aq_gL, aq_gA, aq_isA, aq_s1, aq_s2, aq_kill, aq_ob, aq_sm, aq_arI, aq_arB, aq_isB, aq_arL, aq_arA, aq_arN, aq_sh, Value.category, List.getElem?_cons_zero, List.getElem?_cons_succ, List.length_cons, List.length_nil, Option.toList_some, Option.toList_none, List.cons_append, List.nil_append, true_and, and_true, List.set_cons_zero, List.set_cons_succ, aq_n1, aq_n2, aq_n3, aq_n4, aq_f1, aq_f2, aq_f3, aq_f4, aq_gs, aq_ty1, aq_ty2, aq_ty3, aq_ty4, aq_ty5, Nat.reduceAdd, Nat.reduceLT, Nat.reduceEqDiff, Nat.reduceSub, if_true, if_false, ne_eq, not_false_eq_true, not_true_eq_false, Option.map_some, Option.map_none, Nat.zero_add, reduceCtorEq, Nat.reduceLeDiff, one_ne_zero_a, zero_ne_one_a, aq_nb, aq_nb1, aq_nb0, aq_fb, aq_fb1, aq_fb0, aq_ofN, bB_t, bB_f, bB_v, vpn_b1, vpn_b0, nI_1, Bool.true_eq_false, Bool.false_eq_true, Bool.true_and, Bool.false_and, Bool.and_true, Bool.and_false, b1, nI_a2, t1, nI_ge (show c / w < ht - 1 by omega) (show ht - 1 < 2 ^ 31 by omega)]
          exact tl
        · simp only [s_X0_placeCells_109, s_X0_placeCells_110, s_X0_placeCells_113, s_X0_placeCells_115, s_X0_placeCells_116, s_X0_placeCells_117, s_X0_placeCells_119, s_X0_placeCells_120, s_X0_placeCells_123, s_X0_placeCells_124, s_X0_placeCells_125, s_X0_placeCells_137, s_X0_placeCells_138, s_X0_placeCells_139, s_X0_placeCells_140, s_X0_placeCells_141, s_X0_placeCells_144, s_X0_placeCells_145, s_X0_placeCells_146, s_X0_placeCells_149, s_X0_placeCells_150, aq_gI, aq_gL, aq_gA, aq_isA, aq_s1, aq_s2, aq_kill, aq_ob, aq_sm, aq_arI, aq_arB, aq_isB, aq_arL, aq_arA, aq_arN, aq_sh, Value.category, List.getElem?_cons_zero, List.getElem?_cons_succ, List.length_cons, List.length_nil, Option.toList_some, Option.toList_none, List.cons_append, List.nil_append, true_and, and_true, List.set_cons_zero, List.set_cons_succ, aq_n1, aq_n2, aq_n3, aq_n4, aq_f1, aq_f2, aq_f3, aq_f4, aq_gs, aq_ty1, aq_ty2, aq_ty3, aq_ty4, aq_ty5, Nat.reduceAdd, Nat.reduceLT, Nat.reduceEqDiff, Nat.reduceSub, if_true, if_false, ne_eq, not_false_eq_true, not_true_eq_false, Option.map_some, Option.map_none, Nat.zero_add, reduceCtorEq, Nat.reduceLeDiff, one_ne_zero_a, zero_ne_one_a, aq_nb, aq_nb1, aq_nb0, aq_fb, aq_fb1, aq_fb0, aq_ofN, bB_t, bB_f, bB_v, vpn_b1, vpn_b0, nI_1, Bool.true_eq_false, Bool.false_eq_true, Bool.true_and, Bool.false_and, Bool.and_true, Bool.and_false, b1, nI_a2, t1, nI_le (show ht - 1 ≤ c / w by omega) (show c / w < 2 ^ 31 by omega)]
          refine (t_acrossTo wy (nI c) _).use ?_
          rintro _ _ ⟨rfl, rfl⟩
          have hle := hlast e
          have ho : nI c - nI (w * ht) + nI w = nI (c + w - w * ht) := by
            have : nI c - nI (w * ht) + nI w = nI c + nI w - nI (w * ht) := by
              simp only [Int32.sub_eq_add_neg, Int32.add_assoc, Int32.add_comm (-nI (w * ht)) (nI w)]
            rw [this, nI_add, nI_sb hle]
          have hv : (if wy = true ∧ ¬ nI c - nI (w * ht) + nI w = nI c then nI c - nI (w * ht) + nI w else -1) = oI (nb w ht wx wy c 2) := by
            have hq := nI_eq (a := c + w - w * ht) (b := c) (by omega) (by omega)
            rw [ho]
            simp only [hq]
            simp only [nb, Nat.reduceEqDiff, if_false, if_true, if_neg e]
            by_cases q : wy = true ∧ ht ≠ 1
            · rw [if_pos ⟨q.1, fun z => q.2 (hw1.mp (by omega))⟩, if_pos q]; rfl
            · rw [if_neg (fun z => q ⟨z.1, fun y => z.2 (by have := hw1.mpr y; omega)⟩), if_neg q]; rfl
          rw [hv]
          exact tl
      -- direction 1
      have s1 : ∀ b, plI w ht wx wy (c * 4 + 1) b → aq_W e_X0_placeCells Q 70 [some (.ref 1), some (.int (bB wx)), some (.int (bB wy)), some (.int (nI c)), some (.int (nI (c % w))), some (.int (nI (c / w))), some (.int (nI (c * 4)))] [] (h.set 3 (.inl (.int, w * ht * 4, .inl b))) 0 0 := by
        intro b H
        have tl : aq_W e_X0_placeCells Q 108 [some (.ref 1), some (.int (bB wx)), some (.int (bB wy)), some (.int (nI c)), some (.int (nI (c % w))), some (.int (nI (c / w))), some (.int (nI (c * 4)))] [.int (oI (nb w ht wx wy c 1)), .int (nI (c * 4 + 1)), .ref 3] (h.set 3 (.inl (.int, w * ht * 4, .inl b))) 0 0 := by
          simp only [s_X0_placeCells_108, aq_gI, aq_gL, aq_gA, aq_isA, aq_s1, aq_s2, aq_kill, aq_ob, aq_sm, aq_arI, aq_arB, aq_isB, aq_arL, aq_arA, aq_arN, aq_sh, Value.category, List.getElem?_cons_zero, List.getElem?_cons_succ, List.length_cons, List.length_nil, Option.toList_some, Option.toList_none, List.cons_append, List.nil_append, true_and, and_true, List.set_cons_zero, List.set_cons_succ, aq_n1, aq_n2, aq_n3, aq_n4, aq_f1, aq_f2, aq_f3, aq_f4, aq_gs, aq_ty1, aq_ty2, aq_ty3, aq_ty4, aq_ty5, Nat.reduceAdd, Nat.reduceLT, Nat.reduceEqDiff, Nat.reduceSub, if_true, if_false, ne_eq, not_false_eq_true, not_true_eq_false, Option.map_some, Option.map_none, Nat.zero_add, reduceCtorEq, Nat.reduceLeDiff, one_ne_zero_a, zero_ne_one_a, aq_nb, aq_nb1, aq_nb0, aq_fb, aq_fb1, aq_fb0, aq_ofN, bB_t, bB_f, bB_v, vpn_b1, vpn_b0, nI_1, Bool.true_eq_false, Bool.false_eq_true, Bool.true_and, Bool.false_and, Bool.and_true, Bool.and_false, b3, i1, k1, List.set_set]
          exact s2 _ (plI_up H (c := c) (d := 1) (by decide) rfl)
        by_cases e : c % w + 1 < w
        · have hv : oI (nb w ht wx wy c 1) = nI (c + 1) := by
            simp only [nb, show ¬ (1 = 0) from by decide, if_false, if_true, if_pos e]
            rfl
          rw [hv] at tl
          simp only [s_X0_placeCells_70, s_X0_placeCells_71, s_X0_placeCells_74, s_X0_placeCells_76, s_X0_placeCells_77, s_X0_placeCells_78, s_X0_placeCells_80, s_X0_placeCells_81, s_X0_placeCells_84, s_X0_placeCells_85, s_X0_placeCells_86, s_X0_placeCells_89, s_X0_placeCells_90, s_X0_placeCells_91, s_X0_placeCells_92, aq_gI, aq_gL, aq_gA, aq_isA, aq_s1, aq_s2, aq_kill, aq_ob, aq_sm, aq_arI, aq_arB, aq_isB, aq_arL, aq_arA, aq_arN, aq_sh, Value.category, List.getElem?_cons_zero, List.getElem?_cons_succ, List.length_cons, List.length_nil, Option.toList_some, Option.toList_none, List.cons_append, List.nil_append, true_and, and_true, List.set_cons_zero, List.set_cons_succ, aq_n1, aq_n2, aq_n3, aq_n4, aq_f1, aq_f2, aq_f3, aq_f4, aq_gs, aq_ty1, aq_ty2, aq_ty3, aq_ty4, aq_ty5, Nat.reduceAdd, Nat.reduceLT, Nat.reduceEqDiff, Nat.reduceSub, if_true, if_false, ne_eq, not_false_eq_true, not_true_eq_false, Option.map_some, Option.map_none, Nat.zero_add, reduceCtorEq, Nat.reduceLeDiff, one_ne_zero_a, zero_ne_one_a, aq_nb, aq_nb1, aq_nb0, aq_fb, aq_fb1, aq_fb0, aq_ofN, bB_t, bB_f, bB_v, vpn_b1, vpn_b0, nI_1, Bool.true_eq_false, Bool.false_eq_true, Bool.true_and, Bool.false_and, Bool.and_true, Bool.and_false, b1, w1, nI_ge (show c % w < w - 1 by omega) (show w - 1 < 2 ^ 31 by omega)]
          exact tl
        · simp only [s_X0_placeCells_70, s_X0_placeCells_71, s_X0_placeCells_74, s_X0_placeCells_76, s_X0_placeCells_77, s_X0_placeCells_78, s_X0_placeCells_80, s_X0_placeCells_81, s_X0_placeCells_84, s_X0_placeCells_85, s_X0_placeCells_86, s_X0_placeCells_95, s_X0_placeCells_96, s_X0_placeCells_97, s_X0_placeCells_98, s_X0_placeCells_99, s_X0_placeCells_102, s_X0_placeCells_103, s_X0_placeCells_104, s_X0_placeCells_105, aq_gI, aq_gL, aq_gA, aq_isA, aq_s1, aq_s2, aq_kill, aq_ob, aq_sm, aq_arI, aq_arB, aq_isB, aq_arL, aq_arA, aq_arN, aq_sh, Value.category, List.getElem?_cons_zero, List.getElem?_cons_succ, List.length_cons, List.length_nil, Option.toList_some, Option.toList_none, List.cons_append, List.nil_append, true_and, and_true, List.set_cons_zero, List.set_cons_succ, aq_n1, aq_n2, aq_n3, aq_n4, aq_f1, aq_f2, aq_f3, aq_f4, aq_gs, aq_ty1, aq_ty2, aq_ty3, aq_ty4, aq_ty5, Nat.reduceAdd, Nat.reduceLT, Nat.reduceEqDiff, Nat.reduceSub, if_true, if_false, ne_eq, not_false_eq_true, not_true_eq_false, Option.map_some, Option.map_none, Nat.zero_add, reduceCtorEq, Nat.reduceLeDiff, one_ne_zero_a, zero_ne_one_a, aq_nb, aq_nb1, aq_nb0, aq_fb, aq_fb1, aq_fb0, aq_ofN, bB_t, bB_f, bB_v, vpn_b1, vpn_b0, nI_1, Bool.true_eq_false, Bool.false_eq_true, Bool.true_and, Bool.false_and, Bool.and_true, Bool.and_false, b1, w1, nI_le (show w - 1 ≤ c % w by omega) (show c % w < 2 ^ 31 by omega)]
          refine (t_acrossTo wx (nI c) _).use ?_
          rintro _ _ ⟨rfl, rfl⟩
          have hcw : w ≤ c + 1 := by have := Nat.mod_le c w; omega
          have ho : nI c - nI w + 1 = nI (c + 1 - w) := by
            have : nI c - nI w + 1 = nI c + 1 - nI w := by
              simp only [Int32.sub_eq_add_neg, Int32.add_assoc, Int32.add_comm (-nI w) 1]
            rw [this, nI_1, nI_sb hcw]
          have hv : (if wx = true ∧ ¬ nI c - nI w + 1 = nI c then nI c - nI w + 1 else -1) = oI (nb w ht wx wy c 1) := by
            have hq := nI_eq (a := c + 1 - w) (b := c) (by omega) (by omega)
            rw [ho]
            simp only [hq]
            simp only [nb, show ¬ (1 = 0) from by decide, if_false, if_true, if_neg e]
            by_cases q : wx = true ∧ w ≠ 1
            · rw [if_pos ⟨q.1, by have := q.2; omega⟩, if_pos q]; rfl
            · rw [if_neg (fun z => q ⟨z.1, by have := z.2; omega⟩), if_neg q]; rfl
          rw [hv]
          exact tl
      -- direction 0
      have tl : aq_W e_X0_placeCells Q 69 [some (.ref 1), some (.int (bB wx)), some (.int (bB wy)), some (.int (nI c)), some (.int (nI (c % w))), some (.int (nI (c / w))), some (.int (nI (c * 4)))] [.int (oI (nb w ht wx wy c 0)), .int (nI (c * 4)), .ref 3] (h.set 3 (.inl (.int, w * ht * 4, .inl b))) 0 0 := by
        simp only [s_X0_placeCells_69, aq_gI, aq_gL, aq_gA, aq_isA, aq_s1, aq_s2, aq_kill, aq_ob, aq_sm, aq_arI, aq_arB, aq_isB, aq_arL, aq_arA, aq_arN, aq_sh, Value.category, List.getElem?_cons_zero, List.getElem?_cons_succ, List.length_cons, List.length_nil, Option.toList_some, Option.toList_none, List.cons_append, List.nil_append, true_and, and_true, List.set_cons_zero, List.set_cons_succ, aq_n1, aq_n2, aq_n3, aq_n4, aq_f1, aq_f2, aq_f3, aq_f4, aq_gs, aq_ty1, aq_ty2, aq_ty3, aq_ty4, aq_ty5, Nat.reduceAdd, Nat.reduceLT, Nat.reduceEqDiff, Nat.reduceSub, if_true, if_false, ne_eq, not_false_eq_true, not_true_eq_false, Option.map_some, Option.map_none, Nat.zero_add, reduceCtorEq, Nat.reduceLeDiff, one_ne_zero_a, zero_ne_one_a, aq_nb, aq_nb1, aq_nb0, aq_fb, aq_fb1, aq_fb0, aq_ofN, bB_t, bB_f, bB_v, vpn_b1, vpn_b0, nI_1, Bool.true_eq_false, Bool.false_eq_true, Bool.true_and, Bool.false_and, Bool.and_true, Bool.and_false, b3, i0, k0, List.set_set]
        exact s1 _ (plI_up H (c := c) (d := 0) (by decide) rfl)
      rw [s_X0_placeCells_2]
      simp only [s_X0_placeCells_3, s_X0_placeCells_4, s_X0_placeCells_7, s_X0_placeCells_10, s_X0_placeCells_11, s_X0_placeCells_12, s_X0_placeCells_15, s_X0_placeCells_16, s_X0_placeCells_18, s_X0_placeCells_19, s_X0_placeCells_20, s_X0_placeCells_23, s_X0_placeCells_24, s_X0_placeCells_26, s_X0_placeCells_27, s_X0_placeCells_28, s_X0_placeCells_29, s_X0_placeCells_31, s_X0_placeCells_32, s_X0_placeCells_35, s_X0_placeCells_37, s_X0_placeCells_38, s_X0_placeCells_39, aq_gI, aq_gL, aq_gA, aq_isA, aq_s1, aq_s2, aq_kill, aq_ob, aq_sm, aq_arI, aq_arB, aq_isB, aq_arL, aq_arA, aq_arN, aq_sh, Value.category, List.getElem?_cons_zero, List.getElem?_cons_succ, List.length_cons, List.length_nil, Option.toList_some, Option.toList_none, List.cons_append, List.nil_append, true_and, and_true, List.set_cons_zero, List.set_cons_succ, aq_n1, aq_n2, aq_n3, aq_n4, aq_f1, aq_f2, aq_f3, aq_f4, aq_gs, aq_ty1, aq_ty2, aq_ty3, aq_ty4, aq_ty5, Nat.reduceAdd, Nat.reduceLT, Nat.reduceEqDiff, Nat.reduceSub, if_true, if_false, ne_eq, not_false_eq_true, not_true_eq_false, Option.map_some, Option.map_none, Nat.zero_add, reduceCtorEq, Nat.reduceLeDiff, one_ne_zero_a, zero_ne_one_a, aq_nb, aq_nb1, aq_nb0, aq_fb, aq_fb1, aq_fb0, aq_ofN, bB_t, bB_f, bB_v, vpn_b1, vpn_b0, nI_1, Bool.true_eq_false, Bool.false_eq_true, Bool.true_and, Bool.false_and, Bool.and_true, Bool.and_false, b1, nI_ge hc2 (show w * ht < 2 ^ 31 by omega), hwp, edx, edy, edx2, c4, n0a]
      by_cases e : 0 < c / w
      · have hv : oI (nb w ht wx wy c 0) = nI c - nI w := by
          rw [nI_sb (hfirst e)]
          simp only [nb, if_true, if_pos e]
          rfl
        rw [hv] at tl
        simp only [s_X0_placeCells_41, s_X0_placeCells_44, s_X0_placeCells_45, s_X0_placeCells_46, s_X0_placeCells_49, s_X0_placeCells_50, aq_gI, aq_gL, aq_gA, aq_isA, aq_s1, aq_s2, aq_kill, aq_ob, aq_sm, aq_arI, aq_arB, aq_isB, aq_arL, aq_arA, aq_arN, aq_sh, Value.category, List.getElem?_cons_zero, List.getElem?_cons_succ, List.length_cons, List.length_nil, Option.toList_some, Option.toList_none, List.cons_append, List.nil_append, true_and, and_true, List.set_cons_zero, List.set_cons_succ, aq_n1, aq_n2, aq_n3, aq_n4, aq_f1, aq_f2, aq_f3, aq_f4, aq_gs, aq_ty1, aq_ty2, aq_ty3, aq_ty4, aq_ty5, Nat.reduceAdd, Nat.reduceLT, Nat.reduceEqDiff, Nat.reduceSub, if_true, if_false, ne_eq, not_false_eq_true, not_true_eq_false, Option.map_some, Option.map_none, Nat.zero_add, reduceCtorEq, Nat.reduceLeDiff, one_ne_zero_a, zero_ne_one_a, aq_nb, aq_nb1, aq_nb0, aq_fb, aq_fb1, aq_fb0, aq_ofN, bB_t, bB_f, bB_v, vpn_b1, vpn_b0, nI_1, Bool.true_eq_false, Bool.false_eq_true, Bool.true_and, Bool.false_and, Bool.and_true, Bool.and_false, b1, show ¬ nI (c / w) ≤ 0 from by rw [← nI_0]; exact nI_ge e (by omega)]
        exact tl
      · have e0 : c / w = 0 := Nat.eq_zero_of_not_pos e
        simp only [s_X0_placeCells_41, s_X0_placeCells_53, s_X0_placeCells_54, s_X0_placeCells_55, s_X0_placeCells_56, s_X0_placeCells_57, s_X0_placeCells_60, s_X0_placeCells_61, s_X0_placeCells_62, s_X0_placeCells_65, s_X0_placeCells_66, aq_gI, aq_gL, aq_gA, aq_isA, aq_s1, aq_s2, aq_kill, aq_ob, aq_sm, aq_arI, aq_arB, aq_isB, aq_arL, aq_arA, aq_arN, aq_sh, Value.category, List.getElem?_cons_zero, List.getElem?_cons_succ, List.length_cons, List.length_nil, Option.toList_some, Option.toList_none, List.cons_append, List.nil_append, true_and, and_true, List.set_cons_zero, List.set_cons_succ, aq_n1, aq_n2, aq_n3, aq_n4, aq_f1, aq_f2, aq_f3, aq_f4, aq_gs, aq_ty1, aq_ty2, aq_ty3, aq_ty4, aq_ty5, Nat.reduceAdd, Nat.reduceLT, Nat.reduceEqDiff, Nat.reduceSub, if_true, if_false, ne_eq, not_false_eq_true, not_true_eq_false, Option.map_some, Option.map_none, Nat.zero_add, reduceCtorEq, Nat.reduceLeDiff, one_ne_zero_a, zero_ne_one_a, aq_nb, aq_nb1, aq_nb0, aq_fb, aq_fb1, aq_fb0, aq_ofN, bB_t, bB_f, bB_v, vpn_b1, vpn_b0, nI_1, Bool.true_eq_false, Bool.false_eq_true, Bool.true_and, Bool.false_and, Bool.and_true, Bool.and_false, b1, show nI (c / w) ≤ 0 from by rw [e0]; decide]
        refine (t_acrossTo wy (nI c) _).use ?_
        rintro _ _ ⟨rfl, rfl⟩
        have ho : nI c + nI (w * ht) - nI w = nI (c + w * ht - w) := by rw [nI_add, nI_sb (by omega)]
        have hv : (if wy = true ∧ ¬ nI c + nI (w * ht) - nI w = nI c then nI c + nI (w * ht) - nI w else -1) = oI (nb w ht wx wy c 0) := by
          have hq := nI_eq (a := c + w * ht - w) (b := c) (by omega) (by omega)
          rw [ho]
          simp only [hq]
          simp only [nb, if_true, if_neg e]
          by_cases q : wy = true ∧ ht ≠ 1
          · rw [if_pos ⟨q.1, fun z => q.2 (hw1.mp (by omega))⟩, if_pos q]; rfl
          · rw [if_neg (fun z => q ⟨z.1, fun y => z.2 (by have := hw1.mpr y; omega)⟩), if_neg q]; rfl
        rw [hv]
        exact tl
  have e0 : h = h.set 3 (.inl (.int, w * ht * 4, .inl bes)) := by
    apply List.ext_getElem?
    intro j
    rw [aq_gs]
    split
    · rename_i e; rw [← e, b3]; rfl
    · rfl
  simp only [s_X0_placeCells_0, s_X0_placeCells_1, aq_gI, aq_gL, aq_gA, aq_isA, aq_s1, aq_s2, aq_kill, aq_ob, aq_sm, aq_arI, aq_arB, aq_isB, aq_arL, aq_arA, aq_arN, aq_sh, Value.category, List.getElem?_cons_zero, List.getElem?_cons_succ, List.length_cons, List.length_nil, Option.toList_some, Option.toList_none, List.cons_append, List.nil_append, true_and, and_true, List.set_cons_zero, List.set_cons_succ, aq_n1, aq_n2, aq_n3, aq_n4, aq_f1, aq_f2, aq_f3, aq_f4, aq_gs, aq_ty1, aq_ty2, aq_ty3, aq_ty4, aq_ty5, Nat.reduceAdd, Nat.reduceLT, Nat.reduceEqDiff, Nat.reduceSub, if_true, if_false, ne_eq, not_false_eq_true, not_true_eq_false, Option.map_some, Option.map_none, Nat.zero_add, reduceCtorEq, Nat.reduceLeDiff, one_ne_zero_a, zero_ne_one_a, aq_nb, aq_nb1, aq_nb0, aq_fb, aq_fb1, aq_fb0, aq_ofN, bB_t, bB_f, bB_v, vpn_b1, vpn_b0, nI_1, Bool.true_eq_false, Bool.false_eq_true, Bool.true_and, Bool.false_and, Bool.and_true, Bool.and_false]
  rw [← nI_0]
  have k0 := one (w * ht) 0 (Nat.zero_add _) bes none none none (fun c d _ hlt => by omega)
  rw [← e0] at k0
  exact k0
end PLC2
