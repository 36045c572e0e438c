/-! the model's count of trees -/
theorem uL_self (f : Nat → Int64) (k : Nat) : vp_updL f k (f k) = f := by
  funext j
  by_cases e : j = k
  · rw [e]; exact pk_uLs
  · exact pk_uLn e
theorem lI_cmp0 {z : Int} (h : -9223372036854775808 ≤ z) (h' : z < 9223372036854775808) : lg_cmp (lI z) 0 = 0 ↔ z = 0 := by rw [lg_cmp_eq]; exact lI_z h h'
theorem lI_le0 {z : Int} (h : -9223372036854775808 ≤ z) (h' : z < 9223372036854775808) : lg_cmp (lI z) 0 ≤ 0 ↔ z ≤ 0 := by
  rw [lg_cmp_le, Int64.le_iff_toInt_le, lI_t h h']
  have : (0 : Int64).toInt = 0 := by decide
  rw [this]
theorem lI_cmp1 {z : Int} (h : 0 ≤ z) (h' : z < 9223372036854775808) : lg_cmp (lI z) 1 = 0 ↔ z = 1 := by
  rw [lg_cmp_eq]
  constructor
  · intro e
    have := lI_t (by omega) h'
    rw [e] at this
    have h1 : (1 : Int64).toInt = 1 := by decide
    omega
  · intro e; rw [e]; rfl
theorem lI_d2 {z : Int} (h : 0 ≤ z) (h' : z < 9223372036854775808) : lI z / 2 = lI (z / 2) := by
  rw [lI_two, lI_div (by omega) h' (by decide) (by decide), Int.tdiv_eq_ediv_of_nonneg h]
theorem lI_r2 {z : Int} (h : 0 ≤ z) (h' : z < 9223372036854775808) : lI z - lI (z / 2) * 2 = lI (z % 2) := by
  rw [← lI_d2 h h', lI_two]; exact lI_rem h h' (by decide) (by decide)
theorem z2 : ¬ (2 : Int64) = 0 := by decide
theorem mulp {x y : Int} (h1 : 0 ≤ x) (h2 : x ≤ 2147483647) (h3 : 0 ≤ y) (h4 : y ≤ 2147483647) : 0 ≤ x * y ∧ x * y ≤ 4611686014132420609 := by
  refine ⟨Int.mul_nonneg h1 h3, ?_⟩
  have : x * y ≤ 2147483647 * 2147483647 := Int.mul_le_mul h2 h4 h3 (by decide)
  omega
theorem emp (x : Int) : 0 ≤ x % 2147483647 ∧ x % 2147483647 < 2147483647 := ⟨Int.emod_nonneg _ (by decide), Int.emod_lt_of_pos _ (by decide)⟩
theorem m_inverse {h : aq_H} {v : Int} (h0 : 0 < v) (h1 : v < 2147483647) : aq_T e_X10_inverse 8 0 0 [.long (lI v)] h (fun r h' => h' = h ∧ ∃ b, r = some (.long (lI b)) ∧ 0 ≤ b ∧ b < 2147483647 ∧ cg (b * v) 1) := by
  refine ⟨Nat.le_of_ble_eq_true rfl, ?_⟩
  show aq_W _ _ 0 [some (.long (lI v)), none, none, none, none, none, none, none] [] _ _ _
  have one : ∀ (e : Nat), e < 2 ^ 31 → ∀ (a s : Int), 0 ≤ a → a < 2147483647 → 0 ≤ s → s < 2147483647 → cg (a * s ^ e) (v ^ (pP - 2)) → aq_W e_X10_inverse (fun r h' => h' = h ∧ ∃ b, r = some (.long (lI b)) ∧ 0 ≤ b ∧ b < 2147483647 ∧ cg (b * v) 1) 10 [some (.long (lI v)), none, some (.long (lI a)), none, some (.long (lI s)), none, some (.long (lI (e : Int))), none] [] h 0 0 := by
    intro e
    induction e using Nat.strongRecOn with
    | ind e ih =>
      intro he a s a0 a1 s0 s1 hc
      have hle := lI_le0 (z := (e : Int)) (by omega) (by omega)
      rw [s_X10_inverse_10]
      by_cases ez : e = 0
      · have hz : lg_cmp (lI (e : Int)) 0 ≤ 0 := hle.mpr (by omega)
        simp only [s_X10_inverse_12, s_X10_inverse_13, s_X10_inverse_14, s_X10_inverse_63, s_X10_inverse_64, aq_gI, aq_gL, aq_gA, aq_isA, aq_s1, aq_s2, aq_kill, aq_ob, aq_sm, aq_arI, aq_arB, aq_isB, aq_arL, aq_arA, aq_arN, aq_sh, Value.category, List.getElem?_cons_zero, List.getElem?_cons_succ, List.length_cons, List.length_nil, Option.toList_some, Option.toList_none, List.cons_append, List.nil_append, true_and, and_true, List.set_cons_zero, List.set_cons_succ, aq_n1, aq_n2, aq_n3, aq_n4, aq_f1, aq_f2, aq_f3, aq_f4, aq_gs, aq_ty1, aq_ty2, aq_ty3, aq_ty4, aq_ty5, Nat.reduceAdd, Nat.reduceLT, Nat.reduceEqDiff, Nat.reduceSub, if_true, if_false, ne_eq, not_false_eq_true, not_true_eq_false, Option.map_some, Option.map_none, Nat.zero_add, reduceCtorEq, Nat.reduceLeDiff, one_ne_zero_a, zero_ne_one_a, aq_nb, aq_nb1, aq_nb0, aq_fb, aq_fb1, aq_fb0, aq_ofN, bB_t, bB_f, bB_v, vpn_b1, vpn_b0, nI_1, Bool.true_eq_false, Bool.false_eq_true, Bool.true_and, Bool.false_and, Bool.and_true, Bool.and_false, hz]
        refine ⟨a, rfl, a0, a1, ?_⟩
        rw [ez, Int.pow_zero, Int.mul_one] at hc
        obtain ⟨vn, rfl⟩ : ∃ vn : Nat, v = (vn : Int) := ⟨v.toNat, by omega⟩
        refine (hc.mul (cg.rf (vn : Int))).tr (fermat vn (fun z => ?_))
        have := cg_small z (by omega) (by unfold pP; omega)
        omega
      · have hz : ¬ lg_cmp (lI (e : Int)) 0 ≤ 0 := fun z => by have := hle.mp z; omega
        have hm := mulp a0 (by omega) s0 (by omega)
        have hq := mulp s0 (by omega) s0 (by omega)
        have es := emp (s * s)
        have ea := emp (a * s)
        have hcast : ((e : Int) / 2) = ((e / 2 : Nat) : Int) := by omega
        have hstep : ∀ a' : Int, cg a' (a * (if e % 2 = 1 then s else 1)) → cg (a' * (s * s % 2147483647) ^ (e / 2)) (v ^ (pP - 2)) := by
          intro a' ha'
          refine (ha'.mul ((cg.md (s * s)).pow (e / 2))).tr ?_
          have hp := (cg.rf a).mul (pow_half s e)
          have e1 : a * (if e % 2 = 1 then s else 1) * (s * s) ^ (e / 2) = a * ((s * s) ^ (e / 2) * (if e % 2 = 1 then s else 1)) := by
            generalize (if e % 2 = 1 then s else 1) = y
            generalize (s * s) ^ (e / 2) = x
            grind
          rw [e1]
          exact hp.tr hc
        have hc1 := lI_cmp1 (z := (e : Int) % 2) (by omega) (by omega)
        have hr2 : lI (e : Int) - lI ((e / 2 : Nat) : Int) * 2 = lI ((e : Int) % 2) := by rw [← hcast]; exact lI_r2 (by omega) (by omega)
        by_cases eo : e % 2 = 1
        · have ho : lg_cmp (lI ((e : Int) % 2)) 1 = 0 := hc1.mpr (by omega)
          rw [if_pos eo] at hstep
          simp only [s_X10_inverse_12, s_X10_inverse_13, s_X10_inverse_14, s_X10_inverse_17, s_X10_inverse_19, s_X10_inverse_22, s_X10_inverse_23, s_X10_inverse_24, s_X10_inverse_25, s_X10_inverse_28, s_X10_inverse_29, s_X10_inverse_31, s_X10_inverse_32, s_X10_inverse_35, s_X10_inverse_36, s_X10_inverse_40, s_X10_inverse_41, s_X10_inverse_43, s_X10_inverse_45, s_X10_inverse_46, s_X10_inverse_49, s_X10_inverse_50, s_X10_inverse_52, s_X10_inverse_54, s_X10_inverse_57, s_X10_inverse_58, s_X10_inverse_60, aq_gI, aq_gL, aq_gA, aq_isA, aq_s1, aq_s2, aq_kill, aq_ob, aq_sm, aq_arI, aq_arB, aq_isB, aq_arL, aq_arA, aq_arN, aq_sh, Value.category, List.getElem?_cons_zero, List.getElem?_cons_succ, List.length_cons, List.length_nil, Option.toList_some, Option.toList_none, List.cons_append, List.nil_append, true_and, and_true, List.set_cons_zero, List.set_cons_succ, aq_n1, aq_n2, aq_n3, aq_n4, aq_f1, aq_f2, aq_f3, aq_f4, aq_gs, aq_ty1, aq_ty2, aq_ty3, aq_ty4, aq_ty5, Nat.reduceAdd, Nat.reduceLT, Nat.reduceEqDiff, Nat.reduceSub, if_true, if_false, ne_eq, not_false_eq_true, not_true_eq_false, Option.map_some, Option.map_none, Nat.zero_add, reduceCtorEq, Nat.reduceLeDiff, one_ne_zero_a, zero_ne_one_a, aq_nb, aq_nb1, aq_nb0, aq_fb, aq_fb1, aq_fb0, aq_ofN, bB_t, bB_f, bB_v, vpn_b1, vpn_b0, nI_1, Bool.true_eq_false, Bool.false_eq_true, Bool.true_and, Bool.false_and, Bool.and_true, Bool.and_false, hz, z2, pz, lI_d2 (z := (e : Int)) (by omega) (by omega), hr2, ho, lI_mul, lI_remp hm.1 (by omega), lI_remp hq.1 (by omega), hcast]
          exact ih (e / 2) (by omega) (by omega) _ _ ea.1 ea.2 es.1 es.2 (hstep _ (cg.md _))
        · have ho : ¬ lg_cmp (lI ((e : Int) % 2)) 1 = 0 := fun z => by have := hc1.mp z; omega
          rw [if_neg eo, Int.mul_one] at hstep
          simp only [s_X10_inverse_12, s_X10_inverse_13, s_X10_inverse_14, s_X10_inverse_17, s_X10_inverse_19, s_X10_inverse_22, s_X10_inverse_23, s_X10_inverse_24, s_X10_inverse_25, s_X10_inverse_39, s_X10_inverse_40, s_X10_inverse_41, s_X10_inverse_43, s_X10_inverse_45, s_X10_inverse_46, s_X10_inverse_49, s_X10_inverse_50, s_X10_inverse_52, s_X10_inverse_54, s_X10_inverse_57, s_X10_inverse_58, s_X10_inverse_60, aq_gI, aq_gL, aq_gA, aq_isA, aq_s1, aq_s2, aq_kill, aq_ob, aq_sm, aq_arI, aq_arB, aq_isB, aq_arL, aq_arA, aq_arN, aq_sh, Value.category, List.getElem?_cons_zero, List.getElem?_cons_succ, List.length_cons, List.length_nil, Option.toList_some, Option.toList_none, List.cons_append, List.nil_append, true_and, and_true, List.set_cons_zero, List.set_cons_succ, aq_n1, aq_n2, aq_n3, aq_n4, aq_f1, aq_f2, aq_f3, aq_f4, aq_gs, aq_ty1, aq_ty2, aq_ty3, aq_ty4, aq_ty5, Nat.reduceAdd, Nat.reduceLT, Nat.reduceEqDiff, Nat.reduceSub, if_true, if_false, ne_eq, not_false_eq_true, not_true_eq_false, Option.map_some, Option.map_none, Nat.zero_add, reduceCtorEq, Nat.reduceLeDiff, one_ne_zero_a, zero_ne_one_a, aq_nb, aq_nb1, aq_nb0, aq_fb, aq_fb1, aq_fb0, aq_ofN, bB_t, bB_f, bB_v, vpn_b1, vpn_b0, nI_1, Bool.true_eq_false, Bool.false_eq_true, Bool.true_and, Bool.false_and, Bool.and_true, Bool.and_false, hz, z2, pz, lI_d2 (z := (e : Int)) (by omega) (by omega), hr2, ho, lI_mul, lI_remp hq.1 (by omega), hcast]
          exact ih (e / 2) (by omega) (by omega) _ _ a0 a1 es.1 es.2 (hstep _ (cg.rf _))
  simp only [s_X10_inverse_0, s_X10_inverse_1, s_X10_inverse_2, s_X10_inverse_3, s_X10_inverse_5, s_X10_inverse_8, aq_gI, aq_gL, aq_gA, aq_isA, aq_s1, aq_s2, aq_kill, aq_ob, aq_sm, aq_arI, aq_arB, aq_isB, aq_arL, aq_arA, aq_arN, aq_sh, Value.category, List.getElem?_cons_zero, List.getElem?_cons_succ, List.length_cons, List.length_nil, Option.toList_some, Option.toList_none, List.cons_append, List.nil_append, true_and, and_true, List.set_cons_zero, List.set_cons_succ, aq_n1, aq_n2, aq_n3, aq_n4, aq_f1, aq_f2, aq_f3, aq_f4, aq_gs, aq_ty1, aq_ty2, aq_ty3, aq_ty4, aq_ty5, Nat.reduceAdd, Nat.reduceLT, Nat.reduceEqDiff, Nat.reduceSub, if_true, if_false, ne_eq, not_false_eq_true, not_true_eq_false, Option.map_some, Option.map_none, Nat.zero_add, reduceCtorEq, Nat.reduceLeDiff, one_ne_zero_a, zero_ne_one_a, aq_nb, aq_nb1, aq_nb0, aq_fb, aq_fb1, aq_fb0, aq_ofN, bB_t, bB_f, bB_v, vpn_b1, vpn_b0, nI_1, Bool.true_eq_false, Bool.false_eq_true, Bool.true_and, Bool.false_and, Bool.and_true, Bool.and_false]
  exact one 2147483645 (by decide) 1 v (by decide) (by decide) (by omega) h1 (by rw [Int.one_mul]; exact cg.rf _)
section MTR
variable {h h' : aq_H} {w ht n m k : Nat} {wx wy hm : Bool} {cb : Nat → Bool} {D : drT} {Z : mzT} {P : plT} {wr thr th rt ci st ex pl hd sg : Int32} {mc mx mt mp mo md mw mk mr pc fa go : Nat → Int32} {tb : Nat → Int64} {M t : Nat → Nat → Int}
def tbG (m : Nat) (tb : Nat → Int64) (t : Nat → Nat → Int) : Prop := ∀ i j, i < m → j < m → tb (16 * i + j) = lI (t i j)
def tJ (t : Nat → Nat → Int) (i k c : Nat) (fv : Int) (a b : Nat) : Int := if a = i ∧ k ≤ b ∧ b < c then (t i b + (2147483647 - fv) * t k b) % 2147483647 else t a b
theorem tJ_y {t : Nat → Nat → Int} {i k c : Nat} {fv : Int} {a b : Nat} (h : a = i ∧ k ≤ b ∧ b < c) : tJ t i k c fv a b = (t i b + (2147483647 - fv) * t k b) % 2147483647 := if_pos h
theorem tJ_n {t : Nat → Nat → Int} {i k c : Nat} {fv : Int} {a b : Nat} (h : ¬ (a = i ∧ k ≤ b ∧ b < c)) : tJ t i k c fv a b = t a b := if_neg h
def tO (t : Nat → Nat → Int) (k i : Nat) (bv : Int) (a x : Nat) : Int := if k < a ∧ a < i ∧ k ≤ x then (t a x + (2147483647 - (t a k * bv) % 2147483647) * t k x) % 2147483647 else t a x
theorem tO_y {t : Nat → Nat → Int} {k i : Nat} {bv : Int} {a x : Nat} (h : k < a ∧ a < i ∧ k ≤ x) : tO t k i bv a x = (t a x + (2147483647 - (t a k * bv) % 2147483647) * t k x) % 2147483647 := if_pos h
theorem tO_n {t : Nat → Nat → Int} {k i : Nat} {bv : Int} {a x : Nat} (h : ¬ (k < a ∧ a < i ∧ k ≤ x)) : tO t k i bv a x = t a x := if_neg h
def pCo (h : aq_H) (v : Int64) : Option Value → aq_H → Prop := fun r h' => r = some (.long v) ∧ sm 57 57 h h' ∧ ∃ tb', h'[57]? = some (.inl (.long, 256, .inr (.inl tb')))
theorem nI_16m (a : Nat) : 16 * nI a = nI (16 * a) := by rw [nI_16, pk_mul]
theorem co_find {Q : Option Value → aq_H → Prop} {all : Int64} {L6 L7 L8 L9 L10 L11 : Option Value} (O : iMo h w ht wr thr th rt ci st ex pl hd sg) (b : h[57]? = some (.inl (.long, 256, .inr (.inl tb)))) (hm : m ≤ 15) (hk : k < m) (T : tbG m tb t) (hz : ∀ i, k ≤ i → i < m → t i k = 0)
    (K : Q (some (.long 0)) h) : ∀ (j r : Nat), r + j = m → k ≤ r → aq_W e_X10_corner Q 15 [some (.ref 47), some (.int (nI m)), some (.long all), none, some (.int (nI k)), some (.int (nI r)), L6, L7, L8, L9, L10, L11] [] h 0 0 := by
  unfold iMo at O
  intro j
  induction j with
  | zero =>
    intro r hr hkr
    have e : r = m := by omega
    subst e
    rw [s_X10_corner_15]
    simp only [s_X10_corner_17, s_X10_corner_18, s_X10_corner_45, s_X10_corner_47, s_X10_corner_48, s_X10_corner_51, s_X10_corner_52, aq_gI, aq_gL, aq_gA, aq_isA, aq_s1, aq_s2, aq_kill, aq_ob, aq_sm, aq_arI, aq_arB, aq_isB, aq_arL, aq_arA, aq_arN, aq_sh, Value.category, List.getElem?_cons_zero, List.getElem?_cons_succ, List.length_cons, List.length_nil, Option.toList_some, Option.toList_none, List.cons_append, List.nil_append, true_and, and_true, List.set_cons_zero, List.set_cons_succ, aq_n1, aq_n2, aq_n3, aq_n4, aq_f1, aq_f2, aq_f3, aq_f4, aq_gs, aq_ty1, aq_ty2, aq_ty3, aq_ty4, aq_ty5, Nat.reduceAdd, Nat.reduceLT, Nat.reduceEqDiff, Nat.reduceSub, if_true, if_false, ne_eq, not_false_eq_true, not_true_eq_false, Option.map_some, Option.map_none, Nat.zero_add, reduceCtorEq, Nat.reduceLeDiff, one_ne_zero_a, zero_ne_one_a, aq_nb, aq_nb1, aq_nb0, aq_fb, aq_fb1, aq_fb0, aq_ofN, bB_t, bB_f, bB_v, vpn_b1, vpn_b0, nI_1, Bool.true_eq_false, Bool.false_eq_true, Bool.true_and, Bool.false_and, Bool.and_true, Bool.and_false, nI_le (Nat.le_refl r) (show r < 2 ^ 31 by omega)]
    exact K
  | succ j ih =>
    intro r hr hkr
    have hrm : r < m := by omega
    have hv := T r k hrm hk
    rw [hz r hkr hrm] at hv
    have hc : lg_cmp (lI 0) 0 = 0 := (lI_cmp0 (by decide) (by decide)).mpr rfl
    rw [s_X10_corner_15]
    simp only [s_X10_corner_17, s_X10_corner_18, s_X10_corner_21, s_X10_corner_22, s_X10_corner_25, s_X10_corner_27, s_X10_corner_29, s_X10_corner_30, s_X10_corner_32, s_X10_corner_33, s_X10_corner_34, s_X10_corner_35, s_X10_corner_36, s_X10_corner_39, s_X10_corner_42, aq_gI, aq_gL, aq_gA, aq_isA, aq_s1, aq_s2, aq_kill, aq_ob, aq_sm, aq_arI, aq_arB, aq_isB, aq_arL, aq_arA, aq_arN, aq_sh, Value.category, List.getElem?_cons_zero, List.getElem?_cons_succ, List.length_cons, List.length_nil, Option.toList_some, Option.toList_none, List.cons_append, List.nil_append, true_and, and_true, List.set_cons_zero, List.set_cons_succ, aq_n1, aq_n2, aq_n3, aq_n4, aq_f1, aq_f2, aq_f3, aq_f4, aq_gs, aq_ty1, aq_ty2, aq_ty3, aq_ty4, aq_ty5, Nat.reduceAdd, Nat.reduceLT, Nat.reduceEqDiff, Nat.reduceSub, if_true, if_false, ne_eq, not_false_eq_true, not_true_eq_false, Option.map_some, Option.map_none, Nat.zero_add, reduceCtorEq, Nat.reduceLeDiff, one_ne_zero_a, zero_ne_one_a, aq_nb, aq_nb1, aq_nb0, aq_fb, aq_fb1, aq_fb0, aq_ofN, bB_t, bB_f, bB_v, vpn_b1, vpn_b0, nI_1, Bool.true_eq_false, Bool.false_eq_true, Bool.true_and, Bool.false_and, Bool.and_true, Bool.and_false, nI_ge hrm (show m < 2 ^ 31 by omega), O, b, nI_16c, vp_in_nI (show 16 * r + k < 256 by omega) (show 256 < 2 ^ 31 by decide), nI_clamp (show 16 * r + k < 2 ^ 31 by omega), hv, hc]
    exact ih (r + 1) (by omega) (by omega)
theorem co_swap {Q : Option Value → aq_H → Prop} {all : Int64} {L9 L10 L11 : Option Value} (O : iMo h w ht wr thr th rt ci st ex pl hd sg) (hm : m ≤ 15) (hk : k < m)
    (K : ∀ (h2 : aq_H) (L6 L7 L8 : Option Value), sm 57 57 h h2 → h2[57]? = some (.inl (.long, 256, .inr (.inl tb))) → aq_W e_X10_corner Q 124 [some (.ref 47), some (.int (nI m)), some (.long all), none, some (.int (nI k)), some (.int (nI k)), L6, L7, L8, L9, L10, L11] [] h2 0 0) :
    ∀ (j c : Nat), c + j = m → ∀ (h2 : aq_H) (L7 L8 : Option Value), sm 57 57 h h2 → h2[57]? = some (.inl (.long, 256, .inr (.inl tb))) → aq_W e_X10_corner Q 56 [some (.ref 47), some (.int (nI m)), some (.long all), none, some (.int (nI k)), some (.int (nI k)), some (.int (nI c)), L7, L8, L9, L10, L11] [] h2 0 0 := by
  intro j
  induction j with
  | zero =>
    intro c hc h2 L7 L8 S b
    rw [s_X10_corner_56]
    simp only [s_X10_corner_58, s_X10_corner_59, aq_gI, aq_gL, aq_gA, aq_isA, aq_s1, aq_s2, aq_kill, aq_ob, aq_sm, aq_arI, aq_arB, aq_isB, aq_arL, aq_arA, aq_arN, aq_sh, Value.category, List.getElem?_cons_zero, List.getElem?_cons_succ, List.length_cons, List.length_nil, Option.toList_some, Option.toList_none, List.cons_append, List.nil_append, true_and, and_true, List.set_cons_zero, List.set_cons_succ, aq_n1, aq_n2, aq_n3, aq_n4, aq_f1, aq_f2, aq_f3, aq_f4, aq_gs, aq_ty1, aq_ty2, aq_ty3, aq_ty4, aq_ty5, Nat.reduceAdd, Nat.reduceLT, Nat.reduceEqDiff, Nat.reduceSub, if_true, if_false, ne_eq, not_false_eq_true, not_true_eq_false, Option.map_some, Option.map_none, Nat.zero_add, reduceCtorEq, Nat.reduceLeDiff, one_ne_zero_a, zero_ne_one_a, aq_nb, aq_nb1, aq_nb0, aq_fb, aq_fb1, aq_fb0, aq_ofN, bB_t, bB_f, bB_v, vpn_b1, vpn_b0, nI_1, Bool.true_eq_false, Bool.false_eq_true, Bool.true_and, Bool.false_and, Bool.and_true, Bool.and_false, nI_le (show m ≤ c by omega) (show c < 2 ^ 31 by omega)]
    exact K h2 _ _ _ S b
  | succ j ih =>
    intro c hc h2 L7 L8 S b
    have hcm : c < m := by omega
    have O2 := O.sm S (by decide)
    unfold iMo at O2
    rw [s_X10_corner_56]
    simp only [s_X10_corner_58, s_X10_corner_59, s_X10_corner_62, s_X10_corner_63, s_X10_corner_66, s_X10_corner_68, s_X10_corner_70, s_X10_corner_71, s_X10_corner_73, s_X10_corner_74, s_X10_corner_75, s_X10_corner_77, s_X10_corner_78, s_X10_corner_81, s_X10_corner_83, s_X10_corner_85, s_X10_corner_86, s_X10_corner_88, s_X10_corner_89, s_X10_corner_90, s_X10_corner_93, s_X10_corner_95, s_X10_corner_97, s_X10_corner_98, s_X10_corner_100, s_X10_corner_101, s_X10_corner_102, s_X10_corner_103, s_X10_corner_104, s_X10_corner_107, s_X10_corner_109, s_X10_corner_111, s_X10_corner_112, s_X10_corner_114, s_X10_corner_115, s_X10_corner_117, s_X10_corner_118, s_X10_corner_121, aq_gI, aq_gL, aq_gA, aq_isA, aq_s1, aq_s2, aq_kill, aq_ob, aq_sm, aq_arI, aq_arB, aq_isB, aq_arL, aq_arA, aq_arN, aq_sh, Value.category, List.getElem?_cons_zero, List.getElem?_cons_succ, List.length_cons, List.length_nil, Option.toList_some, Option.toList_none, List.cons_append, List.nil_append, true_and, and_true, List.set_cons_zero, List.set_cons_succ, aq_n1, aq_n2, aq_n3, aq_n4, aq_f1, aq_f2, aq_f3, aq_f4, aq_gs, aq_ty1, aq_ty2, aq_ty3, aq_ty4, aq_ty5, Nat.reduceAdd, Nat.reduceLT, Nat.reduceEqDiff, Nat.reduceSub, if_true, if_false, ne_eq, not_false_eq_true, not_true_eq_false, Option.map_some, Option.map_none, Nat.zero_add, reduceCtorEq, Nat.reduceLeDiff, one_ne_zero_a, zero_ne_one_a, aq_nb, aq_nb1, aq_nb0, aq_fb, aq_fb1, aq_fb0, aq_ofN, bB_t, bB_f, bB_v, vpn_b1, vpn_b0, nI_1, Bool.true_eq_false, Bool.false_eq_true, Bool.true_and, Bool.false_and, Bool.and_true, Bool.and_false, nI_ge hcm (show m < 2 ^ 31 by omega), O2, b, nI_16c, vp_in_nI (show 16 * k + c < 256 by omega) (show 256 < 2 ^ 31 by decide), nI_clamp (show 16 * k + c < 2 ^ 31 by omega), uL_self]
    exact ih (c + 1) (by omega) _ _ _ ((S.st (by decide) (by decide)).st (by decide) (by decide)) (by simp only [aq_gI, aq_gL, aq_gA, aq_isA, aq_s1, aq_s2, aq_kill, aq_ob, aq_sm, aq_arI, aq_arB, aq_isB, aq_arL, aq_arA, aq_arN, aq_sh, Value.category, List.getElem?_cons_zero, List.getElem?_cons_succ, List.length_cons, List.length_nil, Option.toList_some, Option.toList_none, List.cons_append, List.nil_append, true_and, and_true, List.set_cons_zero, List.set_cons_succ, aq_n1, aq_n2, aq_n3, aq_n4, aq_f1, aq_f2, aq_f3, aq_f4, aq_gs, aq_ty1, aq_ty2, aq_ty3, aq_ty4, aq_ty5, Nat.reduceAdd, Nat.reduceLT, Nat.reduceEqDiff, Nat.reduceSub, if_true, if_false, ne_eq, not_false_eq_true, not_true_eq_false, Option.map_some, Option.map_none, Nat.zero_add, reduceCtorEq, Nat.reduceLeDiff, one_ne_zero_a, zero_ne_one_a, b])
/-- a row's entries, one after another -/
theorem co_j {Q : Option Value → aq_H → Prop} {all by_ : Int64} {i : Nat} {fv : Int} {L5 L7 : Option Value} (O : iMo h w ht wr thr th rt ci st ex pl hd sg) (hm : m ≤ 15) (hk : k < i) (him : i < m) (hf0 : 0 ≤ fv) (hf1 : fv < 2147483647) (hb : ∀ a b, k ≤ a → a < m → k ≤ b → b < m → 0 ≤ t a b ∧ t a b < 2147483647)
    (K : ∀ (h2 : aq_H) (tb' : Nat → Int64) (L11 : Option Value), sm 57 57 h h2 → h2[57]? = some (.inl (.long, 256, .inr (.inl tb'))) → tbG m tb' (tJ t i k m fv) → aq_W e_X10_corner Q 280 [some (.ref 47), some (.int (nI m)), some (.long all), none, some (.int (nI k)), L5, some (.long by_), L7, some (.int (nI i)), some (.long (lI fv)), none, L11] [] h2 0 0) :
    ∀ (j c : Nat), c + j = m → k ≤ c → ∀ (h2 : aq_H) (tb' : Nat → Int64), sm 57 57 h h2 → h2[57]? = some (.inl (.long, 256, .inr (.inl tb'))) → tbG m tb' (tJ t i k c fv) → aq_W e_X10_corner Q 217 [some (.ref 47), some (.int (nI m)), some (.long all), none, some (.int (nI k)), L5, some (.long by_), L7, some (.int (nI i)), some (.long (lI fv)), none, some (.int (nI c))] [] h2 0 0 := by
  intro j
  induction j with
  | zero =>
    intro c hc hkc h2 tb' S b T
    rw [s_X10_corner_217]
    simp only [s_X10_corner_219, s_X10_corner_220, aq_gI, aq_gL, aq_gA, aq_isA, aq_s1, aq_s2, aq_kill, aq_ob, aq_sm, aq_arI, aq_arB, aq_isB, aq_arL, aq_arA, aq_arN, aq_sh, Value.category, List.getElem?_cons_zero, List.getElem?_cons_succ, List.length_cons, List.length_nil, Option.toList_some, Option.toList_none, List.cons_append, List.nil_append, true_and, and_true, List.set_cons_zero, List.set_cons_succ, aq_n1, aq_n2, aq_n3, aq_n4, aq_f1, aq_f2, aq_f3, aq_f4, aq_gs, aq_ty1, aq_ty2, aq_ty3, aq_ty4, aq_ty5, Nat.reduceAdd, Nat.reduceLT, Nat.reduceEqDiff, Nat.reduceSub, if_true, if_false, ne_eq, not_false_eq_true, not_true_eq_false, Option.map_some, Option.map_none, Nat.zero_add, reduceCtorEq, Nat.reduceLeDiff, one_ne_zero_a, zero_ne_one_a, aq_nb, aq_nb1, aq_nb0, aq_fb, aq_fb1, aq_fb0, aq_ofN, bB_t, bB_f, bB_v, vpn_b1, vpn_b0, nI_1, Bool.true_eq_false, Bool.false_eq_true, Bool.true_and, Bool.false_and, Bool.and_true, Bool.and_false, nI_le (show m ≤ c by omega) (show c < 2 ^ 31 by omega)]
    rw [show c = m by omega] at T
    exact K h2 tb' _ S b T
  | succ j ih =>
    intro c hc hkc h2 tb' S b T
    have hcm : c < m := by omega
    have O2 := O.sm S (by decide)
    unfold iMo at O2
    have v1 := T i c him hcm
    rw [tJ_n (by omega)] at v1
    have v2 := T k c (by omega) hcm
    rw [tJ_n (by omega)] at v2
    have bi := hb i c (by omega) him hkc hcm
    have bk := hb k c (Nat.le_refl _) (by omega) hkc hcm
    have hp := mulp (x := 2147483647 - fv) (y := t k c) (by omega) (by omega) bk.1 (by omega)
    rw [s_X10_corner_217]
    simp only [s_X10_corner_219, s_X10_corner_220, s_X10_corner_223, s_X10_corner_224, s_X10_corner_227, s_X10_corner_229, s_X10_corner_231, s_X10_corner_232, s_X10_corner_234, s_X10_corner_235, s_X10_corner_236, s_X10_corner_239, s_X10_corner_241, s_X10_corner_243, s_X10_corner_244, s_X10_corner_246, s_X10_corner_247, s_X10_corner_248, s_X10_corner_251, s_X10_corner_253, s_X10_corner_254, s_X10_corner_255, s_X10_corner_258, s_X10_corner_260, s_X10_corner_262, s_X10_corner_263, s_X10_corner_265, s_X10_corner_266, s_X10_corner_267, s_X10_corner_268, s_X10_corner_269, s_X10_corner_272, s_X10_corner_273, s_X10_corner_274, s_X10_corner_277, aq_gI, aq_gL, aq_gA, aq_isA, aq_s1, aq_s2, aq_kill, aq_ob, aq_sm, aq_arI, aq_arB, aq_isB, aq_arL, aq_arA, aq_arN, aq_sh, Value.category, List.getElem?_cons_zero, List.getElem?_cons_succ, List.length_cons, List.length_nil, Option.toList_some, Option.toList_none, List.cons_append, List.nil_append, true_and, and_true, List.set_cons_zero, List.set_cons_succ, aq_n1, aq_n2, aq_n3, aq_n4, aq_f1, aq_f2, aq_f3, aq_f4, aq_gs, aq_ty1, aq_ty2, aq_ty3, aq_ty4, aq_ty5, Nat.reduceAdd, Nat.reduceLT, Nat.reduceEqDiff, Nat.reduceSub, if_true, if_false, ne_eq, not_false_eq_true, not_true_eq_false, Option.map_some, Option.map_none, Nat.zero_add, reduceCtorEq, Nat.reduceLeDiff, one_ne_zero_a, zero_ne_one_a, aq_nb, aq_nb1, aq_nb0, aq_fb, aq_fb1, aq_fb0, aq_ofN, bB_t, bB_f, bB_v, vpn_b1, vpn_b0, nI_1, Bool.true_eq_false, Bool.false_eq_true, Bool.true_and, Bool.false_and, Bool.and_true, Bool.and_false, nI_ge hcm (show m < 2 ^ 31 by omega), O2, b, nI_16c, vp_in_nI (show 16 * i + c < 256 by omega) (show 256 < 2 ^ 31 by decide), nI_clamp (show 16 * i + c < 2 ^ 31 by omega), vp_in_nI (show 16 * k + c < 256 by omega) (show 256 < 2 ^ 31 by decide), nI_clamp (show 16 * k + c < 2 ^ 31 by omega), v1, v2, pz]
    rw [show (2147483647 : Int64) - lI fv = lI (2147483647 - fv) from lI_sub 2147483647 fv, lI_mul, lI_add, lI_remp (by omega) (by omega)]
    refine ih (c + 1) (by omega) (by omega) _ (vp_updL tb' (16 * i + c) (lI ((t i c + (2147483647 - fv) * t k c) % 2147483647))) (S.st (by decide) (by decide)) (by simp only [aq_gI, aq_gL, aq_gA, aq_isA, aq_s1, aq_s2, aq_kill, aq_ob, aq_sm, aq_arI, aq_arB, aq_isB, aq_arL, aq_arA, aq_arN, aq_sh, Value.category, List.getElem?_cons_zero, List.getElem?_cons_succ, List.length_cons, List.length_nil, Option.toList_some, Option.toList_none, List.cons_append, List.nil_append, true_and, and_true, List.set_cons_zero, List.set_cons_succ, aq_n1, aq_n2, aq_n3, aq_n4, aq_f1, aq_f2, aq_f3, aq_f4, aq_gs, aq_ty1, aq_ty2, aq_ty3, aq_ty4, aq_ty5, Nat.reduceAdd, Nat.reduceLT, Nat.reduceEqDiff, Nat.reduceSub, if_true, if_false, ne_eq, not_false_eq_true, not_true_eq_false, Option.map_some, Option.map_none, Nat.zero_add, reduceCtorEq, Nat.reduceLeDiff, one_ne_zero_a, zero_ne_one_a, b]) (fun a x ha hx => ?_)
    by_cases z : a = i ∧ x = c
    · obtain ⟨rfl, rfl⟩ := z
      rw [pk_uLs, tJ_y ⟨rfl, hkc, by omega⟩]
    · rw [pk_uLn (by omega), T a x ha hx]
      by_cases y : a = i ∧ k ≤ x ∧ x < c
      · rw [tJ_y y, tJ_y ⟨y.1, y.2.1, by omega⟩]
      · rw [tJ_n y, tJ_n (fun u => z ⟨u.1, by omega⟩)]
theorem m_corner (O : iMo h w ht wr thr th rt ci st ex pl hd sg) (b : h[57]? = some (.inl (.long, 256, .inr (.inl tb)))) (hm : m ≤ 15) (L : LapM m M) (T : tbG m tb t) (G0 : mdG m M t 0) : aq_T e_X10_corner 12 0 0 [.ref 47, .int (nI m)] h (pCo h (lI (bzA m M m 0))) := by
  refine ⟨Nat.le_of_ble_eq_true rfl, ?_⟩
  show aq_W _ _ 0 [some (.ref 47), some (.int (nI m)), none, none, none, none, none, none, none, none, none, none] [] _ _ _
  have one : ∀ (j k : Nat), k + j = m → (∀ l, l < k → bzB M l l l ≠ 0) → bzA m M j k = bzA m M m 0 → ∀ (h2 : aq_H) (tb' : Nat → Int64) (t : Nat → Nat → Int) (L5 L6 L7 L8 L9 L10 L11 : Option Value), sm 57 57 h h2 → h2[57]? = some (.inl (.long, 256, .inr (.inl tb'))) → tbG m tb' t → mdG m M t k → aq_W e_X10_corner (pCo h (lI (bzA m M m 0))) 5 [some (.ref 47), some (.int (nI m)), some (.long (lI (bzD M k))), none, some (.int (nI k)), L5, L6, L7, L8, L9, L10, L11] [] h2 0 0 := by
    intro j
    induction j with
    | zero =>
      intro k hk hnz hA h2 tb' t L5 L6 L7 L8 L9 L10 L11 S b T G
      rw [s_X10_corner_5]
      simp only [s_X10_corner_7, s_X10_corner_8, s_X10_corner_292, s_X10_corner_293, aq_gI, aq_gL, aq_gA, aq_isA, aq_s1, aq_s2, aq_kill, aq_ob, aq_sm, aq_arI, aq_arB, aq_isB, aq_arL, aq_arA, aq_arN, aq_sh, Value.category, List.getElem?_cons_zero, List.getElem?_cons_succ, List.length_cons, List.length_nil, Option.toList_some, Option.toList_none, List.cons_append, List.nil_append, true_and, and_true, List.set_cons_zero, List.set_cons_succ, aq_n1, aq_n2, aq_n3, aq_n4, aq_f1, aq_f2, aq_f3, aq_f4, aq_gs, aq_ty1, aq_ty2, aq_ty3, aq_ty4, aq_ty5, Nat.reduceAdd, Nat.reduceLT, Nat.reduceEqDiff, Nat.reduceSub, if_true, if_false, ne_eq, not_false_eq_true, not_true_eq_false, Option.map_some, Option.map_none, Nat.zero_add, reduceCtorEq, Nat.reduceLeDiff, one_ne_zero_a, zero_ne_one_a, aq_nb, aq_nb1, aq_nb0, aq_fb, aq_fb1, aq_fb0, aq_ofN, bB_t, bB_f, bB_v, vpn_b1, vpn_b0, nI_1, Bool.true_eq_false, Bool.false_eq_true, Bool.true_and, Bool.false_and, Bool.and_true, Bool.and_false, nI_le (show m ≤ k by omega) (show k < 2 ^ 31 by omega)]
      refine ⟨?_, S, tb', b⟩
      rw [← hA]
      rfl
    | succ j ih =>
      intro k hk hnz hA h2 tb' t L5 L6 L7 L8 L9 L10 L11 S b T G
      have hkm : k < m := by omega
      have I := bzI_k m M L k (by omega) hnz
      have O2 := O.sm S (by decide)
      have O3 := O2
      unfold iMo at O3
      have hA2 : bzA m M (j + 1) k = if bzB M k k k = 0 then 0 else bzA m M j (k + 1) := rfl
      rw [s_X10_corner_5]
      simp only [s_X10_corner_7, s_X10_corner_8, s_X10_corner_11, s_X10_corner_13, aq_gI, aq_gL, aq_gA, aq_isA, aq_s1, aq_s2, aq_kill, aq_ob, aq_sm, aq_arI, aq_arB, aq_isB, aq_arL, aq_arA, aq_arN, aq_sh, Value.category, List.getElem?_cons_zero, List.getElem?_cons_succ, List.length_cons, List.length_nil, Option.toList_some, Option.toList_none, List.cons_append, List.nil_append, true_and, and_true, List.set_cons_zero, List.set_cons_succ, aq_n1, aq_n2, aq_n3, aq_n4, aq_f1, aq_f2, aq_f3, aq_f4, aq_gs, aq_ty1, aq_ty2, aq_ty3, aq_ty4, aq_ty5, Nat.reduceAdd, Nat.reduceLT, Nat.reduceEqDiff, Nat.reduceSub, if_true, if_false, ne_eq, not_false_eq_true, not_true_eq_false, Option.map_some, Option.map_none, Nat.zero_add, reduceCtorEq, Nat.reduceLeDiff, one_ne_zero_a, zero_ne_one_a, aq_nb, aq_nb1, aq_nb0, aq_fb, aq_fb1, aq_fb0, aq_ofN, bB_t, bB_f, bB_v, vpn_b1, vpn_b0, nI_1, Bool.true_eq_false, Bool.false_eq_true, Bool.true_and, Bool.false_and, Bool.and_true, Bool.and_false, nI_ge hkm (show m < 2 ^ 31 by omega)]
      by_cases hz : bzB M k k k = 0
      · rw [if_pos hz] at hA2
        refine co_find O2 b hm hkm T (fun i h1 h2 => md_zero I hkm (by omega) hz G i h1 h2) ⟨?_, S, tb', b⟩ (m - k) k (by omega) (Nat.le_refl _)
        rw [← hA, hA2]
        rfl
      · rw [if_neg hz] at hA2
        have hnz2 : ∀ l, l < k + 1 → bzB M l l l ≠ 0 := by
          intro l hl
          by_cases z : l = k
          · rw [z]; exact hz
          · exact hnz l (by omega)
        have hpv := md_piv I hkm (by omega) hz G
        have hbk := G k k (Nat.le_refl _) hkm (Nat.le_refl _) hkm
        have hvk := T k k hkm hkm
        have hc : ¬ lg_cmp (lI (t k k)) 0 = 0 := fun z => hpv ((lI_cmp0 (by omega) (by omega)).mp z)
        have hne : ¬ nI k = nI m := fun z => by have := (nI_eq (show k < 2 ^ 31 by omega) (show m < 2 ^ 31 by omega)).mp z; omega
        rw [s_X10_corner_15]
        simp only [s_X10_corner_17, s_X10_corner_18, s_X10_corner_21, s_X10_corner_22, s_X10_corner_25, s_X10_corner_27, s_X10_corner_29, s_X10_corner_30, s_X10_corner_32, s_X10_corner_33, s_X10_corner_34, s_X10_corner_35, s_X10_corner_36, s_X10_corner_45, s_X10_corner_47, s_X10_corner_48, s_X10_corner_53, s_X10_corner_54, aq_gI, aq_gL, aq_gA, aq_isA, aq_s1, aq_s2, aq_kill, aq_ob, aq_sm, aq_arI, aq_arB, aq_isB, aq_arL, aq_arA, aq_arN, aq_sh, Value.category, List.getElem?_cons_zero, List.getElem?_cons_succ, List.length_cons, List.length_nil, Option.toList_some, Option.toList_none, List.cons_append, List.nil_append, true_and, and_true, List.set_cons_zero, List.set_cons_succ, aq_n1, aq_n2, aq_n3, aq_n4, aq_f1, aq_f2, aq_f3, aq_f4, aq_gs, aq_ty1, aq_ty2, aq_ty3, aq_ty4, aq_ty5, Nat.reduceAdd, Nat.reduceLT, Nat.reduceEqDiff, Nat.reduceSub, if_true, if_false, ne_eq, not_false_eq_true, not_true_eq_false, Option.map_some, Option.map_none, Nat.zero_add, reduceCtorEq, Nat.reduceLeDiff, one_ne_zero_a, zero_ne_one_a, aq_nb, aq_nb1, aq_nb0, aq_fb, aq_fb1, aq_fb0, aq_ofN, bB_t, bB_f, bB_v, vpn_b1, vpn_b0, nI_1, Bool.true_eq_false, Bool.false_eq_true, Bool.true_and, Bool.false_and, Bool.and_true, Bool.and_false, nI_ge hkm (show m < 2 ^ 31 by omega), O3, b, nI_16c, vp_in_nI (show 16 * k + k < 256 by omega) (show 256 < 2 ^ 31 by decide), nI_clamp (show 16 * k + k < 2 ^ 31 by omega), hvk, hc, hne]
        rw [← nI_0]
        refine co_swap (h := h) O hm hkm ?_ m 0 (Nat.zero_add _) h2 _ _ S b
        intro h3 L6' L7' L8' S3 b3
        have O4 := O.sm S3 (by decide)
        have O5 := O4
        unfold iMo at O5
        have hD := bz_d30 I (by omega)
        have hp := mulp (x := bzD M k) (y := t k k) (by omega) (by omega) hbk.1 (by omega)
        have hall := md_all I hkm (by omega) G
        simp only [s_X10_corner_124, s_X10_corner_126, s_X10_corner_128, s_X10_corner_131, s_X10_corner_132, s_X10_corner_140, s_X10_corner_141, s_X10_corner_142, s_X10_corner_143, s_X10_corner_146, s_X10_corner_148, s_X10_corner_150, s_X10_corner_151, s_X10_corner_153, s_X10_corner_154, s_X10_corner_155, s_X10_corner_156, s_X10_corner_159, s_X10_corner_160, s_X10_corner_161, s_X10_corner_162, s_X10_corner_165, s_X10_corner_167, s_X10_corner_169, s_X10_corner_170, s_X10_corner_172, s_X10_corner_173, s_X10_corner_174, aq_gI, aq_gL, aq_gA, aq_isA, aq_s1, aq_s2, aq_kill, aq_ob, aq_sm, aq_arI, aq_arB, aq_isB, aq_arL, aq_arA, aq_arN, aq_sh, Value.category, List.getElem?_cons_zero, List.getElem?_cons_succ, List.length_cons, List.length_nil, Option.toList_some, Option.toList_none, List.cons_append, List.nil_append, true_and, and_true, List.set_cons_zero, List.set_cons_succ, aq_n1, aq_n2, aq_n3, aq_n4, aq_f1, aq_f2, aq_f3, aq_f4, aq_gs, aq_ty1, aq_ty2, aq_ty3, aq_ty4, aq_ty5, Nat.reduceAdd, Nat.reduceLT, Nat.reduceEqDiff, Nat.reduceSub, if_true, if_false, ne_eq, not_false_eq_true, not_true_eq_false, Option.map_some, Option.map_none, Nat.zero_add, reduceCtorEq, Nat.reduceLeDiff, one_ne_zero_a, zero_ne_one_a, aq_nb, aq_nb1, aq_nb0, aq_fb, aq_fb1, aq_fb0, aq_ofN, bB_t, bB_f, bB_v, vpn_b1, vpn_b0, nI_1, Bool.true_eq_false, Bool.false_eq_true, Bool.true_and, Bool.false_and, Bool.and_true, Bool.and_false, O5, b3, nI_16c, vp_in_nI (show 16 * k + k < 256 by omega) (show 256 < 2 ^ 31 by decide), nI_clamp (show 16 * k + k < 2 ^ 31 by omega), hvk, pz, lI_mul, lI_remp hp.1 (by omega), hall]
        refine (m_inverse (h := h3) (v := t k k) (by omega) hbk.2.1).use ?_
        rintro _ h3 ⟨rfl, bv, rfl, bv0, bv1, hbv⟩
        simp only [s_X10_corner_177, s_X10_corner_179, s_X10_corner_181, s_X10_corner_182, s_X10_corner_183, aq_gI, aq_gL, aq_gA, aq_isA, aq_s1, aq_s2, aq_kill, aq_ob, aq_sm, aq_arI, aq_arB, aq_isB, aq_arL, aq_arA, aq_arN, aq_sh, Value.category, List.getElem?_cons_zero, List.getElem?_cons_succ, List.length_cons, List.length_nil, Option.toList_some, Option.toList_none, List.cons_append, List.nil_append, true_and, and_true, List.set_cons_zero, List.set_cons_succ, aq_n1, aq_n2, aq_n3, aq_n4, aq_f1, aq_f2, aq_f3, aq_f4, aq_gs, aq_ty1, aq_ty2, aq_ty3, aq_ty4, aq_ty5, Nat.reduceAdd, Nat.reduceLT, Nat.reduceEqDiff, Nat.reduceSub, if_true, if_false, ne_eq, not_false_eq_true, not_true_eq_false, Option.map_some, Option.map_none, Nat.zero_add, reduceCtorEq, Nat.reduceLeDiff, one_ne_zero_a, zero_ne_one_a, aq_nb, aq_nb1, aq_nb0, aq_fb, aq_fb1, aq_fb0, aq_ofN, bB_t, bB_f, bB_v, vpn_b1, vpn_b0, nI_1, Bool.true_eq_false, Bool.false_eq_true, Bool.true_and, Bool.false_and, Bool.and_true, Bool.and_false]
        have outer : ∀ (u i : Nat), i + u = m → k < i → ∀ (h4 : aq_H) (tb4 : Nat → Int64) (L9 L10 L11 : Option Value), sm 57 57 h h4 → h4[57]? = some (.inl (.long, 256, .inr (.inl tb4))) → tbG m tb4 (tO t k i bv) → aq_W e_X10_corner (pCo h (lI (bzA m M m 0))) 185 [some (.ref 47), some (.int (nI m)), some (.long (lI (bzD M (k + 1)))), none, some (.int (nI k)), some (.int (nI k)), some (.long (lI bv)), none, some (.int (nI i)), L9, L10, L11] [] h4 0 0 := by
          intro u
          induction u with
          | zero =>
            intro i hi hki h4 tb4 L9 L10 L11 S4 b4 T4
            rw [s_X10_corner_185]
            simp only [s_X10_corner_187, s_X10_corner_188, s_X10_corner_286, s_X10_corner_289, aq_gI, aq_gL, aq_gA, aq_isA, aq_s1, aq_s2, aq_kill, aq_ob, aq_sm, aq_arI, aq_arB, aq_isB, aq_arL, aq_arA, aq_arN, aq_sh, Value.category, List.getElem?_cons_zero, List.getElem?_cons_succ, List.length_cons, List.length_nil, Option.toList_some, Option.toList_none, List.cons_append, List.nil_append, true_and, and_true, List.set_cons_zero, List.set_cons_succ, aq_n1, aq_n2, aq_n3, aq_n4, aq_f1, aq_f2, aq_f3, aq_f4, aq_gs, aq_ty1, aq_ty2, aq_ty3, aq_ty4, aq_ty5, Nat.reduceAdd, Nat.reduceLT, Nat.reduceEqDiff, Nat.reduceSub, if_true, if_false, ne_eq, not_false_eq_true, not_true_eq_false, Option.map_some, Option.map_none, Nat.zero_add, reduceCtorEq, Nat.reduceLeDiff, one_ne_zero_a, zero_ne_one_a, aq_nb, aq_nb1, aq_nb0, aq_fb, aq_fb1, aq_fb0, aq_ofN, bB_t, bB_f, bB_v, vpn_b1, vpn_b0, nI_1, Bool.true_eq_false, Bool.false_eq_true, Bool.true_and, Bool.false_and, Bool.and_true, Bool.and_false, nI_le (show m ≤ i by omega) (show i < 2 ^ 31 by omega)]
            refine ih (k + 1) (by omega) hnz2 (hA2.symm.trans hA) h4 tb4 _ _ _ _ _ _ _ _ S4 b4 T4 (fun a x h1 h2 h3 h5 => ?_)
            rw [tO_y ⟨by omega, by omega, by omega⟩]
            exact ⟨(emp _).1, (emp _).2, md_step I hkm (by omega) hnz2 G bv hbv a x h1 h2 h3 h5⟩
          | succ u ih2 =>
            intro i hi hki h4 tb4 L9 L10 L11 S4 b4 T4
            have him : i < m := by omega
            have O6 := O.sm S4 (by decide)
            have O7 := O6
            unfold iMo at O7
            have vik := T4 i k him hkm
            rw [tO_n (by omega)] at vik
            have bik := G i k (by omega) him (Nat.le_refl _) hkm
            have hp2 := mulp (x := t i k) (y := bv) bik.1 (by omega) bv0 (by omega)
            rw [s_X10_corner_185]
            simp only [s_X10_corner_187, s_X10_corner_188, s_X10_corner_191, s_X10_corner_192, s_X10_corner_195, s_X10_corner_197, s_X10_corner_199, s_X10_corner_200, s_X10_corner_202, s_X10_corner_203, s_X10_corner_204, s_X10_corner_206, s_X10_corner_207, s_X10_corner_210, s_X10_corner_211, s_X10_corner_213, s_X10_corner_215, aq_gI, aq_gL, aq_gA, aq_isA, aq_s1, aq_s2, aq_kill, aq_ob, aq_sm, aq_arI, aq_arB, aq_isB, aq_arL, aq_arA, aq_arN, aq_sh, Value.category, List.getElem?_cons_zero, List.getElem?_cons_succ, List.length_cons, List.length_nil, Option.toList_some, Option.toList_none, List.cons_append, List.nil_append, true_and, and_true, List.set_cons_zero, List.set_cons_succ, aq_n1, aq_n2, aq_n3, aq_n4, aq_f1, aq_f2, aq_f3, aq_f4, aq_gs, aq_ty1, aq_ty2, aq_ty3, aq_ty4, aq_ty5, Nat.reduceAdd, Nat.reduceLT, Nat.reduceEqDiff, Nat.reduceSub, if_true, if_false, ne_eq, not_false_eq_true, not_true_eq_false, Option.map_some, Option.map_none, Nat.zero_add, reduceCtorEq, Nat.reduceLeDiff, one_ne_zero_a, zero_ne_one_a, aq_nb, aq_nb1, aq_nb0, aq_fb, aq_fb1, aq_fb0, aq_ofN, bB_t, bB_f, bB_v, vpn_b1, vpn_b0, nI_1, Bool.true_eq_false, Bool.false_eq_true, Bool.true_and, Bool.false_and, Bool.and_true, Bool.and_false, nI_ge him (show m < 2 ^ 31 by omega), O7, b4, nI_16c, vp_in_nI (show 16 * i + k < 256 by omega) (show 256 < 2 ^ 31 by decide), nI_clamp (show 16 * i + k < 2 ^ 31 by omega), vik, pz, lI_mul, lI_remp hp2.1 (by omega)]
            refine co_j (h := h4) (t := tO t k i bv) (i := i) O6 hm hki him (emp (t i k * bv)).1 (emp (t i k * bv)).2 (fun a x h1 h2 h3 h5 => ?_) ?_ (m - k) k (by omega) (Nat.le_refl _) h4 tb4 (sm.rf _ _ _) b4 (fun a x h1 h2 => ?_)
            · by_cases z : k < a ∧ a < i ∧ k ≤ x
              · rw [tO_y z]; exact emp _
              · rw [tO_n z]; exact ⟨(G a x h1 h2 h3 h5).1, (G a x h1 h2 h3 h5).2.1⟩
            · intro h5 tb5 L11' S5 b5 T5
              simp only [s_X10_corner_280, s_X10_corner_283, aq_gI, aq_gL, aq_gA, aq_isA, aq_s1, aq_s2, aq_kill, aq_ob, aq_sm, aq_arI, aq_arB, aq_isB, aq_arL, aq_arA, aq_arN, aq_sh, Value.category, List.getElem?_cons_zero, List.getElem?_cons_succ, List.length_cons, List.length_nil, Option.toList_some, Option.toList_none, List.cons_append, List.nil_append, true_and, and_true, List.set_cons_zero, List.set_cons_succ, aq_n1, aq_n2, aq_n3, aq_n4, aq_f1, aq_f2, aq_f3, aq_f4, aq_gs, aq_ty1, aq_ty2, aq_ty3, aq_ty4, aq_ty5, Nat.reduceAdd, Nat.reduceLT, Nat.reduceEqDiff, Nat.reduceSub, if_true, if_false, ne_eq, not_false_eq_true, not_true_eq_false, Option.map_some, Option.map_none, Nat.zero_add, reduceCtorEq, Nat.reduceLeDiff, one_ne_zero_a, zero_ne_one_a, aq_nb, aq_nb1, aq_nb0, aq_fb, aq_fb1, aq_fb0, aq_ofN, bB_t, bB_f, bB_v, vpn_b1, vpn_b0, nI_1, Bool.true_eq_false, Bool.false_eq_true, Bool.true_and, Bool.false_and, Bool.and_true, Bool.and_false]
              refine ih2 (i + 1) (by omega) (by omega) h5 tb5 _ _ _ (S4.tr S5) b5 (fun a x h1 h2 => ?_)
              rw [T5 a x h1 h2]
              by_cases z : a = i
              · subst z
                by_cases y : k ≤ x
                · rw [tJ_y ⟨rfl, y, h2⟩, tO_n (a := a) (i := a) (by omega), tO_n (a := k) (i := a) (by omega), tO_y (i := a + 1) ⟨hki, by omega, y⟩]
                · rw [tJ_n (by omega), tO_n (i := a) (by omega), tO_n (i := a + 1) (by omega)]
              · rw [tJ_n (fun y => z y.1)]
                by_cases y : k < a ∧ a < i ∧ k ≤ x
                · rw [tO_y y, tO_y ⟨y.1, by omega, y.2.2⟩]
                · rw [tO_n y, tO_n (by omega)]
            · rw [tJ_n (by omega)]; exact T4 a x h1 h2
        exact outer (m - (k + 1)) (k + 1) (by omega) (by omega) h3 tb' _ _ _ S3 b3 (fun a x h1 h2 => by rw [tO_n (by omega)]; exact T a x h1 h2)
  simp only [s_X10_corner_0, s_X10_corner_1, s_X10_corner_2, s_X10_corner_3, aq_gI, aq_gL, aq_gA, aq_isA, aq_s1, aq_s2, aq_kill, aq_ob, aq_sm, aq_arI, aq_arB, aq_isB, aq_arL, aq_arA, aq_arN, aq_sh, Value.category, List.getElem?_cons_zero, List.getElem?_cons_succ, List.length_cons, List.length_nil, Option.toList_some, Option.toList_none, List.cons_append, List.nil_append, true_and, and_true, List.set_cons_zero, List.set_cons_succ, aq_n1, aq_n2, aq_n3, aq_n4, aq_f1, aq_f2, aq_f3, aq_f4, aq_gs, aq_ty1, aq_ty2, aq_ty3, aq_ty4, aq_ty5, Nat.reduceAdd, Nat.reduceLT, Nat.reduceEqDiff, Nat.reduceSub, if_true, if_false, ne_eq, not_false_eq_true, not_true_eq_false, Option.map_some, Option.map_none, Nat.zero_add, reduceCtorEq, Nat.reduceLeDiff, one_ne_zero_a, zero_ne_one_a, aq_nb, aq_nb1, aq_nb0, aq_fb, aq_fb1, aq_fb0, aq_ofN, bB_t, bB_f, bB_v, vpn_b1, vpn_b0, nI_1, Bool.true_eq_false, Bool.false_eq_true, Bool.true_and, Bool.false_and, Bool.and_true, Bool.and_false]
  rw [← nI_0]
  exact one m 0 (Nat.zero_add _) (fun l hl => by omega) rfl h tb t _ _ _ _ _ _ _ (sm.rf _ _ _) b T G0
end MTR
