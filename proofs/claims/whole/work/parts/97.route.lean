/-! the desk's route -/
theorem st_I (c k : Nat) : nI c * 16 + nI k = nI (16 * c + k) := by rw [nI_16, pk_mul, nI_add, Nat.mul_comm]
theorem d16 {s : Nat} (h : s < 2 ^ 31) : nI s / 16 = nI (s / 16) := by rw [nI_16]; exact pk_div h (by decide) (by decide)
theorem r16 {s : Nat} (h : s < 2 ^ 31) : nI s - nI (s / 16) * 16 = nI (s % 16) := by
  rw [← d16 h, nI_16]; exact pk_rem h (by decide) (by decide)
theorem n16z : ¬ (16 : Int32) = 0 := by decide
theorem m1_lt0 : (-1 : Int32) < 0 := by decide
theorem m1_m2 : ¬ (-1 : Int32) = -2 := by decide
theorem nI_ne_m2 {m : Nat} (h : m < 2 ^ 31) : ¬ nI m = -2 := by
  intro e
  have h1 := nI_pos h
  rw [e] at h1
  exact h1 (by decide)
theorem nI_sm1 (r : Nat) : nI (r + 1) - 1 = nI r := by rw [← nI_1, Int32.add_sub_cancel]
theorem nI_am1 (r : Nat) : nI r + -1 = nI r - 1 := (Int32.sub_eq_add_neg _ _).symm
/-- states: a cell and the keys that are had -/
def sF (w ht : Nat) (wx wy : Bool) (cb : Nat → Bool) (Z : mzT) (s d : Nat) : Option Nat := (stf w ht wx wy cb Z.1 Z.2.1 Z.2.2.1 (s / 16) d (nI (s % 16))).map (fun c => 16 * c + (s % 16 ||| kmm Z.2.2.2.1 c))
def sS (Z : mzT) : Nat := 16 * Z.2.2.2.2.1 + kmm Z.2.2.2.1 Z.2.2.2.2.1
def sG (Z : mzT) (s : Nat) : Prop := Z.2.2.2.2.2 = some (s / 16)
/-- a road back from a state: b t is the state after t steps -/
def BK (N : Nat) (cf cy : Nat → Int32) (ls : Int32) (c : Nat) : Prop :=
  ∃ b : Nat → Nat, ls = nI (b (cl c)) ∧ (∀ t, t ≤ cl c → b t < N) ∧ ∀ t, t < cl c → cf (b (t + 1)) = nI (b t) ∧ cy (b (t + 1)) = nI (dig c t)
def VV (w ht : Nat) (wx wy : Bool) (cb : Nat → Bool) (Z : mzT) (sc : Int32) (cf cy : Nat → Int32) (ls : Int32) : Prop :=
  ∃ o, ESC (sF w ht wx wy cb Z) (sS Z) (sG Z) o ∧ sc = oI (o.map cl) ∧ ∀ c, o = some c → cl c ≤ w * ht * 16 ∧ BK (w * ht * 16) cf cy ls c
def RA (N : Nat) (Q K : Nat → Nat) (q : Nat) (cf cy qu : Nat → Int32) : Prop :=
  (∀ i, i < q → qu i = nI (Q i)) ∧ (∀ s, s < N → (∀ i, i < q → Q i ≠ s) → cf s = -2) ∧ cf (Q 0) = -1 ∧ (∀ i, 0 < i → i < q → ∃ j d, j < i ∧ d < 4 ∧ K i = 4 * K j + d + 1 ∧ cf (Q i) = nI (Q j) ∧ cy (Q i) = nI d)
theorem RA_seen {N : Nat} {Q K : Nat → Nat} {q : Nat} {cf cy qu : Nat → Int32} (R : RA N Q K q cf cy qu) (hQ : ∀ i, i < q → Q i < 2 ^ 31) {i : Nat} (hi : i < q) : ¬ cf (Q i) = -2 := by
  by_cases e : i = 0
  · rw [e, R.2.2.1]; exact m1_m2
  · obtain ⟨j, d, h1, h2, h3, h4, h5⟩ := R.2.2.2 i (by omega) hi
    rw [h4]
    exact nI_ne_m2 (hQ j (by omega))
theorem RA_cl {N : Nat} {Q K : Nat → Nat} {q : Nat} {cf cy qu : Nat → Int32} (R : RA N Q K q cf cy qu) (h0 : K 0 = 0) : ∀ i, i < q → cl (K i) ≤ i := by
  intro i
  induction i using Nat.strongRecOn with
  | ind i ih =>
    intro hi
    by_cases e : i = 0
    · rw [e, h0, cl_0]; exact Nat.le_refl _
    · obtain ⟨j, d, h1, h2, h3, h4, h5⟩ := R.2.2.2 i (by omega) hi
      rw [h3, cl_s _ h2]
      have := ih j h1 (by omega)
      omega
theorem RA_new {N : Nat} {Q K : Nat → Nat} {q h d v : Nat} {cf cy qu : Nat → Int32} (R : RA N Q K q cf cy qu) (hq : h < q) (hd : d < 4) (hn : ∀ j, j < q → Q j ≠ v) : RA N (fs Q q v) (fs K q (4 * K h + d + 1)) (q + 1) (upd cf v (nI (Q h))) (upd cy v (nI d)) (upd qu q (nI v)) := by
  obtain ⟨a1, a2, a3, a4⟩ := R
  have o : ∀ i, i < q → fs Q q v i = Q i ∧ fs K q (4 * K h + d + 1) i = K i := fun i hi => ⟨fs_n _ _ (by omega), fs_n _ _ (by omega)⟩
  refine ⟨fun i hi => ?_, fun s hs hne => ?_, ?_, fun i h0 hi => ?_⟩
  · by_cases e : i = q
    · subst e; rw [upd_s, fs_s]
    · rw [upd_n _ _ e, (o i (by omega)).1]; exact a1 i (by omega)
  · have hv : s ≠ v := fun e => hne q (by omega) (by rw [fs_s, e])
    rw [upd_n _ _ hv]
    exact a2 s hs (fun i hi => by have := hne i (by omega); rw [(o i hi).1] at this; exact this)
  · rw [(o 0 (by omega)).1, upd_n _ _ (hn 0 (by omega))]; exact a3
  · by_cases e : i = q
    · subst e
      refine ⟨h, d, hq, hd, by rw [fs_s, (o h hq).2], by rw [fs_s, upd_s, (o h hq).1], by rw [fs_s, upd_s]⟩
    · obtain ⟨j, d', h1, h2, h3, h4, h5⟩ := a4 i h0 (by omega)
      refine ⟨j, d', h1, h2, by rw [(o i (by omega)).2, (o j (by omega)).2]; exact h3, ?_, ?_⟩
      · rw [(o i (by omega)).1, (o j (by omega)).1, upd_n _ _ (hn i (by omega))]; exact h4
      · rw [(o i (by omega)).1, upd_n _ _ (hn i (by omega))]; exact h5
theorem RA_bk {N : Nat} {Q K : Nat → Nat} {q : Nat} {cf cy qu : Nat → Int32} (R : RA N Q K q cf cy qu) (hQ : ∀ i, i < q → Q i < N) (h0 : K 0 = 0) : ∀ i, i < q → ∃ b : Nat → Nat, b (cl (K i)) = Q i ∧ (∀ t, t ≤ cl (K i) → b t < N) ∧ ∀ t, t < cl (K i) → cf (b (t + 1)) = nI (b t) ∧ cy (b (t + 1)) = nI (dig (K i) t) := by
  intro i
  induction i using Nat.strongRecOn with
  | ind i ih =>
    intro hi
    by_cases e : i = 0
    · subst e
      refine ⟨fun _ => Q 0, rfl, fun _ _ => hQ 0 hi, fun t ht => ?_⟩
      rw [h0, cl_0] at ht
      omega
    · obtain ⟨j, d, h1, h2, h3, h4, h5⟩ := R.2.2.2 i (by omega) hi
      obtain ⟨b, b1, b2, b3⟩ := ih j h1 (by omega)
      have ec : cl (K i) = cl (K j) + 1 := by rw [h3, cl_s _ h2]
      refine ⟨fs b (cl (K i)) (Q i), by rw [fs_s], fun t ht => ?_, fun t ht => ?_⟩
      · by_cases z : t = cl (K i)
        · rw [z, fs_s]; exact hQ i hi
        · rw [fs_n _ _ z]; exact b2 t (by omega)
      · have z : t ≠ cl (K i) := by omega
        by_cases y : t = cl (K j)
        · have e2 : t + 1 = cl (K i) := by omega
          have e3 : b t = Q j := by rw [y, b1]
          have e4 : dig (K i) t = d := by rw [h3, y]; exact dig_last _ h2
          rw [fs_n _ _ z, e2, fs_s, e3, e4]
          exact ⟨h4, h5⟩
        · obtain ⟨c1, c2⟩ := b3 t (by omega)
          have e4 : dig (K i) t = dig (K j) t := by rw [h3, dig_prev _ h2 (by omega)]
          rw [fs_n _ _ z, fs_n _ _ (show t + 1 ≠ cl (K i) by omega), e4]
          exact ⟨c1, c2⟩
section RTE
variable {h h' : aq_H} {w ht n q ch : Nat} {wx wy hm : Bool} {cb : Nat → Bool} {D : drT} {Z : mzT} {P : plT} {cut bes lead pas : Nat → Int32} {fr : Int32} {op dk od kc : Nat → Int32} {st ex chI : Int32} {ky : Nat → Option Nat} {cf cy qu : Nat → Int32} {qd ls sc kn : Int32} {N : Nat} {Q K : Nat → Nat}
theorem iRt.sm (R : iRt h n cf cy qu qd ls sc kn) {a b : Nat} (S : sm a b h h') (hab : b < 41 ∨ 44 < a) : iRt h' n cf cy qu qd ls sc kn := by
  obtain ⟨m1, m2, m3, m4⟩ := R
  exact ⟨(S 41 (by omega)).trans m1, (S 42 (by omega)).trans m2, (S 43 (by omega)).trans m3, (S 44 (by omega)).trans m4⟩
theorem t_comeUpon (R : iRt h n cf cy qu (nI q) ls sc kn) (M : iMz h N op dk od kc st ex chI) (hk : ∀ k, k < 4 → kc k = oI (ky k)) {c kb : Nat} (hc : c < n) (hn : n ≤ 144) (hkb : kb < 16) (hq : cf (16 * c + (kb ||| kmm ky c)) = -2 → q < n * 16) (x y : Int32) :
    aq_T e_X5_comeUpon 6 0 0 [.ref 41, .int (nI c), .int (nI kb), .int x, .int y] h (fun r h' => r = none ∧ sm 41 44 h h' ∧ (cf (16 * c + (kb ||| kmm ky c)) = -2 → iRt h' n (upd cf (16 * c + (kb ||| kmm ky c)) x) (upd cy (16 * c + (kb ||| kmm ky c)) y) (upd qu q (nI (16 * c + (kb ||| kmm ky c)))) (nI (q + 1)) ls sc kn) ∧ (¬ cf (16 * c + (kb ||| kmm ky c)) = -2 → h' = h)) := by
  have hor := or16 kb hkb _ (kmm_lt ky c)
  have hs : 16 * c + (kb ||| kmm ky c) < n * 16 := by omega
  have e1 := nI_or16 kb hkb _ (kmm_lt ky c)
  obtain ⟨r1, r2, r3, r4⟩ := R
  refine ⟨Nat.le_of_ble_eq_true rfl, ?_⟩
  show aq_W _ _ 0 [some (.ref 41), some (.int (nI c)), some (.int (nI kb)), some (.int x), some (.int y), none] [] _ _ _
  simp only [s_X5_comeUpon_0, s_X5_comeUpon_1, s_X5_comeUpon_3, s_X5_comeUpon_4, s_X5_comeUpon_5, s_X5_comeUpon_6, s_X5_comeUpon_9, s_X5_comeUpon_10, s_X5_comeUpon_13, s_X5_comeUpon_14, s_X5_comeUpon_15, s_X5_comeUpon_17, s_X5_comeUpon_18, s_X5_comeUpon_21, s_X5_comeUpon_23, s_X5_comeUpon_24, s_X5_comeUpon_26, s_X5_comeUpon_29, s_X5_comeUpon_30, s_X5_comeUpon_33, s_X5_comeUpon_35, s_X5_comeUpon_36, s_X5_comeUpon_37, s_X5_comeUpon_38, s_X5_comeUpon_41, s_X5_comeUpon_43, s_X5_comeUpon_45, s_X5_comeUpon_46, s_X5_comeUpon_47, s_X5_comeUpon_50, s_X5_comeUpon_51, s_X5_comeUpon_54, s_X5_comeUpon_56, s_X5_comeUpon_57, s_X5_comeUpon_58, s_X5_comeUpon_59, s_X5_comeUpon_62, s_X5_comeUpon_63, s_X5_comeUpon_64, s_X5_comeUpon_67, aq_gI, aq_gL, aq_gA, aq_isA, aq_s1, aq_s2, aq_kill, aq_ob, aq_sm, aq_arI, aq_arB, aq_isB, aq_arL, aq_arA, aq_arN, aq_sh, Value.category, List.getElem?_cons_zero, List.getElem?_cons_succ, List.length_cons, List.length_nil, Option.toList_some, Option.toList_none, List.cons_append, List.nil_append, true_and, and_true, List.set_cons_zero, List.set_cons_succ, aq_n1, aq_n2, aq_n3, aq_n4, aq_f1, aq_f2, aq_f3, aq_f4, aq_gs, aq_ty1, aq_ty2, aq_ty3, aq_ty4, aq_ty5, Nat.reduceAdd, Nat.reduceLT, Nat.reduceEqDiff, Nat.reduceSub, if_true, if_false, ne_eq, not_false_eq_true, not_true_eq_false, Option.map_some, Option.map_none, Nat.zero_add, reduceCtorEq, Nat.reduceLeDiff, one_ne_zero_a, zero_ne_one_a, aq_nb, aq_nb1, aq_nb0, aq_fb, aq_fb1, aq_fb0, aq_ofN, bB_t, bB_f, bB_v, vpn_b1, vpn_b0, nI_1, Bool.true_eq_false, Bool.false_eq_true, Bool.true_and, Bool.false_and, Bool.and_true, Bool.and_false, r1, M.1]
  refine (t_keysIn M (nI c)).use ?_
  rintro _ h ⟨rfl, rfl⟩
  rw [km_kmm hk]
  generalize hS : 16 * c + (kb ||| kmm ky c) = s at hs hq ⊢
  have e2 : nI c * 16 + nI (kb ||| kmm ky c) = nI s := by rw [st_I, hS]
  simp only [s_X5_comeUpon_13, s_X5_comeUpon_14, s_X5_comeUpon_15, s_X5_comeUpon_17, s_X5_comeUpon_18, s_X5_comeUpon_21, s_X5_comeUpon_23, s_X5_comeUpon_24, aq_gI, aq_gL, aq_gA, aq_isA, aq_s1, aq_s2, aq_kill, aq_ob, aq_sm, aq_arI, aq_arB, aq_isB, aq_arL, aq_arA, aq_arN, aq_sh, Value.category, List.getElem?_cons_zero, List.getElem?_cons_succ, List.length_cons, List.length_nil, Option.toList_some, Option.toList_none, List.cons_append, List.nil_append, true_and, and_true, List.set_cons_zero, List.set_cons_succ, aq_n1, aq_n2, aq_n3, aq_n4, aq_f1, aq_f2, aq_f3, aq_f4, aq_gs, aq_ty1, aq_ty2, aq_ty3, aq_ty4, aq_ty5, Nat.reduceAdd, Nat.reduceLT, Nat.reduceEqDiff, Nat.reduceSub, if_true, if_false, ne_eq, not_false_eq_true, not_true_eq_false, Option.map_some, Option.map_none, Nat.zero_add, reduceCtorEq, Nat.reduceLeDiff, one_ne_zero_a, zero_ne_one_a, aq_nb, aq_nb1, aq_nb0, aq_fb, aq_fb1, aq_fb0, aq_ofN, bB_t, bB_f, bB_v, vpn_b1, vpn_b0, nI_1, Bool.true_eq_false, Bool.false_eq_true, Bool.true_and, Bool.false_and, Bool.and_true, Bool.and_false, e1, e2, r1, r2, vp_in_nI hs (show n * 16 < 2 ^ 31 by omega), nI_clamp (show s < 2 ^ 31 by omega)]
  by_cases e : cf s = -2
  · have hq2 := hq e
    simp only [s_X5_comeUpon_26, s_X5_comeUpon_29, s_X5_comeUpon_30, s_X5_comeUpon_33, s_X5_comeUpon_35, s_X5_comeUpon_36, s_X5_comeUpon_37, s_X5_comeUpon_38, s_X5_comeUpon_41, s_X5_comeUpon_43, s_X5_comeUpon_45, s_X5_comeUpon_46, s_X5_comeUpon_47, s_X5_comeUpon_50, s_X5_comeUpon_51, s_X5_comeUpon_54, s_X5_comeUpon_56, s_X5_comeUpon_57, s_X5_comeUpon_58, s_X5_comeUpon_59, s_X5_comeUpon_62, s_X5_comeUpon_63, s_X5_comeUpon_64, s_X5_comeUpon_67, aq_gI, aq_gL, aq_gA, aq_isA, aq_s1, aq_s2, aq_kill, aq_ob, aq_sm, aq_arI, aq_arB, aq_isB, aq_arL, aq_arA, aq_arN, aq_sh, Value.category, List.getElem?_cons_zero, List.getElem?_cons_succ, List.length_cons, List.length_nil, Option.toList_some, Option.toList_none, List.cons_append, List.nil_append, true_and, and_true, List.set_cons_zero, List.set_cons_succ, aq_n1, aq_n2, aq_n3, aq_n4, aq_f1, aq_f2, aq_f3, aq_f4, aq_gs, aq_ty1, aq_ty2, aq_ty3, aq_ty4, aq_ty5, Nat.reduceAdd, Nat.reduceLT, Nat.reduceEqDiff, Nat.reduceSub, if_true, if_false, ne_eq, not_false_eq_true, not_true_eq_false, Option.map_some, Option.map_none, Nat.zero_add, reduceCtorEq, Nat.reduceLeDiff, one_ne_zero_a, zero_ne_one_a, aq_nb, aq_nb1, aq_nb0, aq_fb, aq_fb1, aq_fb0, aq_ofN, bB_t, bB_f, bB_v, vpn_b1, vpn_b0, nI_1, Bool.true_eq_false, Bool.false_eq_true, Bool.true_and, Bool.false_and, Bool.and_true, Bool.and_false, e, r1, r2, r3, r4, vp_in_nI hs (show n * 16 < 2 ^ 31 by omega), nI_clamp (show s < 2 ^ 31 by omega), vp_in_nI hq2 (show n * 16 < 2 ^ 31 by omega), nI_clamp (show q < 2 ^ 31 by omega)]
    refine ⟨((((sm.rf _ _ _).st (by decide) (by decide)).st (by decide) (by decide)).st (by decide) (by decide)).st (by decide) (by decide), fun _ => ⟨?_, ?_, ?_, ?_⟩, fun z => False.elim z⟩ <;> simp only [aq_gI, aq_gL, aq_gA, aq_isA, aq_s1, aq_s2, aq_kill, aq_ob, aq_sm, aq_arI, aq_arB, aq_isB, aq_arL, aq_arA, aq_arN, aq_sh, Value.category, List.getElem?_cons_zero, List.getElem?_cons_succ, List.length_cons, List.length_nil, Option.toList_some, Option.toList_none, List.cons_append, List.nil_append, true_and, and_true, List.set_cons_zero, List.set_cons_succ, aq_n1, aq_n2, aq_n3, aq_n4, aq_f1, aq_f2, aq_f3, aq_f4, aq_gs, aq_ty1, aq_ty2, aq_ty3, aq_ty4, aq_ty5, Nat.reduceAdd, Nat.reduceLT, Nat.reduceEqDiff, Nat.reduceSub, if_true, if_false, ne_eq, not_false_eq_true, not_true_eq_false, Option.map_some, Option.map_none, Nat.zero_add, reduceCtorEq, Nat.reduceLeDiff, one_ne_zero_a, zero_ne_one_a, r1, r2, r3, r4]
  · simp only [s_X5_comeUpon_26, s_X5_comeUpon_67, aq_gI, aq_gL, aq_gA, aq_isA, aq_s1, aq_s2, aq_kill, aq_ob, aq_sm, aq_arI, aq_arB, aq_isB, aq_arL, aq_arA, aq_arN, aq_sh, Value.category, List.getElem?_cons_zero, List.getElem?_cons_succ, List.length_cons, List.length_nil, Option.toList_some, Option.toList_none, List.cons_append, List.nil_append, true_and, and_true, List.set_cons_zero, List.set_cons_succ, aq_n1, aq_n2, aq_n3, aq_n4, aq_f1, aq_f2, aq_f3, aq_f4, aq_gs, aq_ty1, aq_ty2, aq_ty3, aq_ty4, aq_ty5, Nat.reduceAdd, Nat.reduceLT, Nat.reduceEqDiff, Nat.reduceSub, if_true, if_false, ne_eq, not_false_eq_true, not_true_eq_false, Option.map_some, Option.map_none, Nat.zero_add, reduceCtorEq, Nat.reduceLeDiff, one_ne_zero_a, zero_ne_one_a, aq_nb, aq_nb1, aq_nb0, aq_fb, aq_fb1, aq_fb0, aq_ofN, bB_t, bB_f, bB_v, vpn_b1, vpn_b0, nI_1, Bool.true_eq_false, Bool.false_eq_true, Bool.true_and, Bool.false_and, Bool.and_true, Bool.and_false, e]
    exact ⟨sm.rf _ _ _, fun z => absurd z (fun z => z), fun _ => trivial⟩
theorem t_lookAround (B : iBd h w ht cut bes lead pas fr) (G : gBd w ht wx wy cb cut bes lead pas fr) (M : iMz h (w * ht * 2) op dk od kc st ex chI) (H : gMz (w * ht * 2) Z.1 Z.2.1 Z.2.2.1 Z.2.2.2.1 op dk od kc) {hd : Nat} (R : iRt h (w * ht) cf cy qu (nI q) ls sc kn) (A : RA (w * ht * 16) Q K q cf cy qu) (F : BF (w * ht * 16) (sF w ht wx wy cb Z) (sS Z) Q K q hd 0) (hq : hd < q) :
    aq_T e_X5_lookAround 6 0 0 [.ref 41, .int (nI (Q hd))] h (fun r h' => r = none ∧ sm 41 44 h h' ∧ ∃ Q' K' q' cf' cy' qu', iRt h' (w * ht) cf' cy' qu' (nI q') ls sc kn ∧ RA (w * ht * 16) Q' K' q' cf' cy' qu' ∧ BF (w * ht * 16) (sF w ht wx wy cb Z) (sS Z) Q' K' q' (hd + 1) 0 ∧ q ≤ q' ∧ ∀ i, i < q → Q' i = Q i ∧ K' i = K i) := by
  have hn := wh_lt G.1
  have hQ := (F.2.1 hd hq).1
  have hn16 : w * ht * 16 < 2 ^ 31 := by omega
  refine ⟨Nat.le_of_ble_eq_true rfl, ?_⟩
  show aq_W _ _ 0 [some (.ref 41), some (.int (nI (Q hd))), none, none, none, none] [] _ _ _
  simp only [s_X5_lookAround_0, s_X5_lookAround_1, s_X5_lookAround_3, s_X5_lookAround_4, s_X5_lookAround_5, s_X5_lookAround_6, s_X5_lookAround_8, s_X5_lookAround_9, s_X5_lookAround_10, s_X5_lookAround_11, aq_gI, aq_gL, aq_gA, aq_isA, aq_s1, aq_s2, aq_kill, aq_ob, aq_sm, aq_arI, aq_arB, aq_isB, aq_arL, aq_arA, aq_arN, aq_sh, Value.category, List.getElem?_cons_zero, List.getElem?_cons_succ, List.length_cons, List.length_nil, Option.toList_some, Option.toList_none, List.cons_append, List.nil_append, true_and, and_true, List.set_cons_zero, List.set_cons_succ, aq_n1, aq_n2, aq_n3, aq_n4, aq_f1, aq_f2, aq_f3, aq_f4, aq_gs, aq_ty1, aq_ty2, aq_ty3, aq_ty4, aq_ty5, Nat.reduceAdd, Nat.reduceLT, Nat.reduceEqDiff, Nat.reduceSub, if_true, if_false, ne_eq, not_false_eq_true, not_true_eq_false, Option.map_some, Option.map_none, Nat.zero_add, reduceCtorEq, Nat.reduceLeDiff, one_ne_zero_a, zero_ne_one_a, aq_nb, aq_nb1, aq_nb0, aq_fb, aq_fb1, aq_fb0, aq_ofN, bB_t, bB_f, bB_v, vpn_b1, vpn_b0, nI_1, Bool.true_eq_false, Bool.false_eq_true, Bool.true_and, Bool.false_and, Bool.and_true, Bool.and_false, n16z, d16 (show Q hd < 2 ^ 31 by omega), r16 (show Q hd < 2 ^ 31 by omega)]
  generalize hS : Q hd = s at hQ ⊢
  have one : ∀ (k d : Nat), d + k = 4 → ∀ (h2 : aq_H) (Q' K' : Nat → Nat) (q' : Nat) (cf' cy' qu' : Nat → Int32) (L : Option Value), sm 41 44 h h2 → iRt h2 (w * ht) cf' cy' qu' (nI q') ls sc kn → RA (w * ht * 16) Q' K' q' cf' cy' qu' → BF (w * ht * 16) (sF w ht wx wy cb Z) (sS Z) Q' K' q' hd d → q ≤ q' → (∀ i, i < q → Q' i = Q i ∧ K' i = K i) →
      aq_W e_X5_lookAround (fun r h' => r = none ∧ sm 41 44 h h' ∧ ∃ Q' K' q' cf' cy' qu', iRt h' (w * ht) cf' cy' qu' (nI q') ls sc kn ∧ RA (w * ht * 16) Q' K' q' cf' cy' qu' ∧ BF (w * ht * 16) (sF w ht wx wy cb Z) (sS Z) Q' K' q' (hd + 1) 0 ∧ q ≤ q' ∧ ∀ i, i < q → Q' i = Q i ∧ K' i = K i) 13 [some (.ref 41), some (.int (nI s)), some (.int (nI (s / 16))), some (.int (nI (s % 16))), some (.int (nI d)), L] [] h2 0 0 := by
    intro k
    induction k with
    | zero =>
      intro d hd' h2 Q' K' q' cf' cy' qu' L S R2 A2 F2 hqq ho
      have e : d = 4 := by omega
      subst e
      have h4 : (4 : Int32) ≤ nI 4 := by decide
      rw [s_X5_lookAround_13]
      simp only [s_X5_lookAround_15, s_X5_lookAround_16, s_X5_lookAround_54, aq_gI, aq_gL, aq_gA, aq_isA, aq_s1, aq_s2, aq_kill, aq_ob, aq_sm, aq_arI, aq_arB, aq_isB, aq_arL, aq_arA, aq_arN, aq_sh, Value.category, List.getElem?_cons_zero, List.getElem?_cons_succ, List.length_cons, List.length_nil, Option.toList_some, Option.toList_none, List.cons_append, List.nil_append, true_and, and_true, List.set_cons_zero, List.set_cons_succ, aq_n1, aq_n2, aq_n3, aq_n4, aq_f1, aq_f2, aq_f3, aq_f4, aq_gs, aq_ty1, aq_ty2, aq_ty3, aq_ty4, aq_ty5, Nat.reduceAdd, Nat.reduceLT, Nat.reduceEqDiff, Nat.reduceSub, if_true, if_false, ne_eq, not_false_eq_true, not_true_eq_false, Option.map_some, Option.map_none, Nat.zero_add, reduceCtorEq, Nat.reduceLeDiff, one_ne_zero_a, zero_ne_one_a, aq_nb, aq_nb1, aq_nb0, aq_fb, aq_fb1, aq_fb0, aq_ofN, bB_t, bB_f, bB_v, vpn_b1, vpn_b0, nI_1, Bool.true_eq_false, Bool.false_eq_true, Bool.true_and, Bool.false_and, Bool.and_true, Bool.and_false, h4]
      exact ⟨S, Q', K', q', cf', cy', qu', R2, A2, BF_nx F2, hqq, ho⟩
    | succ k ih =>
      intro d hd' h2 Q' K' q' cf' cy' qu' L S R2 A2 F2 hqq ho
      have hd4 : d < 4 := by omega
      have h4 : ¬ (4 : Int32) ≤ nI d := by rw [nI_4]; exact nI_ge hd4 (by omega)
      have B2 := B.sm S (by omega)
      have M2 := M.sm S (by omega)
      have r1 := R2.1
      have hQ' : Q' hd = s := by rw [(ho hd hq).1, hS]
      rw [s_X5_lookAround_13]
      simp only [s_X5_lookAround_15, s_X5_lookAround_16, s_X5_lookAround_19, s_X5_lookAround_20, s_X5_lookAround_23, s_X5_lookAround_24, s_X5_lookAround_26, s_X5_lookAround_27, aq_gI, aq_gL, aq_gA, aq_isA, aq_s1, aq_s2, aq_kill, aq_ob, aq_sm, aq_arI, aq_arB, aq_isB, aq_arL, aq_arA, aq_arN, aq_sh, Value.category, List.getElem?_cons_zero, List.getElem?_cons_succ, List.length_cons, List.length_nil, Option.toList_some, Option.toList_none, List.cons_append, List.nil_append, true_and, and_true, List.set_cons_zero, List.set_cons_succ, aq_n1, aq_n2, aq_n3, aq_n4, aq_f1, aq_f2, aq_f3, aq_f4, aq_gs, aq_ty1, aq_ty2, aq_ty3, aq_ty4, aq_ty5, Nat.reduceAdd, Nat.reduceLT, Nat.reduceEqDiff, Nat.reduceSub, if_true, if_false, ne_eq, not_false_eq_true, not_true_eq_false, Option.map_some, Option.map_none, Nat.zero_add, reduceCtorEq, Nat.reduceLeDiff, one_ne_zero_a, zero_ne_one_a, aq_nb, aq_nb1, aq_nb0, aq_fb, aq_fb1, aq_fb0, aq_ofN, bB_t, bB_f, bB_v, vpn_b1, vpn_b0, nI_1, Bool.true_eq_false, Bool.false_eq_true, Bool.true_and, Bool.false_and, Bool.and_true, Bool.and_false, h4, r1, M2.1]
      refine (t_cellAfter B2 G M2 H (show s / 16 < w * ht by omega) (nI d) (nI (s % 16))).use ?_
      rintro _ h2 ⟨rfl, rfl⟩
      rw [inC_nI hd4 (by decide), if_pos rfl, nI_clamp (show d < 2 ^ 31 by omega)]
      have hsf : sF w ht wx wy cb Z (Q' hd) d = (stf w ht wx wy cb Z.1 Z.2.1 Z.2.2.1 (s / 16) d (nI (s % 16))).map (fun c => 16 * c + (s % 16 ||| kmm Z.2.2.2.1 c)) := by rw [hQ']; rfl
      cases hx : stf w ht wx wy cb Z.1 Z.2.1 Z.2.2.1 (s / 16) d (nI (s % 16)) with
      | none =>
        rw [hx] at hsf
        simp only [oI, s_X5_lookAround_30, s_X5_lookAround_32, s_X5_lookAround_34, s_X5_lookAround_35, s_X5_lookAround_48, s_X5_lookAround_51, aq_gI, aq_gL, aq_gA, aq_isA, aq_s1, aq_s2, aq_kill, aq_ob, aq_sm, aq_arI, aq_arB, aq_isB, aq_arL, aq_arA, aq_arN, aq_sh, Value.category, List.getElem?_cons_zero, List.getElem?_cons_succ, List.length_cons, List.length_nil, Option.toList_some, Option.toList_none, List.cons_append, List.nil_append, true_and, and_true, List.set_cons_zero, List.set_cons_succ, aq_n1, aq_n2, aq_n3, aq_n4, aq_f1, aq_f2, aq_f3, aq_f4, aq_gs, aq_ty1, aq_ty2, aq_ty3, aq_ty4, aq_ty5, Nat.reduceAdd, Nat.reduceLT, Nat.reduceEqDiff, Nat.reduceSub, if_true, if_false, ne_eq, not_false_eq_true, not_true_eq_false, Option.map_some, Option.map_none, Nat.zero_add, reduceCtorEq, Nat.reduceLeDiff, one_ne_zero_a, zero_ne_one_a, aq_nb, aq_nb1, aq_nb0, aq_fb, aq_fb1, aq_fb0, aq_ofN, bB_t, bB_f, bB_v, vpn_b1, vpn_b0, nI_1, Bool.true_eq_false, Bool.false_eq_true, Bool.true_and, Bool.false_and, Bool.and_true, Bool.and_false]
        exact ih (d + 1) (by omega) h2 Q' K' q' cf' cy' qu' _ S R2 A2 (BF_no F2 hsf) hqq ho
      | some c =>
        rw [hx] at hsf
        have hc := stf_lt G.1 (show s / 16 < w * ht by omega) hd4 hx
        have hor := or16 (s % 16) (by omega) _ (kmm_lt Z.2.2.2.1 c)
        simp only [oI, s_X5_lookAround_30, s_X5_lookAround_32, s_X5_lookAround_34, s_X5_lookAround_35, s_X5_lookAround_38, s_X5_lookAround_39, s_X5_lookAround_41, s_X5_lookAround_42, s_X5_lookAround_43, s_X5_lookAround_45, aq_gI, aq_gL, aq_gA, aq_isA, aq_s1, aq_s2, aq_kill, aq_ob, aq_sm, aq_arI, aq_arB, aq_isB, aq_arL, aq_arA, aq_arN, aq_sh, Value.category, List.getElem?_cons_zero, List.getElem?_cons_succ, List.length_cons, List.length_nil, Option.toList_some, Option.toList_none, List.cons_append, List.nil_append, true_and, and_true, List.set_cons_zero, List.set_cons_succ, aq_n1, aq_n2, aq_n3, aq_n4, aq_f1, aq_f2, aq_f3, aq_f4, aq_gs, aq_ty1, aq_ty2, aq_ty3, aq_ty4, aq_ty5, Nat.reduceAdd, Nat.reduceLT, Nat.reduceEqDiff, Nat.reduceSub, if_true, if_false, ne_eq, not_false_eq_true, not_true_eq_false, Option.map_some, Option.map_none, Nat.zero_add, reduceCtorEq, Nat.reduceLeDiff, one_ne_zero_a, zero_ne_one_a, aq_nb, aq_nb1, aq_nb0, aq_fb, aq_fb1, aq_fb0, aq_ofN, bB_t, bB_f, bB_v, vpn_b1, vpn_b0, nI_1, Bool.true_eq_false, Bool.false_eq_true, Bool.true_and, Bool.false_and, Bool.and_true, Bool.and_false, r1, nI_ne_m1 (show c < 2 ^ 31 by omega)]
        have hnew : cf' (16 * c + (s % 16 ||| kmm Z.2.2.2.1 c)) = -2 → ∀ j, j < q' → Q' j ≠ 16 * c + (s % 16 ||| kmm Z.2.2.2.1 c) := by
          intro hz j hj e
          rw [← e] at hz
          exact RA_seen A2 (fun i hi => by have := (F2.2.1 i hi).1; omega) hj hz
        have hBF : cf' (16 * c + (s % 16 ||| kmm Z.2.2.2.1 c)) = -2 → BF (w * ht * 16) (sF w ht wx wy cb Z) (sS Z) (fs Q' q' (16 * c + (s % 16 ||| kmm Z.2.2.2.1 c))) (fs K' q' (4 * K' hd + d + 1)) (q' + 1) hd (d + 1) :=
          fun hz => BF_new F2 (by omega) hd4 hsf (by omega) (hnew hz)
        refine (t_comeUpon (ky := Z.2.2.2.1) R2 M2 (fun k hk => (H.2.2.2 k hk).1) hc (by omega) (show s % 16 < 16 by omega) (fun hz => by have := BF_size (hBF hz); omega) (nI s) (nI d)).use ?_
        rintro _ h3 ⟨rfl, S3, y1, y2⟩
        simp only [s_X5_lookAround_48, s_X5_lookAround_51, aq_gI, aq_gL, aq_gA, aq_isA, aq_s1, aq_s2, aq_kill, aq_ob, aq_sm, aq_arI, aq_arB, aq_isB, aq_arL, aq_arA, aq_arN, aq_sh, Value.category, List.getElem?_cons_zero, List.getElem?_cons_succ, List.length_cons, List.length_nil, Option.toList_some, Option.toList_none, List.cons_append, List.nil_append, true_and, and_true, List.set_cons_zero, List.set_cons_succ, aq_n1, aq_n2, aq_n3, aq_n4, aq_f1, aq_f2, aq_f3, aq_f4, aq_gs, aq_ty1, aq_ty2, aq_ty3, aq_ty4, aq_ty5, Nat.reduceAdd, Nat.reduceLT, Nat.reduceEqDiff, Nat.reduceSub, if_true, if_false, ne_eq, not_false_eq_true, not_true_eq_false, Option.map_some, Option.map_none, Nat.zero_add, reduceCtorEq, Nat.reduceLeDiff, one_ne_zero_a, zero_ne_one_a, aq_nb, aq_nb1, aq_nb0, aq_fb, aq_fb1, aq_fb0, aq_ofN, bB_t, bB_f, bB_v, vpn_b1, vpn_b0, nI_1, Bool.true_eq_false, Bool.false_eq_true, Bool.true_and, Bool.false_and, Bool.and_true, Bool.and_false]
        by_cases hz : cf' (16 * c + (s % 16 ||| kmm Z.2.2.2.1 c)) = -2
        · have R3 := y1 hz
          have A3 := RA_new (d := d) A2 (show hd < q' by omega) hd4 (hnew hz)
          rw [hQ'] at A3
          refine ih (d + 1) (by omega) h3 _ _ (q' + 1) _ _ _ _ (S.tr S3) R3 A3 (hBF hz) (by omega) (fun i hi => ?_)
          rw [fs_n _ _ (show i ≠ q' by omega), fs_n _ _ (show i ≠ q' by omega)]
          exact ho i hi
        · have e3 := y2 hz
          subst e3
          have hin : ∃ j, j < q' ∧ Q' j = 16 * c + (s % 16 ||| kmm Z.2.2.2.1 c) := by
            refine Classical.byContradiction fun hno => hz (A2.2.1 _ (by omega) (fun i hi e => hno ⟨i, hi, e⟩))
          obtain ⟨j, j1, j2⟩ := hin
          refine ih (d + 1) (by omega) h3 Q' K' q' cf' cy' qu' _ S R2 A2 (BF_old F2 (by omega) j1 ?_) hqq ho
          rw [hsf, j2]
          rfl
  rw [← nI_0]
  exact one 4 0 rfl h Q K q cf cy qu _ (sm.rf _ _ _) R A F (Nat.le_refl _) (fun i _ => ⟨rfl, rfl⟩)
theorem t_stepsTo (R : iRt h n cf cy qu qd ls sc kn) (hn : n ≤ 144) (A : RA (n * 16) Q K q cf cy qu) (hQ : ∀ i, i < q → Q i < n * 16) (hK : K 0 = 0) (hqn : q ≤ n * 16) {i0 : Nat} (hi0 : i0 < q) :
    aq_T e_X5_stepsTo 4 0 0 [.ref 41, .int (nI (Q i0))] h (rd (nI (cl (K i0))) h) := by
  have hcl := RA_cl A hK
  have hcl0 := hcl i0 hi0
  have hn16 : n * 16 < 2 ^ 31 := by omega
  obtain ⟨r1, r2, r3, r4⟩ := R
  refine ⟨Nat.le_of_ble_eq_true rfl, ?_⟩
  show aq_W _ _ 0 [some (.ref 41), some (.int (nI (Q i0))), none, none] [] _ _ _
  have one : ∀ (i : Nat), i < q → ∀ (ct : Nat), ct + cl (K i) = cl (K i0) → aq_W e_X5_stepsTo (rd (nI (cl (K i0))) h) 4 [some (.ref 41), some (.int (nI (Q i0))), some (.int (nI ct)), some (.int (nI (Q i)))] [] h 0 0 := by
    intro i
    induction i using Nat.strongRecOn with
    | ind i ih =>
      intro hi ct hct
      have hQi := hQ i hi
      rw [s_X5_stepsTo_4]
      by_cases e : i = 0
      · have ec : ct = cl (K i0) := by rw [e, hK, cl_0] at hct; omega
        subst ec
        have hc0 : cf (Q i) = -1 := by rw [e]; exact A.2.2.1
        simp only [s_X5_stepsTo_5, s_X5_stepsTo_8, s_X5_stepsTo_9, s_X5_stepsTo_10, s_X5_stepsTo_35, s_X5_stepsTo_36, aq_gI, aq_gL, aq_gA, aq_isA, aq_s1, aq_s2, aq_kill, aq_ob, aq_sm, aq_arI, aq_arB, aq_isB, aq_arL, aq_arA, aq_arN, aq_sh, Value.category, List.getElem?_cons_zero, List.getElem?_cons_succ, List.length_cons, List.length_nil, Option.toList_some, Option.toList_none, List.cons_append, List.nil_append, true_and, and_true, List.set_cons_zero, List.set_cons_succ, aq_n1, aq_n2, aq_n3, aq_n4, aq_f1, aq_f2, aq_f3, aq_f4, aq_gs, aq_ty1, aq_ty2, aq_ty3, aq_ty4, aq_ty5, Nat.reduceAdd, Nat.reduceLT, Nat.reduceEqDiff, Nat.reduceSub, if_true, if_false, ne_eq, not_false_eq_true, not_true_eq_false, Option.map_some, Option.map_none, Nat.zero_add, reduceCtorEq, Nat.reduceLeDiff, one_ne_zero_a, zero_ne_one_a, aq_nb, aq_nb1, aq_nb0, aq_fb, aq_fb1, aq_fb0, aq_ofN, bB_t, bB_f, bB_v, vpn_b1, vpn_b0, nI_1, Bool.true_eq_false, Bool.false_eq_true, Bool.true_and, Bool.false_and, Bool.and_true, Bool.and_false, r1, r2, vp_in_nI hQi hn16, nI_clamp (show Q i < 2 ^ 31 by omega), hc0, m1_lt0, rd]
      · obtain ⟨j, d, j1, j2, j3, j4, j5⟩ := A.2.2.2 i (by omega) hi
        have hQj := hQ j (by omega)
        rw [j3, cl_s _ j2] at hct
        simp only [s_X5_stepsTo_5, s_X5_stepsTo_8, s_X5_stepsTo_9, s_X5_stepsTo_10, s_X5_stepsTo_13, s_X5_stepsTo_14, s_X5_stepsTo_15, s_X5_stepsTo_18, s_X5_stepsTo_19, s_X5_stepsTo_22, s_X5_stepsTo_25, s_X5_stepsTo_26, s_X5_stepsTo_29, s_X5_stepsTo_30, s_X5_stepsTo_31, s_X5_stepsTo_32, aq_gI, aq_gL, aq_gA, aq_isA, aq_s1, aq_s2, aq_kill, aq_ob, aq_sm, aq_arI, aq_arB, aq_isB, aq_arL, aq_arA, aq_arN, aq_sh, Value.category, List.getElem?_cons_zero, List.getElem?_cons_succ, List.length_cons, List.length_nil, Option.toList_some, Option.toList_none, List.cons_append, List.nil_append, true_and, and_true, List.set_cons_zero, List.set_cons_succ, aq_n1, aq_n2, aq_n3, aq_n4, aq_f1, aq_f2, aq_f3, aq_f4, aq_gs, aq_ty1, aq_ty2, aq_ty3, aq_ty4, aq_ty5, Nat.reduceAdd, Nat.reduceLT, Nat.reduceEqDiff, Nat.reduceSub, if_true, if_false, ne_eq, not_false_eq_true, not_true_eq_false, Option.map_some, Option.map_none, Nat.zero_add, reduceCtorEq, Nat.reduceLeDiff, one_ne_zero_a, zero_ne_one_a, aq_nb, aq_nb1, aq_nb0, aq_fb, aq_fb1, aq_fb0, aq_ofN, bB_t, bB_f, bB_v, vpn_b1, vpn_b0, nI_1, Bool.true_eq_false, Bool.false_eq_true, Bool.true_and, Bool.false_and, Bool.and_true, Bool.and_false, r1, r2, vp_in_nI hQi hn16, nI_clamp (show Q i < 2 ^ 31 by omega), j4, nI_pos (show Q j < 2 ^ 31 by omega), nI_ge (show ct < n * 16 by omega) hn16]
        exact ih j j1 (by omega) (ct + 1) (by omega)
  simp only [s_X5_stepsTo_0, s_X5_stepsTo_1, s_X5_stepsTo_2, s_X5_stepsTo_3, aq_gI, aq_gL, aq_gA, aq_isA, aq_s1, aq_s2, aq_kill, aq_ob, aq_sm, aq_arI, aq_arB, aq_isB, aq_arL, aq_arA, aq_arN, aq_sh, Value.category, List.getElem?_cons_zero, List.getElem?_cons_succ, List.length_cons, List.length_nil, Option.toList_some, Option.toList_none, List.cons_append, List.nil_append, true_and, and_true, List.set_cons_zero, List.set_cons_succ, aq_n1, aq_n2, aq_n3, aq_n4, aq_f1, aq_f2, aq_f3, aq_f4, aq_gs, aq_ty1, aq_ty2, aq_ty3, aq_ty4, aq_ty5, Nat.reduceAdd, Nat.reduceLT, Nat.reduceEqDiff, Nat.reduceSub, if_true, if_false, ne_eq, not_false_eq_true, not_true_eq_false, Option.map_some, Option.map_none, Nat.zero_add, reduceCtorEq, Nat.reduceLeDiff, one_ne_zero_a, zero_ne_one_a, aq_nb, aq_nb1, aq_nb0, aq_fb, aq_fb1, aq_fb0, aq_ofN, bB_t, bB_f, bB_v, vpn_b1, vpn_b0, nI_1, Bool.true_eq_false, Bool.false_eq_true, Bool.true_and, Bool.false_and, Bool.and_true, Bool.and_false]
  rw [← nI_0]
  exact one i0 hi0 0 (Nat.zero_add _)
theorem t_find (B : iBd h w ht cut bes lead pas fr) (G : gBd w ht wx wy cb cut bes lead pas fr) (M : iMz h (w * ht * 2) op dk od kc (nI Z.2.2.2.2.1) (oI Z.2.2.2.2.2) chI) (H : gMz (w * ht * 2) Z.1 Z.2.1 Z.2.2.1 Z.2.2.2.1 op dk od kc) (hst : Z.2.2.2.2.1 < w * ht) (hex : ∀ e, Z.2.2.2.2.2 = some e → e < w * ht) (R : iRt h (w * ht) cf cy qu qd ls sc kn) :
    aq_T e_X5_find 3 0 0 [.ref 41] h (fun r h' => sm 41 44 h h' ∧ ∃ cf' cy' qu' qd' ls' v, r = some (.int v) ∧ iRt h' (w * ht) cf' cy' qu' qd' ls' sc kn ∧ VV w ht wx wy cb Z v cf' cy' ls') := by
  have hn := wh_lt G.1
  have hn16 : w * ht * 16 < 2 ^ 31 := by omega
  obtain ⟨r1, r2, r3, r4⟩ := R
  refine ⟨Nat.le_of_ble_eq_true rfl, ?_⟩
  show aq_W _ _ 0 [some (.ref 41), none, none] [] _ _ _
  simp only [s_X5_find_0, s_X5_find_1, s_X5_find_4, aq_gI, aq_gL, aq_gA, aq_isA, aq_s1, aq_s2, aq_kill, aq_ob, aq_sm, aq_arI, aq_arB, aq_isB, aq_arL, aq_arA, aq_arN, aq_sh, Value.category, List.getElem?_cons_zero, List.getElem?_cons_succ, List.length_cons, List.length_nil, Option.toList_some, Option.toList_none, List.cons_append, List.nil_append, true_and, and_true, List.set_cons_zero, List.set_cons_succ, aq_n1, aq_n2, aq_n3, aq_n4, aq_f1, aq_f2, aq_f3, aq_f4, aq_gs, aq_ty1, aq_ty2, aq_ty3, aq_ty4, aq_ty5, Nat.reduceAdd, Nat.reduceLT, Nat.reduceEqDiff, Nat.reduceSub, if_true, if_false, ne_eq, not_false_eq_true, not_true_eq_false, Option.map_some, Option.map_none, Nat.zero_add, reduceCtorEq, Nat.reduceLeDiff, one_ne_zero_a, zero_ne_one_a, aq_nb, aq_nb1, aq_nb0, aq_fb, aq_fb1, aq_fb0, aq_ofN, bB_t, bB_f, bB_v, vpn_b1, vpn_b0, nI_1, Bool.true_eq_false, Bool.false_eq_true, Bool.true_and, Bool.false_and, Bool.and_true, Bool.and_false, r1, M.1]
  refine (t_exitCell M).use ?_
  rintro _ h ⟨rfl, rfl⟩
  cases he : Z.2.2.2.2.2 with
  | none =>
    simp only [s_X5_find_7, s_X5_find_8, s_X5_find_11, s_X5_find_12, aq_gI, aq_gL, aq_gA, aq_isA, aq_s1, aq_s2, aq_kill, aq_ob, aq_sm, aq_arI, aq_arB, aq_isB, aq_arL, aq_arA, aq_arN, aq_sh, Value.category, List.getElem?_cons_zero, List.getElem?_cons_succ, List.length_cons, List.length_nil, Option.toList_some, Option.toList_none, List.cons_append, List.nil_append, true_and, and_true, List.set_cons_zero, List.set_cons_succ, aq_n1, aq_n2, aq_n3, aq_n4, aq_f1, aq_f2, aq_f3, aq_f4, aq_gs, aq_ty1, aq_ty2, aq_ty3, aq_ty4, aq_ty5, Nat.reduceAdd, Nat.reduceLT, Nat.reduceEqDiff, Nat.reduceSub, if_true, if_false, ne_eq, not_false_eq_true, not_true_eq_false, Option.map_some, Option.map_none, Nat.zero_add, reduceCtorEq, Nat.reduceLeDiff, one_ne_zero_a, zero_ne_one_a, aq_nb, aq_nb1, aq_nb0, aq_fb, aq_fb1, aq_fb0, aq_ofN, bB_t, bB_f, bB_v, vpn_b1, vpn_b0, nI_1, Bool.true_eq_false, Bool.false_eq_true, Bool.true_and, Bool.false_and, Bool.and_true, Bool.and_false, oI]
    exact ⟨sm.rf _ _ _, cf, cy, qu, qd, ls, -1, rfl, ⟨r1, r2, r3, r4⟩, none, fun c s _ hg => (by unfold sG at hg; rw [he] at hg; cases hg), rfl, fun c hc => (by cases hc)⟩
  | some e =>
    have he2 := hex e he
    rw [he] at M
    simp only [s_X5_find_7, s_X5_find_8, s_X5_find_13, s_X5_find_14, s_X5_find_17, s_X5_find_19, aq_gI, aq_gL, aq_gA, aq_isA, aq_s1, aq_s2, aq_kill, aq_ob, aq_sm, aq_arI, aq_arB, aq_isB, aq_arL, aq_arA, aq_arN, aq_sh, Value.category, List.getElem?_cons_zero, List.getElem?_cons_succ, List.length_cons, List.length_nil, Option.toList_some, Option.toList_none, List.cons_append, List.nil_append, true_and, and_true, List.set_cons_zero, List.set_cons_succ, aq_n1, aq_n2, aq_n3, aq_n4, aq_f1, aq_f2, aq_f3, aq_f4, aq_gs, aq_ty1, aq_ty2, aq_ty3, aq_ty4, aq_ty5, Nat.reduceAdd, Nat.reduceLT, Nat.reduceEqDiff, Nat.reduceSub, if_true, if_false, ne_eq, not_false_eq_true, not_true_eq_false, Option.map_some, Option.map_none, Nat.zero_add, reduceCtorEq, Nat.reduceLeDiff, one_ne_zero_a, zero_ne_one_a, aq_nb, aq_nb1, aq_nb0, aq_fb, aq_fb1, aq_fb0, aq_ofN, bB_t, bB_f, bB_v, vpn_b1, vpn_b0, nI_1, Bool.true_eq_false, Bool.false_eq_true, Bool.true_and, Bool.false_and, Bool.and_true, Bool.and_false, r2, oI, nI_ne_m1 (show e < 2 ^ 31 by omega), r1]
    refine (t_fillI r2 hn16 (-2)).use ?_
    rintro _ h2 ⟨rfl, g, e2, hg⟩
    have S2 : sm 41 44 h h2 := by rw [e2]; exact (sm.rf _ _ _).st (by decide) (by decide)
    have b1 : h2[41]? = some (.inr (5, [.ref 32, .ref 42, .ref 43, .ref 44, .int qd, .int ls, .int sc, .int kn])) := by rw [e2]; simp only [aq_gI, aq_gL, aq_gA, aq_isA, aq_s1, aq_s2, aq_kill, aq_ob, aq_sm, aq_arI, aq_arB, aq_isB, aq_arL, aq_arA, aq_arN, aq_sh, Value.category, List.getElem?_cons_zero, List.getElem?_cons_succ, List.length_cons, List.length_nil, Option.toList_some, Option.toList_none, List.cons_append, List.nil_append, true_and, and_true, List.set_cons_zero, List.set_cons_succ, aq_n1, aq_n2, aq_n3, aq_n4, aq_f1, aq_f2, aq_f3, aq_f4, aq_gs, aq_ty1, aq_ty2, aq_ty3, aq_ty4, aq_ty5, Nat.reduceAdd, Nat.reduceLT, Nat.reduceEqDiff, Nat.reduceSub, if_true, if_false, ne_eq, not_false_eq_true, not_true_eq_false, Option.map_some, Option.map_none, Nat.zero_add, reduceCtorEq, Nat.reduceLeDiff, one_ne_zero_a, zero_ne_one_a, r1]
    have b2 : h2[42]? = some (.inl (.int, w * ht * 16, .inl g)) := by rw [e2]; simp only [aq_gI, aq_gL, aq_gA, aq_isA, aq_s1, aq_s2, aq_kill, aq_ob, aq_sm, aq_arI, aq_arB, aq_isB, aq_arL, aq_arA, aq_arN, aq_sh, Value.category, List.getElem?_cons_zero, List.getElem?_cons_succ, List.length_cons, List.length_nil, Option.toList_some, Option.toList_none, List.cons_append, List.nil_append, true_and, and_true, List.set_cons_zero, List.set_cons_succ, aq_n1, aq_n2, aq_n3, aq_n4, aq_f1, aq_f2, aq_f3, aq_f4, aq_gs, aq_ty1, aq_ty2, aq_ty3, aq_ty4, aq_ty5, Nat.reduceAdd, Nat.reduceLT, Nat.reduceEqDiff, Nat.reduceSub, if_true, if_false, ne_eq, not_false_eq_true, not_true_eq_false, Option.map_some, Option.map_none, Nat.zero_add, reduceCtorEq, Nat.reduceLeDiff, one_ne_zero_a, zero_ne_one_a, r2]
    have b3 : h2[43]? = some (.inl (.int, w * ht * 16, .inl cy)) := by rw [e2]; simp only [aq_gI, aq_gL, aq_gA, aq_isA, aq_s1, aq_s2, aq_kill, aq_ob, aq_sm, aq_arI, aq_arB, aq_isB, aq_arL, aq_arA, aq_arN, aq_sh, Value.category, List.getElem?_cons_zero, List.getElem?_cons_succ, List.length_cons, List.length_nil, Option.toList_some, Option.toList_none, List.cons_append, List.nil_append, true_and, and_true, List.set_cons_zero, List.set_cons_succ, aq_n1, aq_n2, aq_n3, aq_n4, aq_f1, aq_f2, aq_f3, aq_f4, aq_gs, aq_ty1, aq_ty2, aq_ty3, aq_ty4, aq_ty5, Nat.reduceAdd, Nat.reduceLT, Nat.reduceEqDiff, Nat.reduceSub, if_true, if_false, ne_eq, not_false_eq_true, not_true_eq_false, Option.map_some, Option.map_none, Nat.zero_add, reduceCtorEq, Nat.reduceLeDiff, one_ne_zero_a, zero_ne_one_a, r3]
    have b4 : h2[44]? = some (.inl (.int, w * ht * 16, .inl qu)) := by rw [e2]; simp only [aq_gI, aq_gL, aq_gA, aq_isA, aq_s1, aq_s2, aq_kill, aq_ob, aq_sm, aq_arI, aq_arB, aq_isB, aq_arL, aq_arA, aq_arN, aq_sh, Value.category, List.getElem?_cons_zero, List.getElem?_cons_succ, List.length_cons, List.length_nil, Option.toList_some, Option.toList_none, List.cons_append, List.nil_append, true_and, and_true, List.set_cons_zero, List.set_cons_succ, aq_n1, aq_n2, aq_n3, aq_n4, aq_f1, aq_f2, aq_f3, aq_f4, aq_gs, aq_ty1, aq_ty2, aq_ty3, aq_ty4, aq_ty5, Nat.reduceAdd, Nat.reduceLT, Nat.reduceEqDiff, Nat.reduceSub, if_true, if_false, ne_eq, not_false_eq_true, not_true_eq_false, Option.map_some, Option.map_none, Nat.zero_add, reduceCtorEq, Nat.reduceLeDiff, one_ne_zero_a, zero_ne_one_a, r4]
    have mm := (M.sm S2 (by omega)).1
    simp only [s_X5_find_22, s_X5_find_23, s_X5_find_24, s_X5_find_27, s_X5_find_28, s_X5_find_29, s_X5_find_32, aq_gI, aq_gL, aq_gA, aq_isA, aq_s1, aq_s2, aq_kill, aq_ob, aq_sm, aq_arI, aq_arB, aq_isB, aq_arL, aq_arA, aq_arN, aq_sh, Value.category, List.getElem?_cons_zero, List.getElem?_cons_succ, List.length_cons, List.length_nil, Option.toList_some, Option.toList_none, List.cons_append, List.nil_append, true_and, and_true, List.set_cons_zero, List.set_cons_succ, aq_n1, aq_n2, aq_n3, aq_n4, aq_f1, aq_f2, aq_f3, aq_f4, aq_gs, aq_ty1, aq_ty2, aq_ty3, aq_ty4, aq_ty5, Nat.reduceAdd, Nat.reduceLT, Nat.reduceEqDiff, Nat.reduceSub, if_true, if_false, ne_eq, not_false_eq_true, not_true_eq_false, Option.map_some, Option.map_none, Nat.zero_add, reduceCtorEq, Nat.reduceLeDiff, one_ne_zero_a, zero_ne_one_a, aq_nb, aq_nb1, aq_nb0, aq_fb, aq_fb1, aq_fb0, aq_ofN, bB_t, bB_f, bB_v, vpn_b1, vpn_b0, nI_1, Bool.true_eq_false, Bool.false_eq_true, Bool.true_and, Bool.false_and, Bool.and_true, Bool.and_false, b1, mm]
    have h3e : ∃ h3, h2.set 41 (.inr (5, [.ref 32, .ref 42, .ref 43, .ref 44, .int 0, .int ls, .int sc, .int kn])) = h3 := ⟨_, rfl⟩
    obtain ⟨h3, h3e⟩ := h3e
    have S3 : sm 41 44 h h3 := by rw [← h3e]; exact S2.st (by decide) (by decide)
    have R3 : iRt h3 (w * ht) g cy qu (nI 0) ls sc kn := by
      refine ⟨?_, ?_, ?_, ?_⟩ <;> rw [← h3e] <;> simp only [aq_gI, aq_gL, aq_gA, aq_isA, aq_s1, aq_s2, aq_kill, aq_ob, aq_sm, aq_arI, aq_arB, aq_isB, aq_arL, aq_arA, aq_arN, aq_sh, Value.category, List.getElem?_cons_zero, List.getElem?_cons_succ, List.length_cons, List.length_nil, Option.toList_some, Option.toList_none, List.cons_append, List.nil_append, true_and, and_true, List.set_cons_zero, List.set_cons_succ, aq_n1, aq_n2, aq_n3, aq_n4, aq_f1, aq_f2, aq_f3, aq_f4, aq_gs, aq_ty1, aq_ty2, aq_ty3, aq_ty4, aq_ty5, Nat.reduceAdd, Nat.reduceLT, Nat.reduceEqDiff, Nat.reduceSub, if_true, if_false, ne_eq, not_false_eq_true, not_true_eq_false, Option.map_some, Option.map_none, Nat.zero_add, reduceCtorEq, Nat.reduceLeDiff, one_ne_zero_a, zero_ne_one_a, b1, b2, b3, b4] <;> rfl
    rw [h3e]
    have M3 := M.sm S3 (by omega)
    refine (t_startCell M3).use ?_
    rintro _ h3 ⟨rfl, rfl⟩
    simp only [s_X5_find_35, s_X5_find_36, s_X5_find_37, s_X5_find_38, aq_gI, aq_gL, aq_gA, aq_isA, aq_s1, aq_s2, aq_kill, aq_ob, aq_sm, aq_arI, aq_arB, aq_isB, aq_arL, aq_arA, aq_arN, aq_sh, Value.category, List.getElem?_cons_zero, List.getElem?_cons_succ, List.length_cons, List.length_nil, Option.toList_some, Option.toList_none, List.cons_append, List.nil_append, true_and, and_true, List.set_cons_zero, List.set_cons_succ, aq_n1, aq_n2, aq_n3, aq_n4, aq_f1, aq_f2, aq_f3, aq_f4, aq_gs, aq_ty1, aq_ty2, aq_ty3, aq_ty4, aq_ty5, Nat.reduceAdd, Nat.reduceLT, Nat.reduceEqDiff, Nat.reduceSub, if_true, if_false, ne_eq, not_false_eq_true, not_true_eq_false, Option.map_some, Option.map_none, Nat.zero_add, reduceCtorEq, Nat.reduceLeDiff, one_ne_zero_a, zero_ne_one_a, aq_nb, aq_nb1, aq_nb0, aq_fb, aq_fb1, aq_fb0, aq_ofN, bB_t, bB_f, bB_v, vpn_b1, vpn_b0, nI_1, Bool.true_eq_false, Bool.false_eq_true, Bool.true_and, Bool.false_and, Bool.and_true, Bool.and_false, R3.1]
    rw [← nI_0]
    have hkl := kmm_lt Z.2.2.2.1 Z.2.2.2.2.1
    have hs0 : 16 * Z.2.2.2.2.1 + (0 ||| kmm Z.2.2.2.1 Z.2.2.2.2.1) = sS Z := by rw [Nat.zero_or]; rfl
    have hsN : sS Z < w * ht * 16 := by unfold sS; omega
    refine (t_comeUpon (ky := Z.2.2.2.1) R3 M3 (fun k hk => (H.2.2.2 k hk).1) hst (by omega) (show 0 < 16 by decide) (fun _ => by omega) (-1) (-1)).use ?_
    rintro _ h4 ⟨rfl, S4, y1, -⟩
    rw [hs0] at y1
    have R4 := y1 (hg _ hsN)
    have S4' := S3.tr (S4.mo (by decide) (by decide))
    have A4 : RA (w * ht * 16) (fun _ => sS Z) (fun _ => 0) 1 (upd g (sS Z) (-1)) (upd cy (sS Z) (-1)) (upd qu 0 (nI (sS Z))) := by
      refine ⟨fun i hi => ?_, fun s hs hne => ?_, upd_s _ _ _, fun i h0 hi => by omega⟩
      · have : i = 0 := by omega
        rw [this, upd_s]
      · rw [upd_n _ _ (fun e => hne 0 (by decide) e.symm)]; exact hg s hs
    have one : ∀ (k hd : Nat), hd + k = w * ht * 16 → ∀ (h2 : aq_H) (Q K : Nat → Nat) (q : Nat) (cf cy qu : Nat → Int32) (L : Option Value), sm 41 44 h h2 → iRt h2 (w * ht) cf cy qu (nI q) ls sc kn → RA (w * ht * 16) Q K q cf cy qu → BF (w * ht * 16) (sF w ht wx wy cb Z) (sS Z) Q K q hd 0 → (∀ i, i < hd → i < q → ¬ sG Z (Q i)) →
        aq_W e_X5_find (fun r h' => sm 41 44 h h' ∧ ∃ cf' cy' qu' qd' ls' v, r = some (.int v) ∧ iRt h' (w * ht) cf' cy' qu' qd' ls' sc kn ∧ VV w ht wx wy cb Z v cf' cy' ls') 43 [some (.ref 41), some (.int (nI hd)), L] [] h2 0 0 := by
      intro k
      induction k with
      | zero =>
        intro hd hk h2 Q K q cf cy qu L S R A F hno
        have hsz := BF_size F
        have c1 := R.1
        rw [s_X5_find_43]
        simp only [s_X5_find_44, s_X5_find_45, s_X5_find_48, s_X5_find_103, s_X5_find_104, aq_gI, aq_gL, aq_gA, aq_isA, aq_s1, aq_s2, aq_kill, aq_ob, aq_sm, aq_arI, aq_arB, aq_isB, aq_arL, aq_arA, aq_arN, aq_sh, Value.category, List.getElem?_cons_zero, List.getElem?_cons_succ, List.length_cons, List.length_nil, Option.toList_some, Option.toList_none, List.cons_append, List.nil_append, true_and, and_true, List.set_cons_zero, List.set_cons_succ, aq_n1, aq_n2, aq_n3, aq_n4, aq_f1, aq_f2, aq_f3, aq_f4, aq_gs, aq_ty1, aq_ty2, aq_ty3, aq_ty4, aq_ty5, Nat.reduceAdd, Nat.reduceLT, Nat.reduceEqDiff, Nat.reduceSub, if_true, if_false, ne_eq, not_false_eq_true, not_true_eq_false, Option.map_some, Option.map_none, Nat.zero_add, reduceCtorEq, Nat.reduceLeDiff, one_ne_zero_a, zero_ne_one_a, aq_nb, aq_nb1, aq_nb0, aq_fb, aq_fb1, aq_fb0, aq_ofN, bB_t, bB_f, bB_v, vpn_b1, vpn_b0, nI_1, Bool.true_eq_false, Bool.false_eq_true, Bool.true_and, Bool.false_and, Bool.and_true, Bool.and_false, c1, nI_le (show q ≤ hd by omega) (show hd < 2 ^ 31 by omega)]
        exact ⟨S, cf, cy, qu, nI q, ls, -1, rfl, R, none, BF_none F (by omega) (fun i hi => hno i (by omega) hi), rfl, fun c hc => (by cases hc)⟩
      | succ k ih =>
        intro hd hk h2 Q K q cf cy qu L S R A F hno
        have hsz := BF_size F
        have R0 := R
        obtain ⟨c1, c2, c3, c4⟩ := R0
        rw [s_X5_find_43]
        by_cases hq : hd < q
        · have hQ := (F.2.1 hd hq).1
          have M2 := M.sm S (by omega)
          simp only [s_X5_find_44, s_X5_find_45, s_X5_find_48, s_X5_find_51, s_X5_find_52, s_X5_find_53, s_X5_find_56, s_X5_find_57, s_X5_find_60, s_X5_find_61, s_X5_find_64, s_X5_find_65, s_X5_find_66, s_X5_find_67, s_X5_find_68, s_X5_find_70, s_X5_find_71, s_X5_find_72, s_X5_find_75, aq_gI, aq_gL, aq_gA, aq_isA, aq_s1, aq_s2, aq_kill, aq_ob, aq_sm, aq_arI, aq_arB, aq_isB, aq_arL, aq_arA, aq_arN, aq_sh, Value.category, List.getElem?_cons_zero, List.getElem?_cons_succ, List.length_cons, List.length_nil, Option.toList_some, Option.toList_none, List.cons_append, List.nil_append, true_and, and_true, List.set_cons_zero, List.set_cons_succ, aq_n1, aq_n2, aq_n3, aq_n4, aq_f1, aq_f2, aq_f3, aq_f4, aq_gs, aq_ty1, aq_ty2, aq_ty3, aq_ty4, aq_ty5, Nat.reduceAdd, Nat.reduceLT, Nat.reduceEqDiff, Nat.reduceSub, if_true, if_false, ne_eq, not_false_eq_true, not_true_eq_false, Option.map_some, Option.map_none, Nat.zero_add, reduceCtorEq, Nat.reduceLeDiff, one_ne_zero_a, zero_ne_one_a, aq_nb, aq_nb1, aq_nb0, aq_fb, aq_fb1, aq_fb0, aq_ofN, bB_t, bB_f, bB_v, vpn_b1, vpn_b0, nI_1, Bool.true_eq_false, Bool.false_eq_true, Bool.true_and, Bool.false_and, Bool.and_true, Bool.and_false, M2.1, c1, c4, nI_ge hq (show q < 2 ^ 31 by omega), nI_ge (show hd < w * ht * 16 by omega) hn16, vp_in_nI (show hd < w * ht * 16 by omega) hn16, nI_clamp (show hd < 2 ^ 31 by omega), A.1 hd hq, n16z, d16 (show Q hd < 2 ^ 31 by omega)]
          refine (t_exitCell M2).use ?_
          rintro _ h2 ⟨rfl, rfl⟩
          simp only [oI]
          by_cases hge : Q hd / 16 = e
          · simp only [s_X5_find_78, s_X5_find_81, s_X5_find_82, s_X5_find_83, aq_gI, aq_gL, aq_gA, aq_isA, aq_s1, aq_s2, aq_kill, aq_ob, aq_sm, aq_arI, aq_arB, aq_isB, aq_arL, aq_arA, aq_arN, aq_sh, Value.category, List.getElem?_cons_zero, List.getElem?_cons_succ, List.length_cons, List.length_nil, Option.toList_some, Option.toList_none, List.cons_append, List.nil_append, true_and, and_true, List.set_cons_zero, List.set_cons_succ, aq_n1, aq_n2, aq_n3, aq_n4, aq_f1, aq_f2, aq_f3, aq_f4, aq_gs, aq_ty1, aq_ty2, aq_ty3, aq_ty4, aq_ty5, Nat.reduceAdd, Nat.reduceLT, Nat.reduceEqDiff, Nat.reduceSub, if_true, if_false, ne_eq, not_false_eq_true, not_true_eq_false, Option.map_some, Option.map_none, Nat.zero_add, reduceCtorEq, Nat.reduceLeDiff, one_ne_zero_a, zero_ne_one_a, aq_nb, aq_nb1, aq_nb0, aq_fb, aq_fb1, aq_fb0, aq_ofN, bB_t, bB_f, bB_v, vpn_b1, vpn_b0, nI_1, Bool.true_eq_false, Bool.false_eq_true, Bool.true_and, Bool.false_and, Bool.and_true, Bool.and_false, hge, c1]
            have h3e : ∃ h3, h2.set 41 (.inr (5, [.ref 32, .ref 42, .ref 43, .ref 44, .int (nI q), .int (nI (Q hd)), .int sc, .int kn])) = h3 := ⟨_, rfl⟩
            obtain ⟨h3, h3e⟩ := h3e
            have S3 : sm 41 44 h h3 := by rw [← h3e]; exact S.st (by decide) (by decide)
            have R3 : iRt h3 (w * ht) cf cy qu (nI q) (nI (Q hd)) sc kn := by
              refine ⟨?_, ?_, ?_, ?_⟩ <;> rw [← h3e] <;> simp only [aq_gI, aq_gL, aq_gA, aq_isA, aq_s1, aq_s2, aq_kill, aq_ob, aq_sm, aq_arI, aq_arB, aq_isB, aq_arL, aq_arA, aq_arN, aq_sh, Value.category, List.getElem?_cons_zero, List.getElem?_cons_succ, List.length_cons, List.length_nil, Option.toList_some, Option.toList_none, List.cons_append, List.nil_append, true_and, and_true, List.set_cons_zero, List.set_cons_succ, aq_n1, aq_n2, aq_n3, aq_n4, aq_f1, aq_f2, aq_f3, aq_f4, aq_gs, aq_ty1, aq_ty2, aq_ty3, aq_ty4, aq_ty5, Nat.reduceAdd, Nat.reduceLT, Nat.reduceEqDiff, Nat.reduceSub, if_true, if_false, ne_eq, not_false_eq_true, not_true_eq_false, Option.map_some, Option.map_none, Nat.zero_add, reduceCtorEq, Nat.reduceLeDiff, one_ne_zero_a, zero_ne_one_a, c1, c2, c3, c4]
            rw [h3e]
            simp only [s_X5_find_86, s_X5_find_87, s_X5_find_88, aq_gI, aq_gL, aq_gA, aq_isA, aq_s1, aq_s2, aq_kill, aq_ob, aq_sm, aq_arI, aq_arB, aq_isB, aq_arL, aq_arA, aq_arN, aq_sh, Value.category, List.getElem?_cons_zero, List.getElem?_cons_succ, List.length_cons, List.length_nil, Option.toList_some, Option.toList_none, List.cons_append, List.nil_append, true_and, and_true, List.set_cons_zero, List.set_cons_succ, aq_n1, aq_n2, aq_n3, aq_n4, aq_f1, aq_f2, aq_f3, aq_f4, aq_gs, aq_ty1, aq_ty2, aq_ty3, aq_ty4, aq_ty5, Nat.reduceAdd, Nat.reduceLT, Nat.reduceEqDiff, Nat.reduceSub, if_true, if_false, ne_eq, not_false_eq_true, not_true_eq_false, Option.map_some, Option.map_none, Nat.zero_add, reduceCtorEq, Nat.reduceLeDiff, one_ne_zero_a, zero_ne_one_a, aq_nb, aq_nb1, aq_nb0, aq_fb, aq_fb1, aq_fb0, aq_ofN, bB_t, bB_f, bB_v, vpn_b1, vpn_b0, nI_1, Bool.true_eq_false, Bool.false_eq_true, Bool.true_and, Bool.false_and, Bool.and_true, Bool.and_false, R3.1]
            refine (t_stepsTo R3 (by omega) A (fun i hi => (F.2.1 i hi).1) F.1.2.2 hsz hq).use ?_
            rintro _ h3 ⟨rfl, rfl⟩
            simp only [s_X5_find_91, aq_gI, aq_gL, aq_gA, aq_isA, aq_s1, aq_s2, aq_kill, aq_ob, aq_sm, aq_arI, aq_arB, aq_isB, aq_arL, aq_arA, aq_arN, aq_sh, Value.category, List.getElem?_cons_zero, List.getElem?_cons_succ, List.length_cons, List.length_nil, Option.toList_some, Option.toList_none, List.cons_append, List.nil_append, true_and, and_true, List.set_cons_zero, List.set_cons_succ, aq_n1, aq_n2, aq_n3, aq_n4, aq_f1, aq_f2, aq_f3, aq_f4, aq_gs, aq_ty1, aq_ty2, aq_ty3, aq_ty4, aq_ty5, Nat.reduceAdd, Nat.reduceLT, Nat.reduceEqDiff, Nat.reduceSub, if_true, if_false, ne_eq, not_false_eq_true, not_true_eq_false, Option.map_some, Option.map_none, Nat.zero_add, reduceCtorEq, Nat.reduceLeDiff, one_ne_zero_a, zero_ne_one_a, aq_nb, aq_nb1, aq_nb0, aq_fb, aq_fb1, aq_fb0, aq_ofN, bB_t, bB_f, bB_v, vpn_b1, vpn_b0, nI_1, Bool.true_eq_false, Bool.false_eq_true, Bool.true_and, Bool.false_and, Bool.and_true, Bool.and_false]
            have hcl := RA_cl A F.1.2.2 hd hq
            obtain ⟨b, y1, y2, y3⟩ := RA_bk A (fun i hi => (F.2.1 i hi).1) F.1.2.2 hd hq
            refine ⟨S3, cf, cy, qu, nI q, nI (Q hd), nI (cl (K hd)), rfl, R3, some (K hd), BF_goal F hq (by unfold sG; rw [he, hge]) (fun i hi => hno i hi (by omega)), rfl, fun c hc => ?_⟩
            cases hc
            exact ⟨by omega, b, by rw [y1], y2, y3⟩
          · have hge' : ¬ nI (Q hd / 16) = nI e := fun z => hge ((nI_eq (show Q hd / 16 < 2 ^ 31 by omega) (show e < 2 ^ 31 by omega)).mp z)
            simp only [s_X5_find_78, s_X5_find_92, s_X5_find_93, s_X5_find_94, aq_gI, aq_gL, aq_gA, aq_isA, aq_s1, aq_s2, aq_kill, aq_ob, aq_sm, aq_arI, aq_arB, aq_isB, aq_arL, aq_arA, aq_arN, aq_sh, Value.category, List.getElem?_cons_zero, List.getElem?_cons_succ, List.length_cons, List.length_nil, Option.toList_some, Option.toList_none, List.cons_append, List.nil_append, true_and, and_true, List.set_cons_zero, List.set_cons_succ, aq_n1, aq_n2, aq_n3, aq_n4, aq_f1, aq_f2, aq_f3, aq_f4, aq_gs, aq_ty1, aq_ty2, aq_ty3, aq_ty4, aq_ty5, Nat.reduceAdd, Nat.reduceLT, Nat.reduceEqDiff, Nat.reduceSub, if_true, if_false, ne_eq, not_false_eq_true, not_true_eq_false, Option.map_some, Option.map_none, Nat.zero_add, reduceCtorEq, Nat.reduceLeDiff, one_ne_zero_a, zero_ne_one_a, aq_nb, aq_nb1, aq_nb0, aq_fb, aq_fb1, aq_fb0, aq_ofN, bB_t, bB_f, bB_v, vpn_b1, vpn_b0, nI_1, Bool.true_eq_false, Bool.false_eq_true, Bool.true_and, Bool.false_and, Bool.and_true, Bool.and_false, hge', c1]
            refine (t_lookAround (B.sm S (by omega)) G M2 H R A F hq).use ?_
            rintro _ h3 ⟨rfl, S3, Q', K', q', cf', cy', qu', R5, A5, F5, hqq, ho⟩
            simp only [s_X5_find_97, s_X5_find_100, aq_gI, aq_gL, aq_gA, aq_isA, aq_s1, aq_s2, aq_kill, aq_ob, aq_sm, aq_arI, aq_arB, aq_isB, aq_arL, aq_arA, aq_arN, aq_sh, Value.category, List.getElem?_cons_zero, List.getElem?_cons_succ, List.length_cons, List.length_nil, Option.toList_some, Option.toList_none, List.cons_append, List.nil_append, true_and, and_true, List.set_cons_zero, List.set_cons_succ, aq_n1, aq_n2, aq_n3, aq_n4, aq_f1, aq_f2, aq_f3, aq_f4, aq_gs, aq_ty1, aq_ty2, aq_ty3, aq_ty4, aq_ty5, Nat.reduceAdd, Nat.reduceLT, Nat.reduceEqDiff, Nat.reduceSub, if_true, if_false, ne_eq, not_false_eq_true, not_true_eq_false, Option.map_some, Option.map_none, Nat.zero_add, reduceCtorEq, Nat.reduceLeDiff, one_ne_zero_a, zero_ne_one_a, aq_nb, aq_nb1, aq_nb0, aq_fb, aq_fb1, aq_fb0, aq_ofN, bB_t, bB_f, bB_v, vpn_b1, vpn_b0, nI_1, Bool.true_eq_false, Bool.false_eq_true, Bool.true_and, Bool.false_and, Bool.and_true, Bool.and_false]
            refine ih (hd + 1) (by omega) h3 Q' K' q' cf' cy' qu' _ (S.tr (S3.mo (by decide) (by decide))) R5 A5 F5 (fun i hi hi' => ?_)
            rw [(ho i (by omega)).1]
            by_cases z : i = hd
            · rw [z]; unfold sG; rw [he]; intro y; injection y with y; exact hge y.symm
            · exact hno i (by omega) (by omega)
        · simp only [s_X5_find_44, s_X5_find_45, s_X5_find_48, s_X5_find_103, s_X5_find_104, aq_gI, aq_gL, aq_gA, aq_isA, aq_s1, aq_s2, aq_kill, aq_ob, aq_sm, aq_arI, aq_arB, aq_isB, aq_arL, aq_arA, aq_arN, aq_sh, Value.category, List.getElem?_cons_zero, List.getElem?_cons_succ, List.length_cons, List.length_nil, Option.toList_some, Option.toList_none, List.cons_append, List.nil_append, true_and, and_true, List.set_cons_zero, List.set_cons_succ, aq_n1, aq_n2, aq_n3, aq_n4, aq_f1, aq_f2, aq_f3, aq_f4, aq_gs, aq_ty1, aq_ty2, aq_ty3, aq_ty4, aq_ty5, Nat.reduceAdd, Nat.reduceLT, Nat.reduceEqDiff, Nat.reduceSub, if_true, if_false, ne_eq, not_false_eq_true, not_true_eq_false, Option.map_some, Option.map_none, Nat.zero_add, reduceCtorEq, Nat.reduceLeDiff, one_ne_zero_a, zero_ne_one_a, aq_nb, aq_nb1, aq_nb0, aq_fb, aq_fb1, aq_fb0, aq_ofN, bB_t, bB_f, bB_v, vpn_b1, vpn_b0, nI_1, Bool.true_eq_false, Bool.false_eq_true, Bool.true_and, Bool.false_and, Bool.and_true, Bool.and_false, c1, nI_le (show q ≤ hd by omega) (show hd < 2 ^ 31 by omega)]
          exact ⟨S, cf, cy, qu, nI q, ls, -1, rfl, R, none, BF_none F (by omega) (fun i hi => hno i (by omega) hi), rfl, fun c hc => (by cases hc)⟩
    simp only [s_X5_find_41, s_X5_find_42, aq_gI, aq_gL, aq_gA, aq_isA, aq_s1, aq_s2, aq_kill, aq_ob, aq_sm, aq_arI, aq_arB, aq_isB, aq_arL, aq_arA, aq_arN, aq_sh, Value.category, List.getElem?_cons_zero, List.getElem?_cons_succ, List.length_cons, List.length_nil, Option.toList_some, Option.toList_none, List.cons_append, List.nil_append, true_and, and_true, List.set_cons_zero, List.set_cons_succ, aq_n1, aq_n2, aq_n3, aq_n4, aq_f1, aq_f2, aq_f3, aq_f4, aq_gs, aq_ty1, aq_ty2, aq_ty3, aq_ty4, aq_ty5, Nat.reduceAdd, Nat.reduceLT, Nat.reduceEqDiff, Nat.reduceSub, if_true, if_false, ne_eq, not_false_eq_true, not_true_eq_false, Option.map_some, Option.map_none, Nat.zero_add, reduceCtorEq, Nat.reduceLeDiff, one_ne_zero_a, zero_ne_one_a, aq_nb, aq_nb1, aq_nb0, aq_fb, aq_fb1, aq_fb0, aq_ofN, bB_t, bB_f, bB_v, vpn_b1, vpn_b0, nI_1, Bool.true_eq_false, Bool.false_eq_true, Bool.true_and, Bool.false_and, Bool.and_true, Bool.and_false]
    rw [← nI_0]
    exact one (w * ht * 16) 0 (Nat.zero_add _) h4 (fun _ => sS Z) (fun _ => 0) 1 _ _ _ _ S4' R4 A4 (BF_0 hsN) (fun i hi => by omega)
end RTE
