-- dep 62.base2 63.ops 65.num2 66.flood 67.kp 68.place 70.mdl 71.mdl2 72.mdl3 80.cyc 81.lay 82.pop 83.join 84.make
/-! the model: sweeps over the cells until none is new -/
def clo (f : Nat → Nat → Option Nat) (u : Nat → Bool) : Prop := ∀ x, u x = false → ∀ d, d < 4 → ∀ m, f x d = some m → u m = false
def swp (n : Nat) (f : Nat → Nat → Option Nat) (s : Nat) (u0 u : Nat → Bool) (c d : Nat) : Prop :=
  (∀ x, u0 x = false → u x = false) ∧ (∀ x, u x = false → x < n ∧ Rc f s x) ∧ (∀ x, x < c → u0 x = false → ∀ d', d' < 4 → ∀ m, f x d' = some m → u m = false) ∧ (u0 c = false → ∀ d', d' < d → ∀ m, f c d' = some m → u m = false) ∧ ((∀ x, u x = u0 x) ∨ frc u0 n < frc u n) ∧ (clo f u0 → ∀ x, u x = u0 x)
theorem swp_no {n : Nat} {f : Nat → Nat → Option Nat} {s c d : Nat} {u0 u : Nat → Bool} (H : swp n f s u0 u c d) (h : u c = true ∨ f c d = none) : swp n f s u0 u c (d + 1) := by
  obtain ⟨h1, h2, h3, h4, h5, h6⟩ := H
  refine ⟨h1, h2, h3, fun hu d' hd' m hm => ?_, h5, h6⟩
  by_cases z : d' = d
  · rcases h with h | h
    · rw [h1 c hu] at h; cases h
    · rw [z, h] at hm; cases hm
  · exact h4 hu d' (by omega) m hm
theorem swp_go {n : Nat} {f : Nat → Nat → Option Nat} {s c d m : Nat} {u0 u : Nat → Bool} (fl : ∀ c d m, c < n → d < 4 → f c d = some m → m < n) (H : swp n f s u0 u c d) (hd : d < 4) (hu : u c = false) (hf : f c d = some m) : swp n f s u0 (cbs u m false) c (d + 1) := by
  obtain ⟨h1, h2, h3, h4, h5, h6⟩ := H
  have hc := h2 c hu
  have hm := fl c d m hc.1 hd hf
  have mono : ∀ x, u x = false → cbs u m false x = false := by
    intro x hx
    by_cases z : x = m
    · rw [z, cbs_s]
    · rw [cbs_n _ _ z]; exact hx
  refine ⟨fun x hx => mono x (h1 x hx), fun x hx => ?_, fun x hx hu0 d' hd' m' hm' => mono _ (h3 x hx hu0 d' hd' m' hm'), fun hu0 d' hd' m' hm' => ?_, ?_, fun hc0 x => ?_⟩
  · by_cases z : x = m
    · rw [z]; exact ⟨hm, Rc.go hc.2 hd hf⟩
    · rw [cbs_n _ _ z] at hx; exact h2 x hx
  · by_cases z : d' = d
    · rw [z, hf] at hm'; cases hm'; exact cbs_s _ _ _
    · exact mono _ (h4 hu0 d' (by omega) m' hm')
  · cases e : u m with
    | false =>
      have : ∀ x, cbs u m false x = u x := by
        intro x
        by_cases z : x = m
        · rw [z, cbs_s, e]
        · rw [cbs_n _ _ z]
      rcases h5 with h5 | h5
      · exact Or.inl (fun x => (this x).trans (h5 x))
      · right
        rw [show cbs u m false = u from funext this]
        exact h5
    | true =>
      right
      have k := frc_un hm e
      have : frc u0 n ≤ frc u n := frc_mono n h1
      omega
  · have h6' := h6 hc0
    have hx : u m = false := by rw [h6' m]; exact hc0 c (by rw [← h6' c]; exact hu) d hd m hf
    by_cases z : x = m
    · rw [z, cbs_s, ← h6' m, hx]
    · rw [cbs_n _ _ z]; exact h6' x
theorem swp_nx {n : Nat} {f : Nat → Nat → Option Nat} {s c : Nat} {u0 u : Nat → Bool} (H : swp n f s u0 u c 4) : swp n f s u0 u (c + 1) 0 := by
  obtain ⟨h1, h2, h3, h4, h5, h6⟩ := H
  refine ⟨h1, h2, fun x hx hu d' hd' m hm => ?_, fun _ d' hd' => by omega, h5, h6⟩
  by_cases z : x = c
  · rw [z] at hu hm; exact h4 hu d' hd' m hm
  · exact h3 x (by omega) hu d' hd' m hm
/-- after so many sweeps -/
def swj (n : Nat) (f : Nat → Nat → Option Nat) (s : Nat) (u : Nat → Bool) (j : Nat) : Prop := u s = false ∧ (∀ x, u x = false → x < n ∧ Rc f s x) ∧ (clo f u ∨ j + 1 ≤ frc u n)
theorem swj_in {n : Nat} {f : Nat → Nat → Option Nat} {s j : Nat} {u : Nat → Bool} (H : swj n f s u j) : swp n f s u u 0 0 := ⟨fun _ h => h, H.2.1, fun x hx => by omega, fun _ d' hd' => by omega, Or.inl (fun _ => rfl), fun _ _ => rfl⟩
theorem swj_up {n : Nat} {f : Nat → Nat → Option Nat} {s j : Nat} {u0 u : Nat → Bool} (H : swj n f s u0 j) (K : swp n f s u0 u n 0) : swj n f s u (j + 1) := by
  obtain ⟨h1, h2, h3⟩ := H
  obtain ⟨k1, k2, k3, k4, k5, k6⟩ := K
  refine ⟨k1 _ h1, k2, ?_⟩
  rcases h3 with h3 | h3
  · left
    have := k6 h3
    rw [show u = u0 from funext this]
    exact h3
  · rcases k5 with k5 | k5
    · left
      intro x hx d hd m hm
      rw [k5 x] at hx
      exact k3 x (h2 x hx).1 hx d hd m hm
    · right; omega
theorem swj_end {n : Nat} {f : Nat → Nat → Option Nat} {s : Nat} {u : Nat → Bool} (H : swj n f s u n) : ∀ x, u x = false ↔ Rc f s x := by
  obtain ⟨h1, h2, h3⟩ := H
  have hl := frc_le u n
  have hc : clo f u := by
    rcases h3 with h3 | h3
    · exact h3
    · omega
  refine fun x => ⟨fun h => (h2 x h).2, fun h => ?_⟩
  induction x, h using Rc.ind with
  | rt => exact h1
  | go a b c ih => exact hc _ ih _ b _ c
section MSW
variable {h : aq_H} {w ht : Nat} {wx wy hm : Bool} {cb : Nat → Bool} {D : drT} {Z : mzT} {P : plT} {wr thr th rt ci st ex pl hd sg : Int32} {mc mx mt mp mo md mw mk mr pc fa go : Nat → Int32} {tb : Nat → Int64} {ob : Nat → Bool} {dr on ky : Nat → Option Nat}
theorem iAr.s57 (A : iAr h mx mt mp mo md mw mk mr tb pc fa go) (f : Nat → Int32) : iAr (h.set 56 (.inl (.boolean, 144, .inl f))) mx mt mp mo md mw mk f tb pc fa go := by
  obtain ⟨a1, a2, a3, a4, a5, a6, a7, a8, a9, a10, a11, a12⟩ := A
  refine ⟨?_, ?_, ?_, ?_, ?_, ?_, ?_, ?_, ?_, ?_, ?_, ?_⟩ <;> simp only [aq_gI, aq_gL, aq_gA, aq_isA, aq_s1, aq_s2, aq_kill, aq_ob, aq_sm, aq_arI, aq_arB, aq_isB, aq_arL, aq_arA, aq_arN, aq_sh, Value.category, List.getElem?_cons_zero, List.getElem?_cons_succ, List.length_cons, List.length_nil, Option.toList_some, Option.toList_none, List.cons_append, List.nil_append, true_and, and_true, List.set_cons_zero, List.set_cons_succ, aq_n1, aq_n2, aq_n3, aq_n4, aq_f1, aq_f2, aq_f3, aq_f4, aq_gs, aq_ty1, aq_ty2, aq_ty3, aq_ty4, aq_ty5, Nat.reduceAdd, Nat.reduceLT, Nat.reduceEqDiff, Nat.reduceSub, if_true, if_false, ne_eq, not_false_eq_true, not_true_eq_false, Option.map_some, Option.map_none, Nat.zero_add, reduceCtorEq, Nat.reduceLeDiff, one_ne_zero_a, zero_ne_one_a, a1, a2, a3, a4, a5, a6, a7, a8, a9, a10, a11, a12]
theorem s57 (h : aq_H) (e : aq_E) : sm 56 56 h (h.set 56 e) := (sm.rf _ _ _).st (by decide) (by decide)
theorem ar_in {Q : Option Value → aq_H → Prop} {s : Nat} {x0 : Int32} (O : iMo h w ht wr thr th rt ci st ex pl hd sg) (G : gMb h w ht wx wy cb wr mc) {f : Nat → Nat → Option Nat} (hf : ∀ c d, c < w * ht → d < 4 → nx w ht wx wy cb c d = f c d) (fl : ∀ c d m, c < w * ht → d < 4 → f c d = some m → m < w * ht) {u0 : Nat → Bool} {c : Nat} (hc : c < w * ht) {x1 : Int32}
    (K : ∀ (h2 : aq_H) (mr : Nat → Int32) (u : Nat → Bool) (L : Option Value), sm 56 56 h h2 → h2[56]? = some (.inl (.boolean, 144, .inl mr)) → (∀ j, j < w * ht → mr j = bB (!u j)) → swp (w * ht) f s u0 u (c + 1) 0 → aq_W e_X10_allReach Q 44 [some (.ref 47), some (.int x0), some (.int x1), some (.int (nI (c + 1))), some (.int (nI 4)), L] [] h2 0 0) :
    ∀ (k d : Nat), d + k = 4 → ∀ (h2 : aq_H) (mr : Nat → Int32) (u : Nat → Bool) (L : Option Value), sm 56 56 h h2 → h2[56]? = some (.inl (.boolean, 144, .inl mr)) → (∀ j, j < w * ht → mr j = bB (!u j)) → swp (w * ht) f s u0 u c d → aq_W e_X10_allReach Q 55 [some (.ref 47), some (.int x0), some (.int x1), some (.int (nI c)), some (.int (nI d)), L] [] h2 0 0 := by
  have hn := wh_lt G.1
  intro k
  induction k with
  | zero =>
    intro d hd h2 mr u L S a8 g8 H
    have e : d = 4 := by omega
    subst e
    have h4 : (4 : Int32) ≤ nI 4 := by decide
    rw [s_X10_allReach_55]
    simp only [s_X10_allReach_57, s_X10_allReach_58, s_X10_allReach_103, s_X10_allReach_106, aq_gI, aq_gL, aq_gA, aq_isA, aq_s1, aq_s2, aq_kill, aq_ob, aq_sm, aq_arI, aq_arB, aq_isB, aq_arL, aq_arA, aq_arN, aq_sh, Value.category, List.getElem?_cons_zero, List.getElem?_cons_succ, List.length_cons, List.length_nil, Option.toList_some, Option.toList_none, List.cons_append, List.nil_append, true_and, and_true, List.set_cons_zero, List.set_cons_succ, aq_n1, aq_n2, aq_n3, aq_n4, aq_f1, aq_f2, aq_f3, aq_f4, aq_gs, aq_ty1, aq_ty2, aq_ty3, aq_ty4, aq_ty5, Nat.reduceAdd, Nat.reduceLT, Nat.reduceEqDiff, Nat.reduceSub, if_true, if_false, ne_eq, not_false_eq_true, not_true_eq_false, Option.map_some, Option.map_none, Nat.zero_add, reduceCtorEq, Nat.reduceLeDiff, one_ne_zero_a, zero_ne_one_a, aq_nb, aq_nb1, aq_nb0, aq_fb, aq_fb1, aq_fb0, aq_ofN, bB_t, bB_f, bB_v, vpn_b1, vpn_b0, nI_1, Bool.true_eq_false, Bool.false_eq_true, Bool.true_and, Bool.false_and, Bool.and_true, Bool.and_false, h4]
    exact K h2 mr u L S a8 g8 (swp_nx H)
  | succ k ih =>
    intro d hd h2 mr u L S a8 g8 H
    have hd4 : d < 4 := by omega
    have h4 : ¬ (4 : Int32) ≤ nI d := by rw [nI_4]; exact nI_ge hd4 (by omega)
    have O2 := O.sm S (by decide)
    have G2 := G.sm S (by decide)
    have O3 := O2
    unfold iMo at O3
    rw [s_X10_allReach_55]
    simp only [s_X10_allReach_57, s_X10_allReach_58, s_X10_allReach_61, s_X10_allReach_62, s_X10_allReach_65, s_X10_allReach_66, s_X10_allReach_67, aq_gI, aq_gL, aq_gA, aq_isA, aq_s1, aq_s2, aq_kill, aq_ob, aq_sm, aq_arI, aq_arB, aq_isB, aq_arL, aq_arA, aq_arN, aq_sh, Value.category, List.getElem?_cons_zero, List.getElem?_cons_succ, List.length_cons, List.length_nil, Option.toList_some, Option.toList_none, List.cons_append, List.nil_append, true_and, and_true, List.set_cons_zero, List.set_cons_succ, aq_n1, aq_n2, aq_n3, aq_n4, aq_f1, aq_f2, aq_f3, aq_f4, aq_gs, aq_ty1, aq_ty2, aq_ty3, aq_ty4, aq_ty5, Nat.reduceAdd, Nat.reduceLT, Nat.reduceEqDiff, Nat.reduceSub, if_true, if_false, ne_eq, not_false_eq_true, not_true_eq_false, Option.map_some, Option.map_none, Nat.zero_add, reduceCtorEq, Nat.reduceLeDiff, one_ne_zero_a, zero_ne_one_a, aq_nb, aq_nb1, aq_nb0, aq_fb, aq_fb1, aq_fb0, aq_ofN, bB_t, bB_f, bB_v, vpn_b1, vpn_b0, nI_1, Bool.true_eq_false, Bool.false_eq_true, Bool.true_and, Bool.false_and, Bool.and_true, Bool.and_false, h4, O3, a8, vp_in_nI (show c < 144 by omega) (show 144 < 2 ^ 31 by decide), nI_clamp (show c < 2 ^ 31 by omega), g8 c hc]
    cases hu : u c with
    | true =>
      simp only [s_X10_allReach_80, s_X10_allReach_81, s_X10_allReach_83, s_X10_allReach_85, s_X10_allReach_86, s_X10_allReach_97, s_X10_allReach_100, aq_gI, aq_gL, aq_gA, aq_isA, aq_s1, aq_s2, aq_kill, aq_ob, aq_sm, aq_arI, aq_arB, aq_isB, aq_arL, aq_arA, aq_arN, aq_sh, Value.category, List.getElem?_cons_zero, List.getElem?_cons_succ, List.length_cons, List.length_nil, Option.toList_some, Option.toList_none, List.cons_append, List.nil_append, true_and, and_true, List.set_cons_zero, List.set_cons_succ, aq_n1, aq_n2, aq_n3, aq_n4, aq_f1, aq_f2, aq_f3, aq_f4, aq_gs, aq_ty1, aq_ty2, aq_ty3, aq_ty4, aq_ty5, Nat.reduceAdd, Nat.reduceLT, Nat.reduceEqDiff, Nat.reduceSub, if_true, if_false, ne_eq, not_false_eq_true, not_true_eq_false, Option.map_some, Option.map_none, Nat.zero_add, reduceCtorEq, Nat.reduceLeDiff, one_ne_zero_a, zero_ne_one_a, aq_nb, aq_nb1, aq_nb0, aq_fb, aq_fb1, aq_fb0, aq_ofN, bB_t, bB_f, bB_v, vpn_b1, vpn_b0, nI_1, Bool.true_eq_false, Bool.false_eq_true, Bool.true_and, Bool.false_and, Bool.and_true, Bool.and_false, Bool.not_true]
      exact ih (d + 1) (by omega) h2 mr u _ S a8 g8 (swp_no H (Or.inl hu))
    | false =>
      simp only [s_X10_allReach_70, s_X10_allReach_71, s_X10_allReach_72, s_X10_allReach_74, aq_gI, aq_gL, aq_gA, aq_isA, aq_s1, aq_s2, aq_kill, aq_ob, aq_sm, aq_arI, aq_arB, aq_isB, aq_arL, aq_arA, aq_arN, aq_sh, Value.category, List.getElem?_cons_zero, List.getElem?_cons_succ, List.length_cons, List.length_nil, Option.toList_some, Option.toList_none, List.cons_append, List.nil_append, true_and, and_true, List.set_cons_zero, List.set_cons_succ, aq_n1, aq_n2, aq_n3, aq_n4, aq_f1, aq_f2, aq_f3, aq_f4, aq_gs, aq_ty1, aq_ty2, aq_ty3, aq_ty4, aq_ty5, Nat.reduceAdd, Nat.reduceLT, Nat.reduceEqDiff, Nat.reduceSub, if_true, if_false, ne_eq, not_false_eq_true, not_true_eq_false, Option.map_some, Option.map_none, Nat.zero_add, reduceCtorEq, Nat.reduceLeDiff, one_ne_zero_a, zero_ne_one_a, aq_nb, aq_nb1, aq_nb0, aq_fb, aq_fb1, aq_fb0, aq_ofN, bB_t, bB_f, bB_v, vpn_b1, vpn_b0, nI_1, Bool.true_eq_false, Bool.false_eq_true, Bool.true_and, Bool.false_and, Bool.and_true, Bool.and_false, Bool.not_false, O3]
      refine (m_next O2 G2 (nI c) (nI d)).use ?_
      rintro _ h2 ⟨rfl, rfl⟩
      rw [NX_in hc (by omega) hd4, hf c d hc hd4]
      cases hx : f c d with
      | none =>
        simp only [oI, s_X10_allReach_77, s_X10_allReach_81, s_X10_allReach_83, s_X10_allReach_85, s_X10_allReach_86, s_X10_allReach_97, s_X10_allReach_100, aq_gI, aq_gL, aq_gA, aq_isA, aq_s1, aq_s2, aq_kill, aq_ob, aq_sm, aq_arI, aq_arB, aq_isB, aq_arL, aq_arA, aq_arN, aq_sh, Value.category, List.getElem?_cons_zero, List.getElem?_cons_succ, List.length_cons, List.length_nil, Option.toList_some, Option.toList_none, List.cons_append, List.nil_append, true_and, and_true, List.set_cons_zero, List.set_cons_succ, aq_n1, aq_n2, aq_n3, aq_n4, aq_f1, aq_f2, aq_f3, aq_f4, aq_gs, aq_ty1, aq_ty2, aq_ty3, aq_ty4, aq_ty5, Nat.reduceAdd, Nat.reduceLT, Nat.reduceEqDiff, Nat.reduceSub, if_true, if_false, ne_eq, not_false_eq_true, not_true_eq_false, Option.map_some, Option.map_none, Nat.zero_add, reduceCtorEq, Nat.reduceLeDiff, one_ne_zero_a, zero_ne_one_a, aq_nb, aq_nb1, aq_nb0, aq_fb, aq_fb1, aq_fb0, aq_ofN, bB_t, bB_f, bB_v, vpn_b1, vpn_b0, nI_1, Bool.true_eq_false, Bool.false_eq_true, Bool.true_and, Bool.false_and, Bool.and_true, Bool.and_false]
        exact ih (d + 1) (by omega) h2 mr u _ S a8 g8 (swp_no H (Or.inr hx))
      | some m =>
        have hm := fl c d m hc hd4 hx
        simp only [oI, s_X10_allReach_77, s_X10_allReach_81, s_X10_allReach_83, s_X10_allReach_85, s_X10_allReach_86, s_X10_allReach_89, s_X10_allReach_90, s_X10_allReach_93, s_X10_allReach_95, s_X10_allReach_96, s_X10_allReach_97, s_X10_allReach_100, aq_gI, aq_gL, aq_gA, aq_isA, aq_s1, aq_s2, aq_kill, aq_ob, aq_sm, aq_arI, aq_arB, aq_isB, aq_arL, aq_arA, aq_arN, aq_sh, Value.category, List.getElem?_cons_zero, List.getElem?_cons_succ, List.length_cons, List.length_nil, Option.toList_some, Option.toList_none, List.cons_append, List.nil_append, true_and, and_true, List.set_cons_zero, List.set_cons_succ, aq_n1, aq_n2, aq_n3, aq_n4, aq_f1, aq_f2, aq_f3, aq_f4, aq_gs, aq_ty1, aq_ty2, aq_ty3, aq_ty4, aq_ty5, Nat.reduceAdd, Nat.reduceLT, Nat.reduceEqDiff, Nat.reduceSub, if_true, if_false, ne_eq, not_false_eq_true, not_true_eq_false, Option.map_some, Option.map_none, Nat.zero_add, reduceCtorEq, Nat.reduceLeDiff, one_ne_zero_a, zero_ne_one_a, aq_nb, aq_nb1, aq_nb0, aq_fb, aq_fb1, aq_fb0, aq_ofN, bB_t, bB_f, bB_v, vpn_b1, vpn_b0, nI_1, Bool.true_eq_false, Bool.false_eq_true, Bool.true_and, Bool.false_and, Bool.and_true, Bool.and_false, nI_ne_m1 (show m < 2 ^ 31 by omega), O3, a8, vp_in_nI (show m < 144 by omega) (show 144 < 2 ^ 31 by decide), nI_clamp (show m < 2 ^ 31 by omega)]
        refine ih (d + 1) (by omega) _ (upd mr m 1) (cbs u m false) _ (S.tr (s57 _ _)) (by simp only [aq_gI, aq_gL, aq_gA, aq_isA, aq_s1, aq_s2, aq_kill, aq_ob, aq_sm, aq_arI, aq_arB, aq_isB, aq_arL, aq_arA, aq_arN, aq_sh, Value.category, List.getElem?_cons_zero, List.getElem?_cons_succ, List.length_cons, List.length_nil, Option.toList_some, Option.toList_none, List.cons_append, List.nil_append, true_and, and_true, List.set_cons_zero, List.set_cons_succ, aq_n1, aq_n2, aq_n3, aq_n4, aq_f1, aq_f2, aq_f3, aq_f4, aq_gs, aq_ty1, aq_ty2, aq_ty3, aq_ty4, aq_ty5, Nat.reduceAdd, Nat.reduceLT, Nat.reduceEqDiff, Nat.reduceSub, if_true, if_false, ne_eq, not_false_eq_true, not_true_eq_false, Option.map_some, Option.map_none, Nat.zero_add, reduceCtorEq, Nat.reduceLeDiff, one_ne_zero_a, zero_ne_one_a, a8]) (fun j hj => ?_) (swp_go fl H hd4 hu hx)
        by_cases z : j = m
        · rw [z, upd_s, cbs_s]; rfl
        · rw [upd_n _ _ z, cbs_n _ _ z]; exact g8 j hj
theorem ar_c {Q : Option Value → aq_H → Prop} {s : Nat} {x0 : Int32} (O : iMo h w ht wr thr th rt ci st ex pl hd sg) (G : gMb h w ht wx wy cb wr mc) {f : Nat → Nat → Option Nat} (hf : ∀ c d, c < w * ht → d < 4 → nx w ht wx wy cb c d = f c d) (fl : ∀ c d m, c < w * ht → d < 4 → f c d = some m → m < w * ht) {u0 : Nat → Bool} {j : Nat}
    (K : ∀ (h2 : aq_H) (mr : Nat → Int32) (u : Nat → Bool) (L3 L4 L5 : Option Value), sm 56 56 h h2 → h2[56]? = some (.inl (.boolean, 144, .inl mr)) → (∀ j, j < w * ht → mr j = bB (!u j)) → swp (w * ht) f s u0 u (w * ht) 0 → aq_W e_X10_allReach Q 34 [some (.ref 47), some (.int x0), some (.int (nI (j + 1))), L3, L4, L5] [] h2 0 0) :
    ∀ (k c : Nat), c + k = w * ht → ∀ (h2 : aq_H) (mr : Nat → Int32) (u : Nat → Bool) (L4 L5 : Option Value), sm 56 56 h h2 → h2[56]? = some (.inl (.boolean, 144, .inl mr)) → (∀ j, j < w * ht → mr j = bB (!u j)) → swp (w * ht) f s u0 u c 0 → aq_W e_X10_allReach Q 44 [some (.ref 47), some (.int x0), some (.int (nI j)), some (.int (nI c)), L4, L5] [] h2 0 0 := by
  have hn := wh_lt G.1
  intro k
  induction k with
  | zero =>
    intro c hc h2 mr u L4 L5 S a8 g8 H
    have e : c = w * ht := by omega
    subst e
    have O3 := O.sm S (by decide)
    unfold iMo at O3
    rw [s_X10_allReach_44]
    simp only [s_X10_allReach_45, s_X10_allReach_46, s_X10_allReach_49, s_X10_allReach_109, s_X10_allReach_112, aq_gI, aq_gL, aq_gA, aq_isA, aq_s1, aq_s2, aq_kill, aq_ob, aq_sm, aq_arI, aq_arB, aq_isB, aq_arL, aq_arA, aq_arN, aq_sh, Value.category, List.getElem?_cons_zero, List.getElem?_cons_succ, List.length_cons, List.length_nil, Option.toList_some, Option.toList_none, List.cons_append, List.nil_append, true_and, and_true, List.set_cons_zero, List.set_cons_succ, aq_n1, aq_n2, aq_n3, aq_n4, aq_f1, aq_f2, aq_f3, aq_f4, aq_gs, aq_ty1, aq_ty2, aq_ty3, aq_ty4, aq_ty5, Nat.reduceAdd, Nat.reduceLT, Nat.reduceEqDiff, Nat.reduceSub, if_true, if_false, ne_eq, not_false_eq_true, not_true_eq_false, Option.map_some, Option.map_none, Nat.zero_add, reduceCtorEq, Nat.reduceLeDiff, one_ne_zero_a, zero_ne_one_a, aq_nb, aq_nb1, aq_nb0, aq_fb, aq_fb1, aq_fb0, aq_ofN, bB_t, bB_f, bB_v, vpn_b1, vpn_b0, nI_1, Bool.true_eq_false, Bool.false_eq_true, Bool.true_and, Bool.false_and, Bool.and_true, Bool.and_false, O3, nI_le (Nat.le_refl (w * ht)) (show w * ht < 2 ^ 31 by omega)]
    exact K h2 mr u _ _ _ S a8 g8 H
  | succ k ih =>
    intro c hc h2 mr u L4 L5 S a8 g8 H
    have hc2 : c < w * ht := by omega
    have O3 := O.sm S (by decide)
    have G3 := G.sm S (by decide)
    have O4 := O3
    unfold iMo at O3
    rw [s_X10_allReach_44]
    simp only [s_X10_allReach_45, s_X10_allReach_46, s_X10_allReach_49, s_X10_allReach_52, s_X10_allReach_53, aq_gI, aq_gL, aq_gA, aq_isA, aq_s1, aq_s2, aq_kill, aq_ob, aq_sm, aq_arI, aq_arB, aq_isB, aq_arL, aq_arA, aq_arN, aq_sh, Value.category, List.getElem?_cons_zero, List.getElem?_cons_succ, List.length_cons, List.length_nil, Option.toList_some, Option.toList_none, List.cons_append, List.nil_append, true_and, and_true, List.set_cons_zero, List.set_cons_succ, aq_n1, aq_n2, aq_n3, aq_n4, aq_f1, aq_f2, aq_f3, aq_f4, aq_gs, aq_ty1, aq_ty2, aq_ty3, aq_ty4, aq_ty5, Nat.reduceAdd, Nat.reduceLT, Nat.reduceEqDiff, Nat.reduceSub, if_true, if_false, ne_eq, not_false_eq_true, not_true_eq_false, Option.map_some, Option.map_none, Nat.zero_add, reduceCtorEq, Nat.reduceLeDiff, one_ne_zero_a, zero_ne_one_a, aq_nb, aq_nb1, aq_nb0, aq_fb, aq_fb1, aq_fb0, aq_ofN, bB_t, bB_f, bB_v, vpn_b1, vpn_b0, nI_1, Bool.true_eq_false, Bool.false_eq_true, Bool.true_and, Bool.false_and, Bool.and_true, Bool.and_false, O3, nI_ge hc2 (show w * ht < 2 ^ 31 by omega)]
    refine ar_in (h := h2) O4 G3 hf fl (u0 := u0) hc2 (fun h3 mr3 u3 L S3 a83 g83 H3 => ih (c + 1) (by omega) h3 mr3 u3 _ _ (S.tr S3) a83 g83 H3) 4 0 rfl h2 mr u _ (sm.rf _ _ _) a8 g8 H
theorem ar_j {Q : Option Value → aq_H → Prop} {s : Nat} {x0 : Int32} (O : iMo h w ht wr thr th rt ci st ex pl hd sg) (G : gMb h w ht wx wy cb wr mc) {f : Nat → Nat → Option Nat} (hf : ∀ c d, c < w * ht → d < 4 → nx w ht wx wy cb c d = f c d) (fl : ∀ c d m, c < w * ht → d < 4 → f c d = some m → m < w * ht)
    (K : ∀ (h2 : aq_H) (mr : Nat → Int32) (u : Nat → Bool) (L3 L4 L5 : Option Value), sm 56 56 h h2 → h2[56]? = some (.inl (.boolean, 144, .inl mr)) → (∀ j, j < w * ht → mr j = bB (!u j)) → (∀ x, u x = false ↔ Rc f s x) → aq_W e_X10_allReach Q 115 [some (.ref 47), some (.int x0), some (.int (nI (w * ht))), L3, L4, L5] [] h2 0 0) :
    ∀ (k j : Nat), j + k = w * ht → ∀ (h2 : aq_H) (mr : Nat → Int32) (u : Nat → Bool) (L3 L4 L5 : Option Value), sm 56 56 h h2 → h2[56]? = some (.inl (.boolean, 144, .inl mr)) → (∀ j, j < w * ht → mr j = bB (!u j)) → swj (w * ht) f s u j → aq_W e_X10_allReach Q 34 [some (.ref 47), some (.int x0), some (.int (nI j)), L3, L4, L5] [] h2 0 0 := by
  have hn := wh_lt G.1
  intro k
  induction k with
  | zero =>
    intro j hj h2 mr u L3 L4 L5 S a8 g8 H
    have e : j = w * ht := by omega
    subst e
    have O3 := O.sm S (by decide)
    unfold iMo at O3
    rw [s_X10_allReach_34]
    simp only [s_X10_allReach_35, s_X10_allReach_36, s_X10_allReach_39, aq_gI, aq_gL, aq_gA, aq_isA, aq_s1, aq_s2, aq_kill, aq_ob, aq_sm, aq_arI, aq_arB, aq_isB, aq_arL, aq_arA, aq_arN, aq_sh, Value.category, List.getElem?_cons_zero, List.getElem?_cons_succ, List.length_cons, List.length_nil, Option.toList_some, Option.toList_none, List.cons_append, List.nil_append, true_and, and_true, List.set_cons_zero, List.set_cons_succ, aq_n1, aq_n2, aq_n3, aq_n4, aq_f1, aq_f2, aq_f3, aq_f4, aq_gs, aq_ty1, aq_ty2, aq_ty3, aq_ty4, aq_ty5, Nat.reduceAdd, Nat.reduceLT, Nat.reduceEqDiff, Nat.reduceSub, if_true, if_false, ne_eq, not_false_eq_true, not_true_eq_false, Option.map_some, Option.map_none, Nat.zero_add, reduceCtorEq, Nat.reduceLeDiff, one_ne_zero_a, zero_ne_one_a, aq_nb, aq_nb1, aq_nb0, aq_fb, aq_fb1, aq_fb0, aq_ofN, bB_t, bB_f, bB_v, vpn_b1, vpn_b0, nI_1, Bool.true_eq_false, Bool.false_eq_true, Bool.true_and, Bool.false_and, Bool.and_true, Bool.and_false, O3, nI_le (Nat.le_refl (w * ht)) (show w * ht < 2 ^ 31 by omega)]
    exact K h2 mr u _ _ _ S a8 g8 (swj_end H)
  | succ k ih =>
    intro j hj h2 mr u L3 L4 L5 S a8 g8 H
    have O3 := O.sm S (by decide)
    have G3 := G.sm S (by decide)
    have O4 := O3
    unfold iMo at O3
    rw [s_X10_allReach_34]
    simp only [s_X10_allReach_35, s_X10_allReach_36, s_X10_allReach_39, s_X10_allReach_42, s_X10_allReach_43, aq_gI, aq_gL, aq_gA, aq_isA, aq_s1, aq_s2, aq_kill, aq_ob, aq_sm, aq_arI, aq_arB, aq_isB, aq_arL, aq_arA, aq_arN, aq_sh, Value.category, List.getElem?_cons_zero, List.getElem?_cons_succ, List.length_cons, List.length_nil, Option.toList_some, Option.toList_none, List.cons_append, List.nil_append, true_and, and_true, List.set_cons_zero, List.set_cons_succ, aq_n1, aq_n2, aq_n3, aq_n4, aq_f1, aq_f2, aq_f3, aq_f4, aq_gs, aq_ty1, aq_ty2, aq_ty3, aq_ty4, aq_ty5, Nat.reduceAdd, Nat.reduceLT, Nat.reduceEqDiff, Nat.reduceSub, if_true, if_false, ne_eq, not_false_eq_true, not_true_eq_false, Option.map_some, Option.map_none, Nat.zero_add, reduceCtorEq, Nat.reduceLeDiff, one_ne_zero_a, zero_ne_one_a, aq_nb, aq_nb1, aq_nb0, aq_fb, aq_fb1, aq_fb0, aq_ofN, bB_t, bB_f, bB_v, vpn_b1, vpn_b0, nI_1, Bool.true_eq_false, Bool.false_eq_true, Bool.true_and, Bool.false_and, Bool.and_true, Bool.and_false, O3, nI_ge (show j < w * ht by omega) (show w * ht < 2 ^ 31 by omega)]
    exact ar_c (h := h2) O4 G3 hf fl (u0 := u) (fun h3 mr3 u3 L3 L4 L5 S3 a83 g83 H3 => ih (j + 1) (by omega) h3 mr3 u3 _ _ _ (S.tr S3) a83 g83 (swj_up H H3)) (w * ht) 0 (Nat.zero_add _) h2 mr u _ _ (sm.rf _ _ _) a8 g8 (swj_in H)
theorem ar_0 {Q : Option Value → aq_H → Prop} {s : Nat} {x0 : Int32} (O : iMo h w ht wr thr th rt ci st ex pl hd sg) (G : gMb h w ht wx wy cb wr mc) {f : Nat → Nat → Option Nat} (hs : s < w * ht) (hf : ∀ c d, c < w * ht → d < 4 → nx w ht wx wy cb c d = f c d) (fl : ∀ c d m, c < w * ht → d < 4 → f c d = some m → m < w * ht) (hx0 : x0 = nI s) (a8 : h[56]? = some (.inl (.boolean, 144, .inl mr)))
    (K : ∀ (h2 : aq_H) (mr : Nat → Int32) (u : Nat → Bool) (L3 L4 L5 : Option Value), sm 56 56 h h2 → h2[56]? = some (.inl (.boolean, 144, .inl mr)) → (∀ j, j < w * ht → mr j = bB (!u j)) → (∀ x, u x = false ↔ Rc f s x) → aq_W e_X10_allReach Q 115 [some (.ref 47), some (.int x0), some (.int (nI (w * ht))), L3, L4, L5] [] h2 0 0) :
    aq_W e_X10_allReach Q 0 [some (.ref 47), some (.int x0), none, none, none, none] [] h 0 0 := by
  have hn := wh_lt G.1
  subst hx0
  have one : ∀ (k c : Nat), c + k = w * ht → ∀ (h2 : aq_H) (mr : Nat → Int32), sm 56 56 h h2 → h2[56]? = some (.inl (.boolean, 144, .inl mr)) → (∀ j, j < c → mr j = bB (decide (j = s))) → aq_W e_X10_allReach Q 2 [some (.ref 47), some (.int (nI s)), some (.int (nI c)), none, none, none] [] h2 0 0 := by
    intro k
    induction k with
    | zero =>
      intro c hc h2 mr S a8 g8
      have e : c = w * ht := by omega
      subst e
      have O3 := O.sm S (by decide)
      have G3 := G.sm S (by decide)
      have O4 := O3
      unfold iMo at O3
      rw [s_X10_allReach_2]
      simp only [s_X10_allReach_3, s_X10_allReach_4, s_X10_allReach_7, s_X10_allReach_32, s_X10_allReach_33, aq_gI, aq_gL, aq_gA, aq_isA, aq_s1, aq_s2, aq_kill, aq_ob, aq_sm, aq_arI, aq_arB, aq_isB, aq_arL, aq_arA, aq_arN, aq_sh, Value.category, List.getElem?_cons_zero, List.getElem?_cons_succ, List.length_cons, List.length_nil, Option.toList_some, Option.toList_none, List.cons_append, List.nil_append, true_and, and_true, List.set_cons_zero, List.set_cons_succ, aq_n1, aq_n2, aq_n3, aq_n4, aq_f1, aq_f2, aq_f3, aq_f4, aq_gs, aq_ty1, aq_ty2, aq_ty3, aq_ty4, aq_ty5, Nat.reduceAdd, Nat.reduceLT, Nat.reduceEqDiff, Nat.reduceSub, if_true, if_false, ne_eq, not_false_eq_true, not_true_eq_false, Option.map_some, Option.map_none, Nat.zero_add, reduceCtorEq, Nat.reduceLeDiff, one_ne_zero_a, zero_ne_one_a, aq_nb, aq_nb1, aq_nb0, aq_fb, aq_fb1, aq_fb0, aq_ofN, bB_t, bB_f, bB_v, vpn_b1, vpn_b0, nI_1, Bool.true_eq_false, Bool.false_eq_true, Bool.true_and, Bool.false_and, Bool.and_true, Bool.and_false, O3, nI_le (Nat.le_refl (w * ht)) (show w * ht < 2 ^ 31 by omega)]
      refine ar_j (h := h2) O4 G3 hf fl (fun h3 mr3 u3 L3 L4 L5 S3 a83 g83 H3 => K h3 mr3 u3 _ _ _ (S.tr S3) a83 g83 H3) (w * ht) 0 (Nat.zero_add _) h2 mr (fun j => !decide (j = s)) _ _ _ (sm.rf _ _ _) a8 (fun j hj => by rw [g8 j hj, Bool.not_not]) ⟨by simp, fun x hx => ?_, Or.inr ?_⟩
      · have : x = s := by simpa using hx
        rw [this]
        exact ⟨hs, Rc.rt⟩
      · have k1 := frc_un (cb := fun _ => true) hs rfl
        rw [frc_true] at k1
        rw [show (fun j => !decide (j = s)) = cbs (fun _ => true) s false from funext fun j => by unfold cbs; by_cases z : j = s <;> simp [z], k1]
        exact Nat.le_refl _
    | succ k ih =>
      intro c hc h2 mr S a8 g8
      have hc2 : c < w * ht := by omega
      have O3 := O.sm S (by decide)
      unfold iMo at O3
      rw [s_X10_allReach_2]
      have hq := nI_eq (a := c) (b := s) (by omega) (by omega)
      by_cases e : c = s
      · simp only [s_X10_allReach_3, s_X10_allReach_4, s_X10_allReach_7, s_X10_allReach_10, s_X10_allReach_11, s_X10_allReach_14, s_X10_allReach_15, s_X10_allReach_16, s_X10_allReach_17, s_X10_allReach_20, s_X10_allReach_21, s_X10_allReach_24, s_X10_allReach_25, s_X10_allReach_26, s_X10_allReach_29, aq_gI, aq_gL, aq_gA, aq_isA, aq_s1, aq_s2, aq_kill, aq_ob, aq_sm, aq_arI, aq_arB, aq_isB, aq_arL, aq_arA, aq_arN, aq_sh, Value.category, List.getElem?_cons_zero, List.getElem?_cons_succ, List.length_cons, List.length_nil, Option.toList_some, Option.toList_none, List.cons_append, List.nil_append, true_and, and_true, List.set_cons_zero, List.set_cons_succ, aq_n1, aq_n2, aq_n3, aq_n4, aq_f1, aq_f2, aq_f3, aq_f4, aq_gs, aq_ty1, aq_ty2, aq_ty3, aq_ty4, aq_ty5, Nat.reduceAdd, Nat.reduceLT, Nat.reduceEqDiff, Nat.reduceSub, if_true, if_false, ne_eq, not_false_eq_true, not_true_eq_false, Option.map_some, Option.map_none, Nat.zero_add, reduceCtorEq, Nat.reduceLeDiff, one_ne_zero_a, zero_ne_one_a, aq_nb, aq_nb1, aq_nb0, aq_fb, aq_fb1, aq_fb0, aq_ofN, bB_t, bB_f, bB_v, vpn_b1, vpn_b0, nI_1, Bool.true_eq_false, Bool.false_eq_true, Bool.true_and, Bool.false_and, Bool.and_true, Bool.and_false, O3, a8, nI_ge hc2 (show w * ht < 2 ^ 31 by omega),  e, vp_in_nI (show s < 144 by omega) (show 144 < 2 ^ 31 by decide), nI_clamp (show s < 2 ^ 31 by omega), nI_ge hs (show w * ht < 2 ^ 31 by omega)]
        subst e
        refine ih (c + 1) (by omega) (h2.set 56 (.inl (.boolean, 144, .inl (upd mr c 1)))) (upd mr c 1) (S.tr (s57 _ _)) (by simp only [aq_gI, aq_gL, aq_gA, aq_isA, aq_s1, aq_s2, aq_kill, aq_ob, aq_sm, aq_arI, aq_arB, aq_isB, aq_arL, aq_arA, aq_arN, aq_sh, Value.category, List.getElem?_cons_zero, List.getElem?_cons_succ, List.length_cons, List.length_nil, Option.toList_some, Option.toList_none, List.cons_append, List.nil_append, true_and, and_true, List.set_cons_zero, List.set_cons_succ, aq_n1, aq_n2, aq_n3, aq_n4, aq_f1, aq_f2, aq_f3, aq_f4, aq_gs, aq_ty1, aq_ty2, aq_ty3, aq_ty4, aq_ty5, Nat.reduceAdd, Nat.reduceLT, Nat.reduceEqDiff, Nat.reduceSub, if_true, if_false, ne_eq, not_false_eq_true, not_true_eq_false, Option.map_some, Option.map_none, Nat.zero_add, reduceCtorEq, Nat.reduceLeDiff, one_ne_zero_a, zero_ne_one_a, a8]) (fun j hj => ?_)
        by_cases z : j = c
        · rw [z, upd_s, decide_eq_true rfl]; rfl
        · rw [upd_n _ _ z]; exact g8 j (by omega)
      · have e' : ¬ nI c = nI s := fun z => e (hq.mp z)
        simp only [s_X10_allReach_3, s_X10_allReach_4, s_X10_allReach_7, s_X10_allReach_10, s_X10_allReach_11, s_X10_allReach_14, s_X10_allReach_15, s_X10_allReach_16, s_X10_allReach_17, s_X10_allReach_20, s_X10_allReach_21, s_X10_allReach_24, s_X10_allReach_25, s_X10_allReach_26, s_X10_allReach_29, aq_gI, aq_gL, aq_gA, aq_isA, aq_s1, aq_s2, aq_kill, aq_ob, aq_sm, aq_arI, aq_arB, aq_isB, aq_arL, aq_arA, aq_arN, aq_sh, Value.category, List.getElem?_cons_zero, List.getElem?_cons_succ, List.length_cons, List.length_nil, Option.toList_some, Option.toList_none, List.cons_append, List.nil_append, true_and, and_true, List.set_cons_zero, List.set_cons_succ, aq_n1, aq_n2, aq_n3, aq_n4, aq_f1, aq_f2, aq_f3, aq_f4, aq_gs, aq_ty1, aq_ty2, aq_ty3, aq_ty4, aq_ty5, Nat.reduceAdd, Nat.reduceLT, Nat.reduceEqDiff, Nat.reduceSub, if_true, if_false, ne_eq, not_false_eq_true, not_true_eq_false, Option.map_some, Option.map_none, Nat.zero_add, reduceCtorEq, Nat.reduceLeDiff, one_ne_zero_a, zero_ne_one_a, aq_nb, aq_nb1, aq_nb0, aq_fb, aq_fb1, aq_fb0, aq_ofN, bB_t, bB_f, bB_v, vpn_b1, vpn_b0, nI_1, Bool.true_eq_false, Bool.false_eq_true, Bool.true_and, Bool.false_and, Bool.and_true, Bool.and_false, O3, a8, nI_ge hc2 (show w * ht < 2 ^ 31 by omega),  e', vp_in_nI (show c < 144 by omega) (show 144 < 2 ^ 31 by decide), nI_clamp (show c < 2 ^ 31 by omega)]
        refine ih (c + 1) (by omega) (h2.set 56 (.inl (.boolean, 144, .inl (upd mr c 0)))) (upd mr c 0) (S.tr (s57 _ _)) (by simp only [aq_gI, aq_gL, aq_gA, aq_isA, aq_s1, aq_s2, aq_kill, aq_ob, aq_sm, aq_arI, aq_arB, aq_isB, aq_arL, aq_arA, aq_arN, aq_sh, Value.category, List.getElem?_cons_zero, List.getElem?_cons_succ, List.length_cons, List.length_nil, Option.toList_some, Option.toList_none, List.cons_append, List.nil_append, true_and, and_true, List.set_cons_zero, List.set_cons_succ, aq_n1, aq_n2, aq_n3, aq_n4, aq_f1, aq_f2, aq_f3, aq_f4, aq_gs, aq_ty1, aq_ty2, aq_ty3, aq_ty4, aq_ty5, Nat.reduceAdd, Nat.reduceLT, Nat.reduceEqDiff, Nat.reduceSub, if_true, if_false, ne_eq, not_false_eq_true, not_true_eq_false, Option.map_some, Option.map_none, Nat.zero_add, reduceCtorEq, Nat.reduceLeDiff, one_ne_zero_a, zero_ne_one_a, a8]) (fun j hj => ?_)
        by_cases z : j = c
        · rw [z, upd_s, decide_eq_false e]; rfl
        · rw [upd_n _ _ z]; exact g8 j (by omega)
  simp only [s_X10_allReach_0, s_X10_allReach_1, aq_gI, aq_gL, aq_gA, aq_isA, aq_s1, aq_s2, aq_kill, aq_ob, aq_sm, aq_arI, aq_arB, aq_isB, aq_arL, aq_arA, aq_arN, aq_sh, Value.category, List.getElem?_cons_zero, List.getElem?_cons_succ, List.length_cons, List.length_nil, Option.toList_some, Option.toList_none, List.cons_append, List.nil_append, true_and, and_true, List.set_cons_zero, List.set_cons_succ, aq_n1, aq_n2, aq_n3, aq_n4, aq_f1, aq_f2, aq_f3, aq_f4, aq_gs, aq_ty1, aq_ty2, aq_ty3, aq_ty4, aq_ty5, Nat.reduceAdd, Nat.reduceLT, Nat.reduceEqDiff, Nat.reduceSub, if_true, if_false, ne_eq, not_false_eq_true, not_true_eq_false, Option.map_some, Option.map_none, Nat.zero_add, reduceCtorEq, Nat.reduceLeDiff, one_ne_zero_a, zero_ne_one_a, aq_nb, aq_nb1, aq_nb0, aq_fb, aq_fb1, aq_fb0, aq_ofN, bB_t, bB_f, bB_v, vpn_b1, vpn_b0, nI_1, Bool.true_eq_false, Bool.false_eq_true, Bool.true_and, Bool.false_and, Bool.and_true, Bool.and_false]
  exact one (w * ht) 0 (Nat.zero_add _) h mr (sm.rf _ _ _) a8 (fun j hj => by omega)
theorem rch_in {Q : Option Value → aq_H → Prop} {s : Nat} {x0 : Int32} (O : iMo h w ht wr thr 1 rt ci (nI s) ex pl hd sg) (G : gMb h w ht wx wy cb wr mc) (a4 : h[52]? = some (.inl (.boolean, 576, .inl mo))) (a5 : h[53]? = some (.inl (.byte, 576, .inl md))) (a6 : h[54]? = some (.inl (.boolean, 576, .inl mw))) (R : gMm w ht wx wy cb ob dr on mo md mw) (hD : ∀ p k, p < w * ht * 2 → dr p = some k → k < 4) {f : Nat → Nat → Option Nat} (hf : ∀ c d, c < w * ht → d < 4 → stf w ht wx wy cb ob dr on c d x0 = f c d) (fl : ∀ c d m, c < w * ht → d < 4 → f c d = some m → m < w * ht) {u0 : Nat → Bool} {c : Nat} (hc : c < w * ht) {x1 : Int32}
    (K : ∀ (h2 : aq_H) (mr : Nat → Int32) (u : Nat → Bool) (L : Option Value), sm 56 56 h h2 → h2[56]? = some (.inl (.boolean, 144, .inl mr)) → (∀ j, j < w * ht → mr j = bB (!u j)) → swp (w * ht) f s u0 u (c + 1) 0 → aq_W e_X10_reach Q 47 [some (.ref 47), some (.int x0), some (.int x1), some (.int (nI (c + 1))), some (.int (nI 4)), L] [] h2 0 0) :
    ∀ (k d : Nat), d + k = 4 → ∀ (h2 : aq_H) (mr : Nat → Int32) (u : Nat → Bool) (L : Option Value), sm 56 56 h h2 → h2[56]? = some (.inl (.boolean, 144, .inl mr)) → (∀ j, j < w * ht → mr j = bB (!u j)) → swp (w * ht) f s u0 u c d → aq_W e_X10_reach Q 58 [some (.ref 47), some (.int x0), some (.int x1), some (.int (nI c)), some (.int (nI d)), L] [] h2 0 0 := by
  have hn := wh_lt G.1
  intro k
  induction k with
  | zero =>
    intro d hd h2 mr u L S a8 g8 H
    have e : d = 4 := by omega
    subst e
    have h4 : (4 : Int32) ≤ nI 4 := by decide
    rw [s_X10_reach_58]
    simp only [s_X10_reach_60, s_X10_reach_61, s_X10_reach_107, s_X10_reach_110, aq_gI, aq_gL, aq_gA, aq_isA, aq_s1, aq_s2, aq_kill, aq_ob, aq_sm, aq_arI, aq_arB, aq_isB, aq_arL, aq_arA, aq_arN, aq_sh, Value.category, List.getElem?_cons_zero, List.getElem?_cons_succ, List.length_cons, List.length_nil, Option.toList_some, Option.toList_none, List.cons_append, List.nil_append, true_and, and_true, List.set_cons_zero, List.set_cons_succ, aq_n1, aq_n2, aq_n3, aq_n4, aq_f1, aq_f2, aq_f3, aq_f4, aq_gs, aq_ty1, aq_ty2, aq_ty3, aq_ty4, aq_ty5, Nat.reduceAdd, Nat.reduceLT, Nat.reduceEqDiff, Nat.reduceSub, if_true, if_false, ne_eq, not_false_eq_true, not_true_eq_false, Option.map_some, Option.map_none, Nat.zero_add, reduceCtorEq, Nat.reduceLeDiff, one_ne_zero_a, zero_ne_one_a, aq_nb, aq_nb1, aq_nb0, aq_fb, aq_fb1, aq_fb0, aq_ofN, bB_t, bB_f, bB_v, vpn_b1, vpn_b0, nI_1, Bool.true_eq_false, Bool.false_eq_true, Bool.true_and, Bool.false_and, Bool.and_true, Bool.and_false, h4]
    exact K h2 mr u L S a8 g8 (swp_nx H)
  | succ k ih =>
    intro d hd h2 mr u L S a8 g8 H
    have hd4 : d < 4 := by omega
    have h4 : ¬ (4 : Int32) ≤ nI d := by rw [nI_4]; exact nI_ge hd4 (by omega)
    have O2 := O.sm S (by decide)
    have G2 := G.sm S (by decide)
    have O3 := O2
    unfold iMo at O3
    rw [s_X10_reach_58]
    simp only [s_X10_reach_60, s_X10_reach_61, s_X10_reach_64, s_X10_reach_65, s_X10_reach_68, s_X10_reach_69, s_X10_reach_70, aq_gI, aq_gL, aq_gA, aq_isA, aq_s1, aq_s2, aq_kill, aq_ob, aq_sm, aq_arI, aq_arB, aq_isB, aq_arL, aq_arA, aq_arN, aq_sh, Value.category, List.getElem?_cons_zero, List.getElem?_cons_succ, List.length_cons, List.length_nil, Option.toList_some, Option.toList_none, List.cons_append, List.nil_append, true_and, and_true, List.set_cons_zero, List.set_cons_succ, aq_n1, aq_n2, aq_n3, aq_n4, aq_f1, aq_f2, aq_f3, aq_f4, aq_gs, aq_ty1, aq_ty2, aq_ty3, aq_ty4, aq_ty5, Nat.reduceAdd, Nat.reduceLT, Nat.reduceEqDiff, Nat.reduceSub, if_true, if_false, ne_eq, not_false_eq_true, not_true_eq_false, Option.map_some, Option.map_none, Nat.zero_add, reduceCtorEq, Nat.reduceLeDiff, one_ne_zero_a, zero_ne_one_a, aq_nb, aq_nb1, aq_nb0, aq_fb, aq_fb1, aq_fb0, aq_ofN, bB_t, bB_f, bB_v, vpn_b1, vpn_b0, nI_1, Bool.true_eq_false, Bool.false_eq_true, Bool.true_and, Bool.false_and, Bool.and_true, Bool.and_false, h4, O3, a8, vp_in_nI (show c < 144 by omega) (show 144 < 2 ^ 31 by decide), nI_clamp (show c < 2 ^ 31 by omega), g8 c hc]
    cases hu : u c with
    | true =>
      simp only [s_X10_reach_84, s_X10_reach_85, s_X10_reach_87, s_X10_reach_89, s_X10_reach_90, s_X10_reach_101, s_X10_reach_104, aq_gI, aq_gL, aq_gA, aq_isA, aq_s1, aq_s2, aq_kill, aq_ob, aq_sm, aq_arI, aq_arB, aq_isB, aq_arL, aq_arA, aq_arN, aq_sh, Value.category, List.getElem?_cons_zero, List.getElem?_cons_succ, List.length_cons, List.length_nil, Option.toList_some, Option.toList_none, List.cons_append, List.nil_append, true_and, and_true, List.set_cons_zero, List.set_cons_succ, aq_n1, aq_n2, aq_n3, aq_n4, aq_f1, aq_f2, aq_f3, aq_f4, aq_gs, aq_ty1, aq_ty2, aq_ty3, aq_ty4, aq_ty5, Nat.reduceAdd, Nat.reduceLT, Nat.reduceEqDiff, Nat.reduceSub, if_true, if_false, ne_eq, not_false_eq_true, not_true_eq_false, Option.map_some, Option.map_none, Nat.zero_add, reduceCtorEq, Nat.reduceLeDiff, one_ne_zero_a, zero_ne_one_a, aq_nb, aq_nb1, aq_nb0, aq_fb, aq_fb1, aq_fb0, aq_ofN, bB_t, bB_f, bB_v, vpn_b1, vpn_b0, nI_1, Bool.true_eq_false, Bool.false_eq_true, Bool.true_and, Bool.false_and, Bool.and_true, Bool.and_false, Bool.not_true]
      exact ih (d + 1) (by omega) h2 mr u _ S a8 g8 (swp_no H (Or.inl hu))
    | false =>
      simp only [s_X10_reach_73, s_X10_reach_74, s_X10_reach_75, s_X10_reach_77, s_X10_reach_78, aq_gI, aq_gL, aq_gA, aq_isA, aq_s1, aq_s2, aq_kill, aq_ob, aq_sm, aq_arI, aq_arB, aq_isB, aq_arL, aq_arA, aq_arN, aq_sh, Value.category, List.getElem?_cons_zero, List.getElem?_cons_succ, List.length_cons, List.length_nil, Option.toList_some, Option.toList_none, List.cons_append, List.nil_append, true_and, and_true, List.set_cons_zero, List.set_cons_succ, aq_n1, aq_n2, aq_n3, aq_n4, aq_f1, aq_f2, aq_f3, aq_f4, aq_gs, aq_ty1, aq_ty2, aq_ty3, aq_ty4, aq_ty5, Nat.reduceAdd, Nat.reduceLT, Nat.reduceEqDiff, Nat.reduceSub, if_true, if_false, ne_eq, not_false_eq_true, not_true_eq_false, Option.map_some, Option.map_none, Nat.zero_add, reduceCtorEq, Nat.reduceLeDiff, one_ne_zero_a, zero_ne_one_a, aq_nb, aq_nb1, aq_nb0, aq_fb, aq_fb1, aq_fb0, aq_ofN, bB_t, bB_f, bB_v, vpn_b1, vpn_b0, nI_1, Bool.true_eq_false, Bool.false_eq_true, Bool.true_and, Bool.false_and, Bool.and_true, Bool.and_false, Bool.not_false, O3]
      refine (m_stepTo O2 G2 ((S 52 (by decide)).trans a4) ((S 53 (by decide)).trans a5) ((S 54 (by decide)).trans a6) R hD hc (nI d) x0).use ?_
      rintro _ h2 ⟨rfl, rfl⟩
      rw [inC_nI hd4 (by decide), if_pos rfl, nI_clamp (show d < 2 ^ 31 by omega), hf c d hc hd4]
      cases hx : f c d with
      | none =>
        simp only [oI, s_X10_reach_81, s_X10_reach_85, s_X10_reach_87, s_X10_reach_89, s_X10_reach_90, s_X10_reach_101, s_X10_reach_104, aq_gI, aq_gL, aq_gA, aq_isA, aq_s1, aq_s2, aq_kill, aq_ob, aq_sm, aq_arI, aq_arB, aq_isB, aq_arL, aq_arA, aq_arN, aq_sh, Value.category, List.getElem?_cons_zero, List.getElem?_cons_succ, List.length_cons, List.length_nil, Option.toList_some, Option.toList_none, List.cons_append, List.nil_append, true_and, and_true, List.set_cons_zero, List.set_cons_succ, aq_n1, aq_n2, aq_n3, aq_n4, aq_f1, aq_f2, aq_f3, aq_f4, aq_gs, aq_ty1, aq_ty2, aq_ty3, aq_ty4, aq_ty5, Nat.reduceAdd, Nat.reduceLT, Nat.reduceEqDiff, Nat.reduceSub, if_true, if_false, ne_eq, not_false_eq_true, not_true_eq_false, Option.map_some, Option.map_none, Nat.zero_add, reduceCtorEq, Nat.reduceLeDiff, one_ne_zero_a, zero_ne_one_a, aq_nb, aq_nb1, aq_nb0, aq_fb, aq_fb1, aq_fb0, aq_ofN, bB_t, bB_f, bB_v, vpn_b1, vpn_b0, nI_1, Bool.true_eq_false, Bool.false_eq_true, Bool.true_and, Bool.false_and, Bool.and_true, Bool.and_false]
        exact ih (d + 1) (by omega) h2 mr u _ S a8 g8 (swp_no H (Or.inr hx))
      | some m =>
        have hm := fl c d m hc hd4 hx
        simp only [oI, s_X10_reach_81, s_X10_reach_85, s_X10_reach_87, s_X10_reach_89, s_X10_reach_90, s_X10_reach_93, s_X10_reach_94, s_X10_reach_97, s_X10_reach_99, s_X10_reach_100, s_X10_reach_101, s_X10_reach_104, aq_gI, aq_gL, aq_gA, aq_isA, aq_s1, aq_s2, aq_kill, aq_ob, aq_sm, aq_arI, aq_arB, aq_isB, aq_arL, aq_arA, aq_arN, aq_sh, Value.category, List.getElem?_cons_zero, List.getElem?_cons_succ, List.length_cons, List.length_nil, Option.toList_some, Option.toList_none, List.cons_append, List.nil_append, true_and, and_true, List.set_cons_zero, List.set_cons_succ, aq_n1, aq_n2, aq_n3, aq_n4, aq_f1, aq_f2, aq_f3, aq_f4, aq_gs, aq_ty1, aq_ty2, aq_ty3, aq_ty4, aq_ty5, Nat.reduceAdd, Nat.reduceLT, Nat.reduceEqDiff, Nat.reduceSub, if_true, if_false, ne_eq, not_false_eq_true, not_true_eq_false, Option.map_some, Option.map_none, Nat.zero_add, reduceCtorEq, Nat.reduceLeDiff, one_ne_zero_a, zero_ne_one_a, aq_nb, aq_nb1, aq_nb0, aq_fb, aq_fb1, aq_fb0, aq_ofN, bB_t, bB_f, bB_v, vpn_b1, vpn_b0, nI_1, Bool.true_eq_false, Bool.false_eq_true, Bool.true_and, Bool.false_and, Bool.and_true, Bool.and_false, nI_ne_m1 (show m < 2 ^ 31 by omega), O3, a8, vp_in_nI (show m < 144 by omega) (show 144 < 2 ^ 31 by decide), nI_clamp (show m < 2 ^ 31 by omega)]
        refine ih (d + 1) (by omega) _ (upd mr m 1) (cbs u m false) _ (S.tr (s57 _ _)) (by simp only [aq_gI, aq_gL, aq_gA, aq_isA, aq_s1, aq_s2, aq_kill, aq_ob, aq_sm, aq_arI, aq_arB, aq_isB, aq_arL, aq_arA, aq_arN, aq_sh, Value.category, List.getElem?_cons_zero, List.getElem?_cons_succ, List.length_cons, List.length_nil, Option.toList_some, Option.toList_none, List.cons_append, List.nil_append, true_and, and_true, List.set_cons_zero, List.set_cons_succ, aq_n1, aq_n2, aq_n3, aq_n4, aq_f1, aq_f2, aq_f3, aq_f4, aq_gs, aq_ty1, aq_ty2, aq_ty3, aq_ty4, aq_ty5, Nat.reduceAdd, Nat.reduceLT, Nat.reduceEqDiff, Nat.reduceSub, if_true, if_false, ne_eq, not_false_eq_true, not_true_eq_false, Option.map_some, Option.map_none, Nat.zero_add, reduceCtorEq, Nat.reduceLeDiff, one_ne_zero_a, zero_ne_one_a, a8]) (fun j hj => ?_) (swp_go fl H hd4 hu hx)
        by_cases z : j = m
        · rw [z, upd_s, cbs_s]; rfl
        · rw [upd_n _ _ z, cbs_n _ _ z]; exact g8 j hj
theorem rch_c {Q : Option Value → aq_H → Prop} {s : Nat} {x0 : Int32} (O : iMo h w ht wr thr 1 rt ci (nI s) ex pl hd sg) (G : gMb h w ht wx wy cb wr mc) (a4 : h[52]? = some (.inl (.boolean, 576, .inl mo))) (a5 : h[53]? = some (.inl (.byte, 576, .inl md))) (a6 : h[54]? = some (.inl (.boolean, 576, .inl mw))) (R : gMm w ht wx wy cb ob dr on mo md mw) (hD : ∀ p k, p < w * ht * 2 → dr p = some k → k < 4) {f : Nat → Nat → Option Nat} (hf : ∀ c d, c < w * ht → d < 4 → stf w ht wx wy cb ob dr on c d x0 = f c d) (fl : ∀ c d m, c < w * ht → d < 4 → f c d = some m → m < w * ht) {u0 : Nat → Bool} {j : Nat}
    (K : ∀ (h2 : aq_H) (mr : Nat → Int32) (u : Nat → Bool) (L3 L4 L5 : Option Value), sm 56 56 h h2 → h2[56]? = some (.inl (.boolean, 144, .inl mr)) → (∀ j, j < w * ht → mr j = bB (!u j)) → swp (w * ht) f s u0 u (w * ht) 0 → aq_W e_X10_reach Q 37 [some (.ref 47), some (.int x0), some (.int (nI (j + 1))), L3, L4, L5] [] h2 0 0) :
    ∀ (k c : Nat), c + k = w * ht → ∀ (h2 : aq_H) (mr : Nat → Int32) (u : Nat → Bool) (L4 L5 : Option Value), sm 56 56 h h2 → h2[56]? = some (.inl (.boolean, 144, .inl mr)) → (∀ j, j < w * ht → mr j = bB (!u j)) → swp (w * ht) f s u0 u c 0 → aq_W e_X10_reach Q 47 [some (.ref 47), some (.int x0), some (.int (nI j)), some (.int (nI c)), L4, L5] [] h2 0 0 := by
  have hn := wh_lt G.1
  intro k
  induction k with
  | zero =>
    intro c hc h2 mr u L4 L5 S a8 g8 H
    have e : c = w * ht := by omega
    subst e
    have O3 := O.sm S (by decide)
    unfold iMo at O3
    rw [s_X10_reach_47]
    simp only [s_X10_reach_48, s_X10_reach_49, s_X10_reach_52, s_X10_reach_113, s_X10_reach_116, aq_gI, aq_gL, aq_gA, aq_isA, aq_s1, aq_s2, aq_kill, aq_ob, aq_sm, aq_arI, aq_arB, aq_isB, aq_arL, aq_arA, aq_arN, aq_sh, Value.category, List.getElem?_cons_zero, List.getElem?_cons_succ, List.length_cons, List.length_nil, Option.toList_some, Option.toList_none, List.cons_append, List.nil_append, true_and, and_true, List.set_cons_zero, List.set_cons_succ, aq_n1, aq_n2, aq_n3, aq_n4, aq_f1, aq_f2, aq_f3, aq_f4, aq_gs, aq_ty1, aq_ty2, aq_ty3, aq_ty4, aq_ty5, Nat.reduceAdd, Nat.reduceLT, Nat.reduceEqDiff, Nat.reduceSub, if_true, if_false, ne_eq, not_false_eq_true, not_true_eq_false, Option.map_some, Option.map_none, Nat.zero_add, reduceCtorEq, Nat.reduceLeDiff, one_ne_zero_a, zero_ne_one_a, aq_nb, aq_nb1, aq_nb0, aq_fb, aq_fb1, aq_fb0, aq_ofN, bB_t, bB_f, bB_v, vpn_b1, vpn_b0, nI_1, Bool.true_eq_false, Bool.false_eq_true, Bool.true_and, Bool.false_and, Bool.and_true, Bool.and_false, O3, nI_le (Nat.le_refl (w * ht)) (show w * ht < 2 ^ 31 by omega)]
    exact K h2 mr u _ _ _ S a8 g8 H
  | succ k ih =>
    intro c hc h2 mr u L4 L5 S a8 g8 H
    have hc2 : c < w * ht := by omega
    have O3 := O.sm S (by decide)
    have G3 := G.sm S (by decide)
    have O4 := O3
    unfold iMo at O3
    rw [s_X10_reach_47]
    simp only [s_X10_reach_48, s_X10_reach_49, s_X10_reach_52, s_X10_reach_55, s_X10_reach_56, aq_gI, aq_gL, aq_gA, aq_isA, aq_s1, aq_s2, aq_kill, aq_ob, aq_sm, aq_arI, aq_arB, aq_isB, aq_arL, aq_arA, aq_arN, aq_sh, Value.category, List.getElem?_cons_zero, List.getElem?_cons_succ, List.length_cons, List.length_nil, Option.toList_some, Option.toList_none, List.cons_append, List.nil_append, true_and, and_true, List.set_cons_zero, List.set_cons_succ, aq_n1, aq_n2, aq_n3, aq_n4, aq_f1, aq_f2, aq_f3, aq_f4, aq_gs, aq_ty1, aq_ty2, aq_ty3, aq_ty4, aq_ty5, Nat.reduceAdd, Nat.reduceLT, Nat.reduceEqDiff, Nat.reduceSub, if_true, if_false, ne_eq, not_false_eq_true, not_true_eq_false, Option.map_some, Option.map_none, Nat.zero_add, reduceCtorEq, Nat.reduceLeDiff, one_ne_zero_a, zero_ne_one_a, aq_nb, aq_nb1, aq_nb0, aq_fb, aq_fb1, aq_fb0, aq_ofN, bB_t, bB_f, bB_v, vpn_b1, vpn_b0, nI_1, Bool.true_eq_false, Bool.false_eq_true, Bool.true_and, Bool.false_and, Bool.and_true, Bool.and_false, O3, nI_ge hc2 (show w * ht < 2 ^ 31 by omega)]
    refine rch_in (h := h2) O4 G3 ((S 52 (by decide)).trans a4) ((S 53 (by decide)).trans a5) ((S 54 (by decide)).trans a6) R hD hf fl (u0 := u0) hc2 (fun h3 mr3 u3 L S3 a83 g83 H3 => ih (c + 1) (by omega) h3 mr3 u3 _ _ (S.tr S3) a83 g83 H3) 4 0 rfl h2 mr u _ (sm.rf _ _ _) a8 g8 H
theorem rch_j {Q : Option Value → aq_H → Prop} {s : Nat} {x0 : Int32} (O : iMo h w ht wr thr 1 rt ci (nI s) ex pl hd sg) (G : gMb h w ht wx wy cb wr mc) (a4 : h[52]? = some (.inl (.boolean, 576, .inl mo))) (a5 : h[53]? = some (.inl (.byte, 576, .inl md))) (a6 : h[54]? = some (.inl (.boolean, 576, .inl mw))) (R : gMm w ht wx wy cb ob dr on mo md mw) (hD : ∀ p k, p < w * ht * 2 → dr p = some k → k < 4) {f : Nat → Nat → Option Nat} (hf : ∀ c d, c < w * ht → d < 4 → stf w ht wx wy cb ob dr on c d x0 = f c d) (fl : ∀ c d m, c < w * ht → d < 4 → f c d = some m → m < w * ht)
    (K : ∀ (h2 : aq_H) (mr : Nat → Int32) (u : Nat → Bool) (L3 L4 L5 : Option Value), sm 56 56 h h2 → h2[56]? = some (.inl (.boolean, 144, .inl mr)) → (∀ j, j < w * ht → mr j = bB (!u j)) → (∀ x, u x = false ↔ Rc f s x) → aq_W e_X10_reach Q 119 [some (.ref 47), some (.int x0), some (.int (nI (w * ht))), L3, L4, L5] [] h2 0 0) :
    ∀ (k j : Nat), j + k = w * ht → ∀ (h2 : aq_H) (mr : Nat → Int32) (u : Nat → Bool) (L3 L4 L5 : Option Value), sm 56 56 h h2 → h2[56]? = some (.inl (.boolean, 144, .inl mr)) → (∀ j, j < w * ht → mr j = bB (!u j)) → swj (w * ht) f s u j → aq_W e_X10_reach Q 37 [some (.ref 47), some (.int x0), some (.int (nI j)), L3, L4, L5] [] h2 0 0 := by
  have hn := wh_lt G.1
  intro k
  induction k with
  | zero =>
    intro j hj h2 mr u L3 L4 L5 S a8 g8 H
    have e : j = w * ht := by omega
    subst e
    have O3 := O.sm S (by decide)
    unfold iMo at O3
    rw [s_X10_reach_37]
    simp only [s_X10_reach_38, s_X10_reach_39, s_X10_reach_42, aq_gI, aq_gL, aq_gA, aq_isA, aq_s1, aq_s2, aq_kill, aq_ob, aq_sm, aq_arI, aq_arB, aq_isB, aq_arL, aq_arA, aq_arN, aq_sh, Value.category, List.getElem?_cons_zero, List.getElem?_cons_succ, List.length_cons, List.length_nil, Option.toList_some, Option.toList_none, List.cons_append, List.nil_append, true_and, and_true, List.set_cons_zero, List.set_cons_succ, aq_n1, aq_n2, aq_n3, aq_n4, aq_f1, aq_f2, aq_f3, aq_f4, aq_gs, aq_ty1, aq_ty2, aq_ty3, aq_ty4, aq_ty5, Nat.reduceAdd, Nat.reduceLT, Nat.reduceEqDiff, Nat.reduceSub, if_true, if_false, ne_eq, not_false_eq_true, not_true_eq_false, Option.map_some, Option.map_none, Nat.zero_add, reduceCtorEq, Nat.reduceLeDiff, one_ne_zero_a, zero_ne_one_a, aq_nb, aq_nb1, aq_nb0, aq_fb, aq_fb1, aq_fb0, aq_ofN, bB_t, bB_f, bB_v, vpn_b1, vpn_b0, nI_1, Bool.true_eq_false, Bool.false_eq_true, Bool.true_and, Bool.false_and, Bool.and_true, Bool.and_false, O3, nI_le (Nat.le_refl (w * ht)) (show w * ht < 2 ^ 31 by omega)]
    exact K h2 mr u _ _ _ S a8 g8 (swj_end H)
  | succ k ih =>
    intro j hj h2 mr u L3 L4 L5 S a8 g8 H
    have O3 := O.sm S (by decide)
    have G3 := G.sm S (by decide)
    have O4 := O3
    unfold iMo at O3
    rw [s_X10_reach_37]
    simp only [s_X10_reach_38, s_X10_reach_39, s_X10_reach_42, s_X10_reach_45, s_X10_reach_46, aq_gI, aq_gL, aq_gA, aq_isA, aq_s1, aq_s2, aq_kill, aq_ob, aq_sm, aq_arI, aq_arB, aq_isB, aq_arL, aq_arA, aq_arN, aq_sh, Value.category, List.getElem?_cons_zero, List.getElem?_cons_succ, List.length_cons, List.length_nil, Option.toList_some, Option.toList_none, List.cons_append, List.nil_append, true_and, and_true, List.set_cons_zero, List.set_cons_succ, aq_n1, aq_n2, aq_n3, aq_n4, aq_f1, aq_f2, aq_f3, aq_f4, aq_gs, aq_ty1, aq_ty2, aq_ty3, aq_ty4, aq_ty5, Nat.reduceAdd, Nat.reduceLT, Nat.reduceEqDiff, Nat.reduceSub, if_true, if_false, ne_eq, not_false_eq_true, not_true_eq_false, Option.map_some, Option.map_none, Nat.zero_add, reduceCtorEq, Nat.reduceLeDiff, one_ne_zero_a, zero_ne_one_a, aq_nb, aq_nb1, aq_nb0, aq_fb, aq_fb1, aq_fb0, aq_ofN, bB_t, bB_f, bB_v, vpn_b1, vpn_b0, nI_1, Bool.true_eq_false, Bool.false_eq_true, Bool.true_and, Bool.false_and, Bool.and_true, Bool.and_false, O3, nI_ge (show j < w * ht by omega) (show w * ht < 2 ^ 31 by omega)]
    exact rch_c (h := h2) O4 G3 ((S 52 (by decide)).trans a4) ((S 53 (by decide)).trans a5) ((S 54 (by decide)).trans a6) R hD hf fl (u0 := u) (fun h3 mr3 u3 L3 L4 L5 S3 a83 g83 H3 => ih (j + 1) (by omega) h3 mr3 u3 _ _ _ (S.tr S3) a83 g83 (swj_up H H3)) (w * ht) 0 (Nat.zero_add _) h2 mr u _ _ (sm.rf _ _ _) a8 g8 (swj_in H)
theorem rch_0 {Q : Option Value → aq_H → Prop} {s : Nat} {x0 : Int32} (O : iMo h w ht wr thr 1 rt ci (nI s) ex pl hd sg) (G : gMb h w ht wx wy cb wr mc) (a4 : h[52]? = some (.inl (.boolean, 576, .inl mo))) (a5 : h[53]? = some (.inl (.byte, 576, .inl md))) (a6 : h[54]? = some (.inl (.boolean, 576, .inl mw))) (R : gMm w ht wx wy cb ob dr on mo md mw) (hD : ∀ p k, p < w * ht * 2 → dr p = some k → k < 4) {f : Nat → Nat → Option Nat} (hs : s < w * ht) (hf : ∀ c d, c < w * ht → d < 4 → stf w ht wx wy cb ob dr on c d x0 = f c d) (fl : ∀ c d m, c < w * ht → d < 4 → f c d = some m → m < w * ht) (a8 : h[56]? = some (.inl (.boolean, 144, .inl mr)))
    (K : ∀ (h2 : aq_H) (mr : Nat → Int32) (u : Nat → Bool) (L3 L4 L5 : Option Value), sm 56 56 h h2 → h2[56]? = some (.inl (.boolean, 144, .inl mr)) → (∀ j, j < w * ht → mr j = bB (!u j)) → (∀ x, u x = false ↔ Rc f s x) → aq_W e_X10_reach Q 119 [some (.ref 47), some (.int x0), some (.int (nI (w * ht))), L3, L4, L5] [] h2 0 0) :
    aq_W e_X10_reach Q 0 [some (.ref 47), some (.int x0), none, none, none, none] [] h 0 0 := by
  have hn := wh_lt G.1
  have one : ∀ (k c : Nat), c + k = w * ht → ∀ (h2 : aq_H) (mr : Nat → Int32), sm 56 56 h h2 → h2[56]? = some (.inl (.boolean, 144, .inl mr)) → (∀ j, j < c → mr j = bB (decide (j = s))) → aq_W e_X10_reach Q 2 [some (.ref 47), some (.int x0), some (.int (nI c)), none, none, none] [] h2 0 0 := by
    intro k
    induction k with
    | zero =>
      intro c hc h2 mr S a8 g8
      have e : c = w * ht := by omega
      subst e
      have O3 := O.sm S (by decide)
      have G3 := G.sm S (by decide)
      have O4 := O3
      unfold iMo at O3
      rw [s_X10_reach_2]
      simp only [s_X10_reach_3, s_X10_reach_4, s_X10_reach_7, s_X10_reach_35, s_X10_reach_36, aq_gI, aq_gL, aq_gA, aq_isA, aq_s1, aq_s2, aq_kill, aq_ob, aq_sm, aq_arI, aq_arB, aq_isB, aq_arL, aq_arA, aq_arN, aq_sh, Value.category, List.getElem?_cons_zero, List.getElem?_cons_succ, List.length_cons, List.length_nil, Option.toList_some, Option.toList_none, List.cons_append, List.nil_append, true_and, and_true, List.set_cons_zero, List.set_cons_succ, aq_n1, aq_n2, aq_n3, aq_n4, aq_f1, aq_f2, aq_f3, aq_f4, aq_gs, aq_ty1, aq_ty2, aq_ty3, aq_ty4, aq_ty5, Nat.reduceAdd, Nat.reduceLT, Nat.reduceEqDiff, Nat.reduceSub, if_true, if_false, ne_eq, not_false_eq_true, not_true_eq_false, Option.map_some, Option.map_none, Nat.zero_add, reduceCtorEq, Nat.reduceLeDiff, one_ne_zero_a, zero_ne_one_a, aq_nb, aq_nb1, aq_nb0, aq_fb, aq_fb1, aq_fb0, aq_ofN, bB_t, bB_f, bB_v, vpn_b1, vpn_b0, nI_1, Bool.true_eq_false, Bool.false_eq_true, Bool.true_and, Bool.false_and, Bool.and_true, Bool.and_false, O3, nI_le (Nat.le_refl (w * ht)) (show w * ht < 2 ^ 31 by omega)]
      refine rch_j (h := h2) O4 G3 ((S 52 (by decide)).trans a4) ((S 53 (by decide)).trans a5) ((S 54 (by decide)).trans a6) R hD hf fl (fun h3 mr3 u3 L3 L4 L5 S3 a83 g83 H3 => K h3 mr3 u3 _ _ _ (S.tr S3) a83 g83 H3) (w * ht) 0 (Nat.zero_add _) h2 mr (fun j => !decide (j = s)) _ _ _ (sm.rf _ _ _) a8 (fun j hj => by rw [g8 j hj, Bool.not_not]) ⟨by simp, fun x hx => ?_, Or.inr ?_⟩
      · have : x = s := by simpa using hx
        rw [this]
        exact ⟨hs, Rc.rt⟩
      · have k1 := frc_un (cb := fun _ => true) hs rfl
        rw [frc_true] at k1
        rw [show (fun j => !decide (j = s)) = cbs (fun _ => true) s false from funext fun j => by unfold cbs; by_cases z : j = s <;> simp [z], k1]
        exact Nat.le_refl _
    | succ k ih =>
      intro c hc h2 mr S a8 g8
      have hc2 : c < w * ht := by omega
      have O3 := O.sm S (by decide)
      unfold iMo at O3
      rw [s_X10_reach_2]
      have hq := nI_eq (a := c) (b := s) (by omega) (by omega)
      by_cases e : c = s
      · simp only [s_X10_reach_3, s_X10_reach_4, s_X10_reach_7, s_X10_reach_10, s_X10_reach_11, s_X10_reach_14, s_X10_reach_15, s_X10_reach_16, s_X10_reach_17, s_X10_reach_20, s_X10_reach_23, s_X10_reach_24, s_X10_reach_27, s_X10_reach_28, s_X10_reach_29, s_X10_reach_32, aq_gI, aq_gL, aq_gA, aq_isA, aq_s1, aq_s2, aq_kill, aq_ob, aq_sm, aq_arI, aq_arB, aq_isB, aq_arL, aq_arA, aq_arN, aq_sh, Value.category, List.getElem?_cons_zero, List.getElem?_cons_succ, List.length_cons, List.length_nil, Option.toList_some, Option.toList_none, List.cons_append, List.nil_append, true_and, and_true, List.set_cons_zero, List.set_cons_succ, aq_n1, aq_n2, aq_n3, aq_n4, aq_f1, aq_f2, aq_f3, aq_f4, aq_gs, aq_ty1, aq_ty2, aq_ty3, aq_ty4, aq_ty5, Nat.reduceAdd, Nat.reduceLT, Nat.reduceEqDiff, Nat.reduceSub, if_true, if_false, ne_eq, not_false_eq_true, not_true_eq_false, Option.map_some, Option.map_none, Nat.zero_add, reduceCtorEq, Nat.reduceLeDiff, one_ne_zero_a, zero_ne_one_a, aq_nb, aq_nb1, aq_nb0, aq_fb, aq_fb1, aq_fb0, aq_ofN, bB_t, bB_f, bB_v, vpn_b1, vpn_b0, nI_1, Bool.true_eq_false, Bool.false_eq_true, Bool.true_and, Bool.false_and, Bool.and_true, Bool.and_false, O3, a8, nI_ge hc2 (show w * ht < 2 ^ 31 by omega),  e, vp_in_nI (show s < 144 by omega) (show 144 < 2 ^ 31 by decide), nI_clamp (show s < 2 ^ 31 by omega), nI_ge hs (show w * ht < 2 ^ 31 by omega)]
        subst e
        refine ih (c + 1) (by omega) (h2.set 56 (.inl (.boolean, 144, .inl (upd mr c 1)))) (upd mr c 1) (S.tr (s57 _ _)) (by simp only [aq_gI, aq_gL, aq_gA, aq_isA, aq_s1, aq_s2, aq_kill, aq_ob, aq_sm, aq_arI, aq_arB, aq_isB, aq_arL, aq_arA, aq_arN, aq_sh, Value.category, List.getElem?_cons_zero, List.getElem?_cons_succ, List.length_cons, List.length_nil, Option.toList_some, Option.toList_none, List.cons_append, List.nil_append, true_and, and_true, List.set_cons_zero, List.set_cons_succ, aq_n1, aq_n2, aq_n3, aq_n4, aq_f1, aq_f2, aq_f3, aq_f4, aq_gs, aq_ty1, aq_ty2, aq_ty3, aq_ty4, aq_ty5, Nat.reduceAdd, Nat.reduceLT, Nat.reduceEqDiff, Nat.reduceSub, if_true, if_false, ne_eq, not_false_eq_true, not_true_eq_false, Option.map_some, Option.map_none, Nat.zero_add, reduceCtorEq, Nat.reduceLeDiff, one_ne_zero_a, zero_ne_one_a, a8]) (fun j hj => ?_)
        by_cases z : j = c
        · rw [z, upd_s, decide_eq_true rfl]; rfl
        · rw [upd_n _ _ z]; exact g8 j (by omega)
      · have e' : ¬ nI c = nI s := fun z => e (hq.mp z)
        simp only [s_X10_reach_3, s_X10_reach_4, s_X10_reach_7, s_X10_reach_10, s_X10_reach_11, s_X10_reach_14, s_X10_reach_15, s_X10_reach_16, s_X10_reach_17, s_X10_reach_20, s_X10_reach_23, s_X10_reach_24, s_X10_reach_27, s_X10_reach_28, s_X10_reach_29, s_X10_reach_32, aq_gI, aq_gL, aq_gA, aq_isA, aq_s1, aq_s2, aq_kill, aq_ob, aq_sm, aq_arI, aq_arB, aq_isB, aq_arL, aq_arA, aq_arN, aq_sh, Value.category, List.getElem?_cons_zero, List.getElem?_cons_succ, List.length_cons, List.length_nil, Option.toList_some, Option.toList_none, List.cons_append, List.nil_append, true_and, and_true, List.set_cons_zero, List.set_cons_succ, aq_n1, aq_n2, aq_n3, aq_n4, aq_f1, aq_f2, aq_f3, aq_f4, aq_gs, aq_ty1, aq_ty2, aq_ty3, aq_ty4, aq_ty5, Nat.reduceAdd, Nat.reduceLT, Nat.reduceEqDiff, Nat.reduceSub, if_true, if_false, ne_eq, not_false_eq_true, not_true_eq_false, Option.map_some, Option.map_none, Nat.zero_add, reduceCtorEq, Nat.reduceLeDiff, one_ne_zero_a, zero_ne_one_a, aq_nb, aq_nb1, aq_nb0, aq_fb, aq_fb1, aq_fb0, aq_ofN, bB_t, bB_f, bB_v, vpn_b1, vpn_b0, nI_1, Bool.true_eq_false, Bool.false_eq_true, Bool.true_and, Bool.false_and, Bool.and_true, Bool.and_false, O3, a8, nI_ge hc2 (show w * ht < 2 ^ 31 by omega),  e', vp_in_nI (show c < 144 by omega) (show 144 < 2 ^ 31 by decide), nI_clamp (show c < 2 ^ 31 by omega)]
        refine ih (c + 1) (by omega) (h2.set 56 (.inl (.boolean, 144, .inl (upd mr c 0)))) (upd mr c 0) (S.tr (s57 _ _)) (by simp only [aq_gI, aq_gL, aq_gA, aq_isA, aq_s1, aq_s2, aq_kill, aq_ob, aq_sm, aq_arI, aq_arB, aq_isB, aq_arL, aq_arA, aq_arN, aq_sh, Value.category, List.getElem?_cons_zero, List.getElem?_cons_succ, List.length_cons, List.length_nil, Option.toList_some, Option.toList_none, List.cons_append, List.nil_append, true_and, and_true, List.set_cons_zero, List.set_cons_succ, aq_n1, aq_n2, aq_n3, aq_n4, aq_f1, aq_f2, aq_f3, aq_f4, aq_gs, aq_ty1, aq_ty2, aq_ty3, aq_ty4, aq_ty5, Nat.reduceAdd, Nat.reduceLT, Nat.reduceEqDiff, Nat.reduceSub, if_true, if_false, ne_eq, not_false_eq_true, not_true_eq_false, Option.map_some, Option.map_none, Nat.zero_add, reduceCtorEq, Nat.reduceLeDiff, one_ne_zero_a, zero_ne_one_a, a8]) (fun j hj => ?_)
        by_cases z : j = c
        · rw [z, upd_s, decide_eq_false e]; rfl
        · rw [upd_n _ _ z]; exact g8 j (by omega)
  simp only [s_X10_reach_0, s_X10_reach_1, aq_gI, aq_gL, aq_gA, aq_isA, aq_s1, aq_s2, aq_kill, aq_ob, aq_sm, aq_arI, aq_arB, aq_isB, aq_arL, aq_arA, aq_arN, aq_sh, Value.category, List.getElem?_cons_zero, List.getElem?_cons_succ, List.length_cons, List.length_nil, Option.toList_some, Option.toList_none, List.cons_append, List.nil_append, true_and, and_true, List.set_cons_zero, List.set_cons_succ, aq_n1, aq_n2, aq_n3, aq_n4, aq_f1, aq_f2, aq_f3, aq_f4, aq_gs, aq_ty1, aq_ty2, aq_ty3, aq_ty4, aq_ty5, Nat.reduceAdd, Nat.reduceLT, Nat.reduceEqDiff, Nat.reduceSub, if_true, if_false, ne_eq, not_false_eq_true, not_true_eq_false, Option.map_some, Option.map_none, Nat.zero_add, reduceCtorEq, Nat.reduceLeDiff, one_ne_zero_a, zero_ne_one_a, aq_nb, aq_nb1, aq_nb0, aq_fb, aq_fb1, aq_fb0, aq_ofN, bB_t, bB_f, bB_v, vpn_b1, vpn_b0, nI_1, Bool.true_eq_false, Bool.false_eq_true, Bool.true_and, Bool.false_and, Bool.and_true, Bool.and_false]
  exact one (w * ht) 0 (Nat.zero_add _) h mr (sm.rf _ _ _) a8 (fun j hj => by omega)
end MSW
