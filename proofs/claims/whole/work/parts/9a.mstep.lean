/-! the model's escape and step -/
def GW (f : Nat → Nat → Option Nat) (g : Nat → Prop) (F : Nat → Option Nat) (L : Nat) (gd : Nat → Bool) (r : Nat) : Prop := ∀ s, gd s = true ↔ ∃ a, F s = some a ∧ r ≤ a ∧ toG f g (L - a) s
section GVS
variable {f : Nat → Nat → Option Nat} {g : Nat → Prop} {F : Nat → Option Nat} {L at_ k d : Nat} {gd : Nat → Bool}
theorem GV_of (h : GW f g F L gd (at_ + 1)) : GV f g F L gd at_ 0 0 := by
  intro s
  rw [h s]
  constructor
  · rintro ⟨a, h1, h2, h3⟩
    exact ⟨a, h1, Or.inl ⟨h2, h3⟩⟩
  · rintro ⟨a, h1, (⟨h2, h3⟩ | ⟨-, h2, -⟩ | ⟨-, -, d', v, h2, -⟩)⟩
    · exact ⟨a, h1, h2, h3⟩
    · omega
    · omega
theorem GV_to (hN : ∀ s a, F s = some a → s < k) (h : GV f g F L gd at_ k 0) : GW f g F L gd at_ := by
  intro s
  rw [h s]
  constructor
  · rintro ⟨a, h1, (⟨h2, h3⟩ | ⟨rfl, h2, h3⟩ | ⟨-, -, d', v, h2, -⟩)⟩
    · exact ⟨a, h1, by omega, h3⟩
    · exact ⟨a, h1, Nat.le_refl _, h3⟩
    · omega
  · rintro ⟨a, h1, h2, h3⟩
    by_cases e : a = at_
    · exact ⟨a, h1, Or.inr (Or.inl ⟨e, hN s a h1, h3⟩)⟩
    · exact ⟨a, h1, Or.inl ⟨by omega, h3⟩⟩
theorem GV_sk (hk : F k ≠ some at_) (h : GV f g F L gd at_ k d) : GV f g F L gd at_ (k + 1) 0 := by
  intro s
  rw [h s]
  constructor
  · rintro ⟨a, h1, (⟨h2, h3⟩ | ⟨rfl, h2, h3⟩ | ⟨rfl, rfl, -⟩)⟩
    · exact ⟨a, h1, Or.inl ⟨h2, h3⟩⟩
    · exact ⟨a, h1, Or.inr (Or.inl ⟨rfl, by omega, h3⟩)⟩
    · exact absurd h1 hk
  · rintro ⟨a, h1, (⟨h2, h3⟩ | ⟨rfl, h2, h3⟩ | ⟨-, -, d', v, h2, -⟩)⟩
    · exact ⟨a, h1, Or.inl ⟨h2, h3⟩⟩
    · by_cases e : s = k
      · rw [e] at h1; exact absurd h1 hk
      · exact ⟨a, h1, Or.inr (Or.inl ⟨rfl, by omega, h3⟩)⟩
    · omega
theorem GV_nx (ha : at_ < L) (h : GV f g F L gd at_ k 4) : GV f g F L gd at_ (k + 1) 0 := by
  obtain ⟨r, hr⟩ : ∃ r, L - at_ = r + 1 := ⟨L - at_ - 1, by omega⟩
  have hr2 : L - (at_ + 1) = r := by omega
  intro s
  rw [h s]
  constructor
  · rintro ⟨a, h1, (⟨h2, h3⟩ | ⟨rfl, h2, h3⟩ | ⟨rfl, rfl, d', v, h2, h3, h4⟩)⟩
    · exact ⟨a, h1, Or.inl ⟨h2, h3⟩⟩
    · exact ⟨a, h1, Or.inr (Or.inl ⟨rfl, by omega, h3⟩)⟩
    · refine ⟨a, h1, Or.inr (Or.inl ⟨rfl, by omega, ?_⟩)⟩
      rw [hr]
      rw [hr2] at h4
      exact ⟨d', v, h2, h3, h4⟩
  · rintro ⟨a, h1, (⟨h2, h3⟩ | ⟨rfl, h2, h3⟩ | ⟨-, -, d', v, h2, -⟩)⟩
    · exact ⟨a, h1, Or.inl ⟨h2, h3⟩⟩
    · by_cases e : s = k
      · refine ⟨a, h1, Or.inr (Or.inr ⟨rfl, e, ?_⟩)⟩
        rw [hr] at h3
        rw [hr2]
        obtain ⟨d', v, y1, y2, y3⟩ := h3
        exact ⟨d', v, y1, y2, y3⟩
      · exact ⟨a, h1, Or.inr (Or.inl ⟨rfl, by omega, h3⟩)⟩
    · omega
theorem GV_d (hk : F k = some at_) (h : GV f g F L gd at_ k d) {on : Bool} (hon : on = true ↔ ∃ v, f k d = some v ∧ toG f g (L - (at_ + 1)) v) : GV f g F L (fs gd k (gd k || on)) at_ k (d + 1) := by
  intro s
  by_cases e : s = k
  · subst e
    rw [fs_s, Bool.or_eq_true, h s, hon]
    constructor
    · rintro (⟨a, h1, (⟨h2, h3⟩ | ⟨rfl, h2, h3⟩ | ⟨rfl, -, d', v, h2, h3, h4⟩)⟩ | ⟨v, h1, h2⟩)
      · exact ⟨a, h1, Or.inl ⟨h2, h3⟩⟩
      · exact ⟨a, h1, Or.inr (Or.inl ⟨rfl, h2, h3⟩)⟩
      · exact ⟨a, h1, Or.inr (Or.inr ⟨rfl, rfl, d', v, by omega, h3, h4⟩)⟩
      · exact ⟨at_, hk, Or.inr (Or.inr ⟨rfl, rfl, d, v, by omega, h1, h2⟩)⟩
    · rintro ⟨a, h1, (⟨h2, h3⟩ | ⟨rfl, h2, h3⟩ | ⟨rfl, -, d', v, h2, h3, h4⟩)⟩
      · exact Or.inl ⟨a, h1, Or.inl ⟨h2, h3⟩⟩
      · exact Or.inl ⟨a, h1, Or.inr (Or.inl ⟨rfl, h2, h3⟩)⟩
      · by_cases z : d' = d
        · rw [z] at h3; exact Or.inr ⟨v, h3, h4⟩
        · exact Or.inl ⟨a, h1, Or.inr (Or.inr ⟨rfl, rfl, d', v, by omega, h3, h4⟩)⟩
  · rw [fs_n _ _ e, h s]
    constructor
    · rintro ⟨a, h1, (⟨h2, h3⟩ | ⟨rfl, h2, h3⟩ | ⟨-, h2, -⟩)⟩
      · exact ⟨a, h1, Or.inl ⟨h2, h3⟩⟩
      · exact ⟨a, h1, Or.inr (Or.inl ⟨rfl, h2, h3⟩)⟩
      · exact absurd h2 e
    · rintro ⟨a, h1, (⟨h2, h3⟩ | ⟨rfl, h2, h3⟩ | ⟨-, h2, -⟩)⟩
      · exact ⟨a, h1, Or.inl ⟨h2, h3⟩⟩
      · exact ⟨a, h1, Or.inr (Or.inl ⟨rfl, h2, h3⟩)⟩
      · exact absurd h2 e
end GVS
section MST
variable {h h' : aq_H} {w ht e n k c : Nat} {wx wy hm : Bool} {cb : Nat → Bool} {D : drT} {Z : mzT} {P : plT} {wr thr th rt ci st ex pl hd sg : Int32} {mc mx mt mp mo md mw mk mr pc fa go : Nat → Int32} {tb : Nat → Int64} {F : Nat → Option Nat} {gd : Nat → Bool}
theorem iAr_fg {fa' go' : Nat → Int32} (A : iAr h mx mt mp mo md mw mk mr tb pc fa go) (S : sm 59 60 h h') (b1 : h'[59]? = some (.inl (.int, 2304, .inl fa'))) (b2 : h'[60]? = some (.inl (.boolean, 2304, .inl go'))) : iAr h' mx mt mp mo md mw mk mr tb pc fa' go' := by
  obtain ⟨a1, a2, a3, a4, a5, a6, a7, a8, a9, a10, a11, a12⟩ := A
  exact ⟨(S 49 (by omega)).trans a1, (S 50 (by omega)).trans a2, (S 51 (by omega)).trans a3, (S 52 (by omega)).trans a4, (S 53 (by omega)).trans a5, (S 54 (by omega)).trans a6, (S 55 (by omega)).trans a7, (S 56 (by omega)).trans a8, (S 57 (by omega)).trans a9, (S 58 (by omega)).trans a10, b1, b2⟩
theorem sp_d {Q : Option Value → aq_H → Prop} {x1 x2 : Int32} {at_ : Nat} (C : mCx h w ht wx wy cb Z e) (E : ESC (sF w ht wx wy cb Z) (sS Z) (sG Z) (some c)) (L : LV (w * ht * 16) (sF w ht wx wy cb Z) (sS Z) F (cl c)) (hcl : cl c < 2 ^ 30) (hat : at_ < cl c) (hk : k < 2304)
    (K : ∀ (h2 : aq_H) (gd : Nat → Bool) (L5 L6 L7 : Option Value), sm 60 60 h h2 → FG h2 F gd → GV (sF w ht wx wy cb Z) (sG Z) F (cl c) gd at_ (k + 1) 0 → aq_W e_X10_step Q 165 [some (.ref 47), some (.int x1), some (.int x2), some (.int (nI at_)), some (.int (nI k)), L5, L6, L7] [] h2 0 0) :
    ∀ (j d : Nat), d + j = 4 → ∀ (h2 : aq_H) (gd : Nat → Bool) (L6 L7 : Option Value), sm 60 60 h h2 → FG h2 F gd → GV (sF w ht wx wy cb Z) (sG Z) F (cl c) gd at_ k d → aq_W e_X10_step Q 43 [some (.ref 47), some (.int x1), some (.int x2), some (.int (nI at_)), some (.int (nI k)), some (.int (nI d)), L6, L7] [] h2 0 0 := by
  have hn := C.n144
  have hF2 : ∀ s m, F s = some m → m < 2 ^ 31 := fun s m hm => by have := (L.1 s m hm).2.1; omega
  intro j
  induction j with
  | zero =>
    intro d hd h2 gd L6 L7 S hFG V
    have e4 : d = 4 := by omega
    subst e4
    have h4 : (4 : Int32) ≤ nI 4 := by decide
    rw [s_X10_step_43]
    simp only [s_X10_step_45, s_X10_step_46, aq_gI, aq_gL, aq_gA, aq_isA, aq_s1, aq_s2, aq_kill, aq_ob, aq_sm, aq_arI, aq_arB, aq_isB, aq_arL, aq_arA, aq_arN, aq_sh, Value.category, List.getElem?_cons_zero, List.getElem?_cons_succ, List.length_cons, List.length_nil, Option.toList_some, Option.toList_none, List.cons_append, List.nil_append, true_and, and_true, List.set_cons_zero, List.set_cons_succ, aq_n1, aq_n2, aq_n3, aq_n4, aq_f1, aq_f2, aq_f3, aq_f4, aq_gs, aq_ty1, aq_ty2, aq_ty3, aq_ty4, aq_ty5, Nat.reduceAdd, Nat.reduceLT, Nat.reduceEqDiff, Nat.reduceSub, if_true, if_false, ne_eq, not_false_eq_true, not_true_eq_false, Option.map_some, Option.map_none, Nat.zero_add, reduceCtorEq, Nat.reduceLeDiff, one_ne_zero_a, zero_ne_one_a, aq_nb, aq_nb1, aq_nb0, aq_fb, aq_fb1, aq_fb0, aq_ofN, bB_t, bB_f, bB_v, vpn_b1, vpn_b0, nI_1, Bool.true_eq_false, Bool.false_eq_true, Bool.true_and, Bool.false_and, Bool.and_true, Bool.and_false, h4]
    exact K h2 gd _ _ _ S hFG (GV_nx hat V)
  | succ j ih =>
    intro d hd h2 gd L6 L7 S hFG V
    have hd4 : d < 4 := by omega
    have h4 : ¬ (4 : Int32) ≤ nI d := by rw [nI_4]; exact nI_ge hd4 (by omega)
    have C2 := C.sm (S.mo (by decide) (by decide))
    obtain ⟨wr, thr, rt, ci, pl, hd', sg, O⟩ := C2.ob
    unfold mOb at O
    have hFG0 := hFG
    obtain ⟨fa, go, b1, b2, hF, hgo⟩ := hFG
    have hoi := fun (s m : Nat) (hm : m < 2 ^ 31) => oI_inj (a := F s) (b := some m) (hF2 _) (fun m' hm' => by cases hm'; exact hm)
    rw [s_X10_step_43]
    simp only [s_X10_step_45, s_X10_step_46, s_X10_step_49, s_X10_step_50, s_X10_step_53, s_X10_step_55, s_X10_step_56, aq_gI, aq_gL, aq_gA, aq_isA, aq_s1, aq_s2, aq_kill, aq_ob, aq_sm, aq_arI, aq_arB, aq_isB, aq_arL, aq_arA, aq_arN, aq_sh, Value.category, List.getElem?_cons_zero, List.getElem?_cons_succ, List.length_cons, List.length_nil, Option.toList_some, Option.toList_none, List.cons_append, List.nil_append, true_and, and_true, List.set_cons_zero, List.set_cons_succ, aq_n1, aq_n2, aq_n3, aq_n4, aq_f1, aq_f2, aq_f3, aq_f4, aq_gs, aq_ty1, aq_ty2, aq_ty3, aq_ty4, aq_ty5, Nat.reduceAdd, Nat.reduceLT, Nat.reduceEqDiff, Nat.reduceSub, if_true, if_false, ne_eq, not_false_eq_true, not_true_eq_false, Option.map_some, Option.map_none, Nat.zero_add, reduceCtorEq, Nat.reduceLeDiff, one_ne_zero_a, zero_ne_one_a, aq_nb, aq_nb1, aq_nb0, aq_fb, aq_fb1, aq_fb0, aq_ofN, bB_t, bB_f, bB_v, vpn_b1, vpn_b0, nI_1, Bool.true_eq_false, Bool.false_eq_true, Bool.true_and, Bool.false_and, Bool.and_true, Bool.and_false, h4, O, b1, vp_in_nI hk (show 2304 < 2 ^ 31 by decide), nI_clamp (show k < 2 ^ 31 by omega), hF k hk]
    by_cases hf : F k = some at_
    · have hkN := (L.1 k at_ hf).1
      have hRk := (L.1 k at_ hf).2.2.1
      have tail : ∀ (on : Bool) (L6 L7 : Option Value), (on = true ↔ ∃ v, sF w ht wx wy cb Z k d = some v ∧ toG (sF w ht wx wy cb Z) (sG Z) (cl c - (at_ + 1)) v) → aq_W e_X10_step Q 130 [some (.ref 47), some (.int x1), some (.int x2), some (.int (nI at_)), some (.int (nI k)), some (.int (nI d)), L6, L7] [.int (bB on)] h2 0 0 := by
        intro on L6 L7 hon
        have V2 := GV_d hf V hon
        have fin : ∀ (x : Int32) (L6 L7 : Option Value), x = bB (gd k || on) → aq_W e_X10_step Q 43 [some (.ref 47), some (.int x1), some (.int x2), some (.int (nI at_)), some (.int (nI k)), some (.int (nI (d + 1))), L6, L7] [] (h2.set 60 (.inl (.boolean, 2304, .inl (upd go k x)))) 0 0 := by
          intro x L6 L7 hx
          refine ih (d + 1) (by omega) _ (fs gd k (gd k || on)) L6 L7 (S.st (by decide) (by decide)) ⟨fa, upd go k x, by simp only [aq_gI, aq_gL, aq_gA, aq_isA, aq_s1, aq_s2, aq_kill, aq_ob, aq_sm, aq_arI, aq_arB, aq_isB, aq_arL, aq_arA, aq_arN, aq_sh, Value.category, List.getElem?_cons_zero, List.getElem?_cons_succ, List.length_cons, List.length_nil, Option.toList_some, Option.toList_none, List.cons_append, List.nil_append, true_and, and_true, List.set_cons_zero, List.set_cons_succ, aq_n1, aq_n2, aq_n3, aq_n4, aq_f1, aq_f2, aq_f3, aq_f4, aq_gs, aq_ty1, aq_ty2, aq_ty3, aq_ty4, aq_ty5, Nat.reduceAdd, Nat.reduceLT, Nat.reduceEqDiff, Nat.reduceSub, if_true, if_false, ne_eq, not_false_eq_true, not_true_eq_false, Option.map_some, Option.map_none, Nat.zero_add, reduceCtorEq, Nat.reduceLeDiff, one_ne_zero_a, zero_ne_one_a, b1], by simp only [aq_gI, aq_gL, aq_gA, aq_isA, aq_s1, aq_s2, aq_kill, aq_ob, aq_sm, aq_arI, aq_arB, aq_isB, aq_arL, aq_arA, aq_arN, aq_sh, Value.category, List.getElem?_cons_zero, List.getElem?_cons_succ, List.length_cons, List.length_nil, Option.toList_some, Option.toList_none, List.cons_append, List.nil_append, true_and, and_true, List.set_cons_zero, List.set_cons_succ, aq_n1, aq_n2, aq_n3, aq_n4, aq_f1, aq_f2, aq_f3, aq_f4, aq_gs, aq_ty1, aq_ty2, aq_ty3, aq_ty4, aq_ty5, Nat.reduceAdd, Nat.reduceLT, Nat.reduceEqDiff, Nat.reduceSub, if_true, if_false, ne_eq, not_false_eq_true, not_true_eq_false, Option.map_some, Option.map_none, Nat.zero_add, reduceCtorEq, Nat.reduceLeDiff, one_ne_zero_a, zero_ne_one_a, b2], hF, fun s hs => ?_⟩ V2
          by_cases z : s = k
          · rw [z, upd_s, fs_s]; exact hx
          · rw [upd_n _ _ z, fs_n _ _ z]; exact hgo s hs
        simp only [s_X10_step_130, s_X10_step_132, s_X10_step_133, s_X10_step_136, s_X10_step_138, s_X10_step_139, s_X10_step_142, s_X10_step_144, aq_gI, aq_gL, aq_gA, aq_isA, aq_s1, aq_s2, aq_kill, aq_ob, aq_sm, aq_arI, aq_arB, aq_isB, aq_arL, aq_arA, aq_arN, aq_sh, Value.category, List.getElem?_cons_zero, List.getElem?_cons_succ, List.length_cons, List.length_nil, Option.toList_some, Option.toList_none, List.cons_append, List.nil_append, true_and, and_true, List.set_cons_zero, List.set_cons_succ, aq_n1, aq_n2, aq_n3, aq_n4, aq_f1, aq_f2, aq_f3, aq_f4, aq_gs, aq_ty1, aq_ty2, aq_ty3, aq_ty4, aq_ty5, Nat.reduceAdd, Nat.reduceLT, Nat.reduceEqDiff, Nat.reduceSub, if_true, if_false, ne_eq, not_false_eq_true, not_true_eq_false, Option.map_some, Option.map_none, Nat.zero_add, reduceCtorEq, Nat.reduceLeDiff, one_ne_zero_a, zero_ne_one_a, aq_nb, aq_nb1, aq_nb0, aq_fb, aq_fb1, aq_fb0, aq_ofN, bB_t, bB_f, bB_v, vpn_b1, vpn_b0, nI_1, Bool.true_eq_false, Bool.false_eq_true, Bool.true_and, Bool.false_and, Bool.and_true, Bool.and_false, O, b2, vp_in_nI hk (show 2304 < 2 ^ 31 by decide), nI_clamp (show k < 2 ^ 31 by omega), hgo k hk]
        cases hg : gd k with
        | true =>
          rw [hg] at fin
          simp only [s_X10_step_145, s_X10_step_153, s_X10_step_154, s_X10_step_158, s_X10_step_159, s_X10_step_162, aq_gI, aq_gL, aq_gA, aq_isA, aq_s1, aq_s2, aq_kill, aq_ob, aq_sm, aq_arI, aq_arB, aq_isB, aq_arL, aq_arA, aq_arN, aq_sh, Value.category, List.getElem?_cons_zero, List.getElem?_cons_succ, List.length_cons, List.length_nil, Option.toList_some, Option.toList_none, List.cons_append, List.nil_append, true_and, and_true, List.set_cons_zero, List.set_cons_succ, aq_n1, aq_n2, aq_n3, aq_n4, aq_f1, aq_f2, aq_f3, aq_f4, aq_gs, aq_ty1, aq_ty2, aq_ty3, aq_ty4, aq_ty5, Nat.reduceAdd, Nat.reduceLT, Nat.reduceEqDiff, Nat.reduceSub, if_true, if_false, ne_eq, not_false_eq_true, not_true_eq_false, Option.map_some, Option.map_none, Nat.zero_add, reduceCtorEq, Nat.reduceLeDiff, one_ne_zero_a, zero_ne_one_a, aq_nb, aq_nb1, aq_nb0, aq_fb, aq_fb1, aq_fb0, aq_ofN, bB_t, bB_f, bB_v, vpn_b1, vpn_b0, nI_1, Bool.true_eq_false, Bool.false_eq_true, Bool.true_and, Bool.false_and, Bool.and_true, Bool.and_false, b2, vp_in_nI hk (show 2304 < 2 ^ 31 by decide), nI_clamp (show k < 2 ^ 31 by omega)]
          exact fin 1 _ _ rfl
        | false =>
          rw [hg] at fin
          cases on with
          | true =>
            simp only [s_X10_step_145, s_X10_step_148, s_X10_step_150, s_X10_step_153, s_X10_step_154, s_X10_step_158, s_X10_step_159, s_X10_step_162, aq_gI, aq_gL, aq_gA, aq_isA, aq_s1, aq_s2, aq_kill, aq_ob, aq_sm, aq_arI, aq_arB, aq_isB, aq_arL, aq_arA, aq_arN, aq_sh, Value.category, List.getElem?_cons_zero, List.getElem?_cons_succ, List.length_cons, List.length_nil, Option.toList_some, Option.toList_none, List.cons_append, List.nil_append, true_and, and_true, List.set_cons_zero, List.set_cons_succ, aq_n1, aq_n2, aq_n3, aq_n4, aq_f1, aq_f2, aq_f3, aq_f4, aq_gs, aq_ty1, aq_ty2, aq_ty3, aq_ty4, aq_ty5, Nat.reduceAdd, Nat.reduceLT, Nat.reduceEqDiff, Nat.reduceSub, if_true, if_false, ne_eq, not_false_eq_true, not_true_eq_false, Option.map_some, Option.map_none, Nat.zero_add, reduceCtorEq, Nat.reduceLeDiff, one_ne_zero_a, zero_ne_one_a, aq_nb, aq_nb1, aq_nb0, aq_fb, aq_fb1, aq_fb0, aq_ofN, bB_t, bB_f, bB_v, vpn_b1, vpn_b0, nI_1, Bool.true_eq_false, Bool.false_eq_true, Bool.true_and, Bool.false_and, Bool.and_true, Bool.and_false, b2, vp_in_nI hk (show 2304 < 2 ^ 31 by decide), nI_clamp (show k < 2 ^ 31 by omega)]
            exact fin 1 _ _ rfl
          | false =>
            simp only [s_X10_step_145, s_X10_step_148, s_X10_step_150, s_X10_step_157, s_X10_step_158, s_X10_step_159, s_X10_step_162, aq_gI, aq_gL, aq_gA, aq_isA, aq_s1, aq_s2, aq_kill, aq_ob, aq_sm, aq_arI, aq_arB, aq_isB, aq_arL, aq_arA, aq_arN, aq_sh, Value.category, List.getElem?_cons_zero, List.getElem?_cons_succ, List.length_cons, List.length_nil, Option.toList_some, Option.toList_none, List.cons_append, List.nil_append, true_and, and_true, List.set_cons_zero, List.set_cons_succ, aq_n1, aq_n2, aq_n3, aq_n4, aq_f1, aq_f2, aq_f3, aq_f4, aq_gs, aq_ty1, aq_ty2, aq_ty3, aq_ty4, aq_ty5, Nat.reduceAdd, Nat.reduceLT, Nat.reduceEqDiff, Nat.reduceSub, if_true, if_false, ne_eq, not_false_eq_true, not_true_eq_false, Option.map_some, Option.map_none, Nat.zero_add, reduceCtorEq, Nat.reduceLeDiff, one_ne_zero_a, zero_ne_one_a, aq_nb, aq_nb1, aq_nb0, aq_fb, aq_fb1, aq_fb0, aq_ofN, bB_t, bB_f, bB_v, vpn_b1, vpn_b0, nI_1, Bool.true_eq_false, Bool.false_eq_true, Bool.true_and, Bool.false_and, Bool.and_true, Bool.and_false, b2, vp_in_nI hk (show 2304 < 2 ^ 31 by decide), nI_clamp (show k < 2 ^ 31 by omega)]
            exact fin 0 _ _ rfl
      simp only [s_X10_step_57, s_X10_step_60, s_X10_step_61, s_X10_step_63, s_X10_step_65, s_X10_step_66, s_X10_step_68, s_X10_step_70, s_X10_step_72, s_X10_step_73, aq_gI, aq_gL, aq_gA, aq_isA, aq_s1, aq_s2, aq_kill, aq_ob, aq_sm, aq_arI, aq_arB, aq_isB, aq_arL, aq_arA, aq_arN, aq_sh, Value.category, List.getElem?_cons_zero, List.getElem?_cons_succ, List.length_cons, List.length_nil, Option.toList_some, Option.toList_none, List.cons_append, List.nil_append, true_and, and_true, List.set_cons_zero, List.set_cons_succ, aq_n1, aq_n2, aq_n3, aq_n4, aq_f1, aq_f2, aq_f3, aq_f4, aq_gs, aq_ty1, aq_ty2, aq_ty3, aq_ty4, aq_ty5, Nat.reduceAdd, Nat.reduceLT, Nat.reduceEqDiff, Nat.reduceSub, if_true, if_false, ne_eq, not_false_eq_true, not_true_eq_false, Option.map_some, Option.map_none, Nat.zero_add, reduceCtorEq, Nat.reduceLeDiff, one_ne_zero_a, zero_ne_one_a, aq_nb, aq_nb1, aq_nb0, aq_fb, aq_fb1, aq_fb0, aq_ofN, bB_t, bB_f, bB_v, vpn_b1, vpn_b0, nI_1, Bool.true_eq_false, Bool.false_eq_true, Bool.true_and, Bool.false_and, Bool.and_true, Bool.and_false, hf, oI, O, n16z, d16 (show k < 2 ^ 31 by omega), r16 (show k < 2 ^ 31 by omega)]
      refine (cx_step C2 hkN (nI d)).use ?_
      rintro _ h2 ⟨rfl, rfl⟩
      rw [inC_nI hd4 (by decide), if_pos rfl, nI_clamp (show d < 2 ^ 31 by omega)]
      have hsf : sF w ht wx wy cb Z k d = (stf w ht wx wy cb Z.1 Z.2.1 Z.2.2.1 (k / 16) d (nI (k % 16))).map (fun c => 16 * c + (k % 16 ||| kmm Z.2.2.2.1 c)) := rfl
      cases hx : stf w ht wx wy cb Z.1 Z.2.1 Z.2.2.1 (k / 16) d (nI (k % 16)) with
      | none =>
        rw [hx] at hsf
        simp only [oI, s_X10_step_76, s_X10_step_78, s_X10_step_80, s_X10_step_81, s_X10_step_129, aq_gI, aq_gL, aq_gA, aq_isA, aq_s1, aq_s2, aq_kill, aq_ob, aq_sm, aq_arI, aq_arB, aq_isB, aq_arL, aq_arA, aq_arN, aq_sh, Value.category, List.getElem?_cons_zero, List.getElem?_cons_succ, List.length_cons, List.length_nil, Option.toList_some, Option.toList_none, List.cons_append, List.nil_append, true_and, and_true, List.set_cons_zero, List.set_cons_succ, aq_n1, aq_n2, aq_n3, aq_n4, aq_f1, aq_f2, aq_f3, aq_f4, aq_gs, aq_ty1, aq_ty2, aq_ty3, aq_ty4, aq_ty5, Nat.reduceAdd, Nat.reduceLT, Nat.reduceEqDiff, Nat.reduceSub, if_true, if_false, ne_eq, not_false_eq_true, not_true_eq_false, Option.map_some, Option.map_none, Nat.zero_add, reduceCtorEq, Nat.reduceLeDiff, one_ne_zero_a, zero_ne_one_a, aq_nb, aq_nb1, aq_nb0, aq_fb, aq_fb1, aq_fb0, aq_ofN, bB_t, bB_f, bB_v, vpn_b1, vpn_b0, nI_1, Bool.true_eq_false, Bool.false_eq_true, Bool.true_and, Bool.false_and, Bool.and_true, Bool.and_false]
        exact tail false _ _ ⟨fun z => (by cases z), fun ⟨v, z, _⟩ => (by rw [hsf] at z; cases z)⟩
      | some c2 =>
        rw [hx] at hsf
        have hc := stf_lt C2.bd (show k / 16 < w * ht by omega) hd4 hx
        have hor := or16 (k % 16) (by omega) _ (kmm_lt Z.2.2.2.1 c2)
        have hvN : 16 * c2 + (k % 16 ||| kmm Z.2.2.2.1 c2) < w * ht * 16 := by omega
        simp only [oI, s_X10_step_76, s_X10_step_78, s_X10_step_80, s_X10_step_81, s_X10_step_84, s_X10_step_85, s_X10_step_88, s_X10_step_89, s_X10_step_91, s_X10_step_93, s_X10_step_95, s_X10_step_96, aq_gI, aq_gL, aq_gA, aq_isA, aq_s1, aq_s2, aq_kill, aq_ob, aq_sm, aq_arI, aq_arB, aq_isB, aq_arL, aq_arA, aq_arN, aq_sh, Value.category, List.getElem?_cons_zero, List.getElem?_cons_succ, List.length_cons, List.length_nil, Option.toList_some, Option.toList_none, List.cons_append, List.nil_append, true_and, and_true, List.set_cons_zero, List.set_cons_succ, aq_n1, aq_n2, aq_n3, aq_n4, aq_f1, aq_f2, aq_f3, aq_f4, aq_gs, aq_ty1, aq_ty2, aq_ty3, aq_ty4, aq_ty5, Nat.reduceAdd, Nat.reduceLT, Nat.reduceEqDiff, Nat.reduceSub, if_true, if_false, ne_eq, not_false_eq_true, not_true_eq_false, Option.map_some, Option.map_none, Nat.zero_add, reduceCtorEq, Nat.reduceLeDiff, one_ne_zero_a, zero_ne_one_a, aq_nb, aq_nb1, aq_nb0, aq_fb, aq_fb1, aq_fb0, aq_ofN, bB_t, bB_f, bB_v, vpn_b1, vpn_b0, nI_1, Bool.true_eq_false, Bool.false_eq_true, Bool.true_and, Bool.false_and, Bool.and_true, Bool.and_false, O, nI_ne_m1 (show c2 < 2 ^ 31 by omega), n16z, d16 (show k < 2 ^ 31 by omega), r16 (show k < 2 ^ 31 by omega)]
        refine (cx_state C2 c2 (show k % 16 < 16 by omega)).use ?_
        rintro _ h2 ⟨rfl, rfl⟩
        generalize hV : 16 * c2 + (k % 16 ||| kmm Z.2.2.2.1 c2) = v at hvN
        have hsf2 : sF w ht wx wy cb Z k d = some v := by rw [hsf, ← hV]; rfl
        have hv3 : v < 2304 := by omega
        simp only [s_X10_step_99, s_X10_step_100, s_X10_step_101, s_X10_step_102, aq_gI, aq_gL, aq_gA, aq_isA, aq_s1, aq_s2, aq_kill, aq_ob, aq_sm, aq_arI, aq_arB, aq_isB, aq_arL, aq_arA, aq_arN, aq_sh, Value.category, List.getElem?_cons_zero, List.getElem?_cons_succ, List.length_cons, List.length_nil, Option.toList_some, Option.toList_none, List.cons_append, List.nil_append, true_and, and_true, List.set_cons_zero, List.set_cons_succ, aq_n1, aq_n2, aq_n3, aq_n4, aq_f1, aq_f2, aq_f3, aq_f4, aq_gs, aq_ty1, aq_ty2, aq_ty3, aq_ty4, aq_ty5, Nat.reduceAdd, Nat.reduceLT, Nat.reduceEqDiff, Nat.reduceSub, if_true, if_false, ne_eq, not_false_eq_true, not_true_eq_false, Option.map_some, Option.map_none, Nat.zero_add, reduceCtorEq, Nat.reduceLeDiff, one_ne_zero_a, zero_ne_one_a, aq_nb, aq_nb1, aq_nb0, aq_fb, aq_fb1, aq_fb0, aq_ofN, bB_t, bB_f, bB_v, vpn_b1, vpn_b0, nI_1, Bool.true_eq_false, Bool.false_eq_true, Bool.true_and, Bool.false_and, Bool.and_true, Bool.and_false, b1, vp_in_nI hv3 (show 2304 < 2 ^ 31 by decide), nI_clamp (show v < 2 ^ 31 by omega), hF v hv3]
        by_cases hfv : F v = some (at_ + 1)
        · simp only [s_X10_step_103, s_X10_step_106, s_X10_step_107, s_X10_step_110, s_X10_step_111, s_X10_step_113, s_X10_step_115, s_X10_step_117, s_X10_step_118, aq_gI, aq_gL, aq_gA, aq_isA, aq_s1, aq_s2, aq_kill, aq_ob, aq_sm, aq_arI, aq_arB, aq_isB, aq_arL, aq_arA, aq_arN, aq_sh, Value.category, List.getElem?_cons_zero, List.getElem?_cons_succ, List.length_cons, List.length_nil, Option.toList_some, Option.toList_none, List.cons_append, List.nil_append, true_and, and_true, List.set_cons_zero, List.set_cons_succ, aq_n1, aq_n2, aq_n3, aq_n4, aq_f1, aq_f2, aq_f3, aq_f4, aq_gs, aq_ty1, aq_ty2, aq_ty3, aq_ty4, aq_ty5, Nat.reduceAdd, Nat.reduceLT, Nat.reduceEqDiff, Nat.reduceSub, if_true, if_false, ne_eq, not_false_eq_true, not_true_eq_false, Option.map_some, Option.map_none, Nat.zero_add, reduceCtorEq, Nat.reduceLeDiff, one_ne_zero_a, zero_ne_one_a, aq_nb, aq_nb1, aq_nb0, aq_fb, aq_fb1, aq_fb0, aq_ofN, bB_t, bB_f, bB_v, vpn_b1, vpn_b0, nI_1, Bool.true_eq_false, Bool.false_eq_true, Bool.true_and, Bool.false_and, Bool.and_true, Bool.and_false, hfv, oI, O, n16z, d16 (show k < 2 ^ 31 by omega), r16 (show k < 2 ^ 31 by omega)]
          refine (cx_state C2 c2 (show k % 16 < 16 by omega)).use ?_
          rintro _ h2 ⟨rfl, rfl⟩
          rw [hV]
          simp only [s_X10_step_121, aq_gI, aq_gL, aq_gA, aq_isA, aq_s1, aq_s2, aq_kill, aq_ob, aq_sm, aq_arI, aq_arB, aq_isB, aq_arL, aq_arA, aq_arN, aq_sh, Value.category, List.getElem?_cons_zero, List.getElem?_cons_succ, List.length_cons, List.length_nil, Option.toList_some, Option.toList_none, List.cons_append, List.nil_append, true_and, and_true, List.set_cons_zero, List.set_cons_succ, aq_n1, aq_n2, aq_n3, aq_n4, aq_f1, aq_f2, aq_f3, aq_f4, aq_gs, aq_ty1, aq_ty2, aq_ty3, aq_ty4, aq_ty5, Nat.reduceAdd, Nat.reduceLT, Nat.reduceEqDiff, Nat.reduceSub, if_true, if_false, ne_eq, not_false_eq_true, not_true_eq_false, Option.map_some, Option.map_none, Nat.zero_add, reduceCtorEq, Nat.reduceLeDiff, one_ne_zero_a, zero_ne_one_a, aq_nb, aq_nb1, aq_nb0, aq_fb, aq_fb1, aq_fb0, aq_ofN, bB_t, bB_f, bB_v, vpn_b1, vpn_b0, nI_1, Bool.true_eq_false, Bool.false_eq_true, Bool.true_and, Bool.false_and, Bool.and_true, Bool.and_false, b2, vp_in_nI hv3 (show 2304 < 2 ^ 31 by decide), nI_clamp (show v < 2 ^ 31 by omega), hgo v hv3]
          have hgv : gd v = true ↔ toG (sF w ht wx wy cb Z) (sG Z) (cl c - (at_ + 1)) v := by
            rw [V v]
            constructor
            · rintro ⟨a, y1, y2⟩
              rw [hfv] at y1
              injection y1 with y1
              subst y1
              rcases y2 with ⟨-, y2⟩ | ⟨y2, -⟩ | ⟨y2, -⟩
              · exact y2
              · omega
              · omega
            · exact fun y => ⟨at_ + 1, hfv, Or.inl ⟨by omega, y⟩⟩
          cases hg : gd v with
          | true =>
            simp only [s_X10_step_122, s_X10_step_125, s_X10_step_126, aq_gI, aq_gL, aq_gA, aq_isA, aq_s1, aq_s2, aq_kill, aq_ob, aq_sm, aq_arI, aq_arB, aq_isB, aq_arL, aq_arA, aq_arN, aq_sh, Value.category, List.getElem?_cons_zero, List.getElem?_cons_succ, List.length_cons, List.length_nil, Option.toList_some, Option.toList_none, List.cons_append, List.nil_append, true_and, and_true, List.set_cons_zero, List.set_cons_succ, aq_n1, aq_n2, aq_n3, aq_n4, aq_f1, aq_f2, aq_f3, aq_f4, aq_gs, aq_ty1, aq_ty2, aq_ty3, aq_ty4, aq_ty5, Nat.reduceAdd, Nat.reduceLT, Nat.reduceEqDiff, Nat.reduceSub, if_true, if_false, ne_eq, not_false_eq_true, not_true_eq_false, Option.map_some, Option.map_none, Nat.zero_add, reduceCtorEq, Nat.reduceLeDiff, one_ne_zero_a, zero_ne_one_a, aq_nb, aq_nb1, aq_nb0, aq_fb, aq_fb1, aq_fb0, aq_ofN, bB_t, bB_f, bB_v, vpn_b1, vpn_b0, nI_1, Bool.true_eq_false, Bool.false_eq_true, Bool.true_and, Bool.false_and, Bool.and_true, Bool.and_false]
            exact tail true _ _ ⟨fun _ => ⟨v, hsf2, hgv.mp hg⟩, fun _ => rfl⟩
          | false =>
            simp only [s_X10_step_122, s_X10_step_129, aq_gI, aq_gL, aq_gA, aq_isA, aq_s1, aq_s2, aq_kill, aq_ob, aq_sm, aq_arI, aq_arB, aq_isB, aq_arL, aq_arA, aq_arN, aq_sh, Value.category, List.getElem?_cons_zero, List.getElem?_cons_succ, List.length_cons, List.length_nil, Option.toList_some, Option.toList_none, List.cons_append, List.nil_append, true_and, and_true, List.set_cons_zero, List.set_cons_succ, aq_n1, aq_n2, aq_n3, aq_n4, aq_f1, aq_f2, aq_f3, aq_f4, aq_gs, aq_ty1, aq_ty2, aq_ty3, aq_ty4, aq_ty5, Nat.reduceAdd, Nat.reduceLT, Nat.reduceEqDiff, Nat.reduceSub, if_true, if_false, ne_eq, not_false_eq_true, not_true_eq_false, Option.map_some, Option.map_none, Nat.zero_add, reduceCtorEq, Nat.reduceLeDiff, one_ne_zero_a, zero_ne_one_a, aq_nb, aq_nb1, aq_nb0, aq_fb, aq_fb1, aq_fb0, aq_ofN, bB_t, bB_f, bB_v, vpn_b1, vpn_b0, nI_1, Bool.true_eq_false, Bool.false_eq_true, Bool.true_and, Bool.false_and, Bool.and_true, Bool.and_false]
            refine tail false _ _ ⟨fun z => (by cases z), fun ⟨v', z, y⟩ => ?_⟩
            rw [hsf2] at z
            cases z
            rw [hgv.mpr y] at hg
            exact hg.symm
        · have hfv' : ¬ oI (F v) = nI (at_ + 1) := fun z => hfv ((hoi v (at_ + 1) (by omega)).mp z)
          simp only [s_X10_step_103, s_X10_step_129, aq_gI, aq_gL, aq_gA, aq_isA, aq_s1, aq_s2, aq_kill, aq_ob, aq_sm, aq_arI, aq_arB, aq_isB, aq_arL, aq_arA, aq_arN, aq_sh, Value.category, List.getElem?_cons_zero, List.getElem?_cons_succ, List.length_cons, List.length_nil, Option.toList_some, Option.toList_none, List.cons_append, List.nil_append, true_and, and_true, List.set_cons_zero, List.set_cons_succ, aq_n1, aq_n2, aq_n3, aq_n4, aq_f1, aq_f2, aq_f3, aq_f4, aq_gs, aq_ty1, aq_ty2, aq_ty3, aq_ty4, aq_ty5, Nat.reduceAdd, Nat.reduceLT, Nat.reduceEqDiff, Nat.reduceSub, if_true, if_false, ne_eq, not_false_eq_true, not_true_eq_false, Option.map_some, Option.map_none, Nat.zero_add, reduceCtorEq, Nat.reduceLeDiff, one_ne_zero_a, zero_ne_one_a, aq_nb, aq_nb1, aq_nb0, aq_fb, aq_fb1, aq_fb0, aq_ofN, bB_t, bB_f, bB_v, vpn_b1, vpn_b0, nI_1, Bool.true_eq_false, Bool.false_eq_true, Bool.true_and, Bool.false_and, Bool.and_true, Bool.and_false, hfv']
          refine tail false _ _ ⟨fun z => (by cases z), fun ⟨v', z, y⟩ => ?_⟩
          rw [hsf2] at z
          cases z
          have hR := Rn_s hRk hd4 hsf2
          obtain ⟨m, z1, z2⟩ := LV_some L (show at_ + 1 ≤ cl c by omega) hR
          have := esc_low E (L.1 v m z2).2.2.1 y
          rw [show m = at_ + 1 by omega] at z2
          exact absurd z2 hfv
    · have hf' : ¬ oI (F k) = nI at_ := fun z => hf ((hoi k at_ (by omega)).mp z)
      simp only [s_X10_step_57, aq_gI, aq_gL, aq_gA, aq_isA, aq_s1, aq_s2, aq_kill, aq_ob, aq_sm, aq_arI, aq_arB, aq_isB, aq_arL, aq_arA, aq_arN, aq_sh, Value.category, List.getElem?_cons_zero, List.getElem?_cons_succ, List.length_cons, List.length_nil, Option.toList_some, Option.toList_none, List.cons_append, List.nil_append, true_and, and_true, List.set_cons_zero, List.set_cons_succ, aq_n1, aq_n2, aq_n3, aq_n4, aq_f1, aq_f2, aq_f3, aq_f4, aq_gs, aq_ty1, aq_ty2, aq_ty3, aq_ty4, aq_ty5, Nat.reduceAdd, Nat.reduceLT, Nat.reduceEqDiff, Nat.reduceSub, if_true, if_false, ne_eq, not_false_eq_true, not_true_eq_false, Option.map_some, Option.map_none, Nat.zero_add, reduceCtorEq, Nat.reduceLeDiff, one_ne_zero_a, zero_ne_one_a, aq_nb, aq_nb1, aq_nb0, aq_fb, aq_fb1, aq_fb0, aq_ofN, bB_t, bB_f, bB_v, vpn_b1, vpn_b0, nI_1, Bool.true_eq_false, Bool.false_eq_true, Bool.true_and, Bool.false_and, Bool.and_true, Bool.and_false, hf']
      exact K h2 gd _ _ _ S hFG0 (GV_sk hf V)
theorem sp_k {Q : Option Value → aq_H → Prop} {x1 x2 : Int32} {at_ : Nat} (C : mCx h w ht wx wy cb Z e) (E : ESC (sF w ht wx wy cb Z) (sS Z) (sG Z) (some c)) (L : LV (w * ht * 16) (sF w ht wx wy cb Z) (sS Z) F (cl c)) (hcl : cl c < 2 ^ 30) (hat : at_ < cl c)
    (K : ∀ (h2 : aq_H) (gd : Nat → Bool) (L4 L5 L6 L7 : Option Value), sm 60 60 h h2 → FG h2 F gd → GW (sF w ht wx wy cb Z) (sG Z) F (cl c) gd at_ → aq_W e_X10_step Q 171 [some (.ref 47), some (.int x1), some (.int x2), some (.int (nI at_)), L4, L5, L6, L7] [] h2 0 0) :
    ∀ (j k : Nat), k + j = 2304 → ∀ (h2 : aq_H) (gd : Nat → Bool) (L5 L6 L7 : Option Value), sm 60 60 h h2 → FG h2 F gd → GV (sF w ht wx wy cb Z) (sG Z) F (cl c) gd at_ k 0 → aq_W e_X10_step Q 32 [some (.ref 47), some (.int x1), some (.int x2), some (.int (nI at_)), some (.int (nI k)), L5, L6, L7] [] h2 0 0 := by
  have hn := C.n144
  intro j
  induction j with
  | zero =>
    intro k hk h2 gd L5 L6 L7 S hFG V
    have e4 : k = 2304 := by omega
    subst e4
    have h4 : (2304 : Int32) ≤ nI 2304 := by decide
    rw [s_X10_step_32]
    simp only [s_X10_step_34, s_X10_step_37, aq_gI, aq_gL, aq_gA, aq_isA, aq_s1, aq_s2, aq_kill, aq_ob, aq_sm, aq_arI, aq_arB, aq_isB, aq_arL, aq_arA, aq_arN, aq_sh, Value.category, List.getElem?_cons_zero, List.getElem?_cons_succ, List.length_cons, List.length_nil, Option.toList_some, Option.toList_none, List.cons_append, List.nil_append, true_and, and_true, List.set_cons_zero, List.set_cons_succ, aq_n1, aq_n2, aq_n3, aq_n4, aq_f1, aq_f2, aq_f3, aq_f4, aq_gs, aq_ty1, aq_ty2, aq_ty3, aq_ty4, aq_ty5, Nat.reduceAdd, Nat.reduceLT, Nat.reduceEqDiff, Nat.reduceSub, if_true, if_false, ne_eq, not_false_eq_true, not_true_eq_false, Option.map_some, Option.map_none, Nat.zero_add, reduceCtorEq, Nat.reduceLeDiff, one_ne_zero_a, zero_ne_one_a, aq_nb, aq_nb1, aq_nb0, aq_fb, aq_fb1, aq_fb0, aq_ofN, bB_t, bB_f, bB_v, vpn_b1, vpn_b0, nI_1, Bool.true_eq_false, Bool.false_eq_true, Bool.true_and, Bool.false_and, Bool.and_true, Bool.and_false, h4]
    exact K h2 gd _ _ _ _ S hFG (GV_to (fun s a hs => by have := (L.1 s a hs).1; omega) V)
  | succ j ih =>
    intro k hk h2 gd L5 L6 L7 S hFG V
    have h4 : ¬ (2304 : Int32) ≤ nI k := by rw [show (2304 : Int32) = nI 2304 from rfl]; exact nI_ge (show k < 2304 by omega) (by decide)
    rw [s_X10_step_32]
    simp only [s_X10_step_34, s_X10_step_37, s_X10_step_40, s_X10_step_41, aq_gI, aq_gL, aq_gA, aq_isA, aq_s1, aq_s2, aq_kill, aq_ob, aq_sm, aq_arI, aq_arB, aq_isB, aq_arL, aq_arA, aq_arN, aq_sh, Value.category, List.getElem?_cons_zero, List.getElem?_cons_succ, List.length_cons, List.length_nil, Option.toList_some, Option.toList_none, List.cons_append, List.nil_append, true_and, and_true, List.set_cons_zero, List.set_cons_succ, aq_n1, aq_n2, aq_n3, aq_n4, aq_f1, aq_f2, aq_f3, aq_f4, aq_gs, aq_ty1, aq_ty2, aq_ty3, aq_ty4, aq_ty5, Nat.reduceAdd, Nat.reduceLT, Nat.reduceEqDiff, Nat.reduceSub, if_true, if_false, ne_eq, not_false_eq_true, not_true_eq_false, Option.map_some, Option.map_none, Nat.zero_add, reduceCtorEq, Nat.reduceLeDiff, one_ne_zero_a, zero_ne_one_a, aq_nb, aq_nb1, aq_nb0, aq_fb, aq_fb1, aq_fb0, aq_ofN, bB_t, bB_f, bB_v, vpn_b1, vpn_b0, nI_1, Bool.true_eq_false, Bool.false_eq_true, Bool.true_and, Bool.false_and, Bool.and_true, Bool.and_false, h4]
    rw [← nI_0]
    refine sp_d (h := h) C E L hcl hat (show k < 2304 by omega) ?_ 4 0 rfl h2 gd L6 L7 S hFG V
    intro h3 gd3 L5' L6' L7' S3 hFG3 V3
    simp only [s_X10_step_165, s_X10_step_168, aq_gI, aq_gL, aq_gA, aq_isA, aq_s1, aq_s2, aq_kill, aq_ob, aq_sm, aq_arI, aq_arB, aq_isB, aq_arL, aq_arA, aq_arN, aq_sh, Value.category, List.getElem?_cons_zero, List.getElem?_cons_succ, List.length_cons, List.length_nil, Option.toList_some, Option.toList_none, List.cons_append, List.nil_append, true_and, and_true, List.set_cons_zero, List.set_cons_succ, aq_n1, aq_n2, aq_n3, aq_n4, aq_f1, aq_f2, aq_f3, aq_f4, aq_gs, aq_ty1, aq_ty2, aq_ty3, aq_ty4, aq_ty5, Nat.reduceAdd, Nat.reduceLT, Nat.reduceEqDiff, Nat.reduceSub, if_true, if_false, ne_eq, not_false_eq_true, not_true_eq_false, Option.map_some, Option.map_none, Nat.zero_add, reduceCtorEq, Nat.reduceLeDiff, one_ne_zero_a, zero_ne_one_a, aq_nb, aq_nb1, aq_nb0, aq_fb, aq_fb1, aq_fb0, aq_ofN, bB_t, bB_f, bB_v, vpn_b1, vpn_b0, nI_1, Bool.true_eq_false, Bool.false_eq_true, Bool.true_and, Bool.false_and, Bool.and_true, Bool.and_false]
    exact ih (k + 1) (by omega) h3 gd3 _ _ _ S3 hFG3 V3
theorem sp_a {Q : Option Value → aq_H → Prop} {x1 x2 : Int32} (C : mCx h w ht wx wy cb Z e) (E : ESC (sF w ht wx wy cb Z) (sS Z) (sG Z) (some c)) (L : LV (w * ht * 16) (sF w ht wx wy cb Z) (sS Z) F (cl c)) (hcl : cl c < 2 ^ 30)
    (K : ∀ (h2 : aq_H) (gd : Nat → Bool) (L3 L4 L5 L6 L7 : Option Value), sm 60 60 h h2 → FG h2 F gd → GW (sF w ht wx wy cb Z) (sG Z) F (cl c) gd 0 → aq_W e_X10_step Q 177 [some (.ref 47), some (.int x1), some (.int x2), L3, L4, L5, L6, L7] [] h2 0 0) :
    ∀ (r : Nat), r ≤ cl c → ∀ (h2 : aq_H) (gd : Nat → Bool) (L4 L5 L6 L7 : Option Value), sm 60 60 h h2 → FG h2 F gd → GW (sF w ht wx wy cb Z) (sG Z) F (cl c) gd r → aq_W e_X10_step Q 25 [some (.ref 47), some (.int x1), some (.int x2), some (.int (nI r - 1)), L4, L5, L6, L7] [] h2 0 0 := by
  intro r
  induction r with
  | zero =>
    intro hr h2 gd L4 L5 L6 L7 S hFG V
    have e0 : nI 0 - 1 < 0 := by decide
    rw [s_X10_step_25]
    simp only [s_X10_step_26, aq_gI, aq_gL, aq_gA, aq_isA, aq_s1, aq_s2, aq_kill, aq_ob, aq_sm, aq_arI, aq_arB, aq_isB, aq_arL, aq_arA, aq_arN, aq_sh, Value.category, List.getElem?_cons_zero, List.getElem?_cons_succ, List.length_cons, List.length_nil, Option.toList_some, Option.toList_none, List.cons_append, List.nil_append, true_and, and_true, List.set_cons_zero, List.set_cons_succ, aq_n1, aq_n2, aq_n3, aq_n4, aq_f1, aq_f2, aq_f3, aq_f4, aq_gs, aq_ty1, aq_ty2, aq_ty3, aq_ty4, aq_ty5, Nat.reduceAdd, Nat.reduceLT, Nat.reduceEqDiff, Nat.reduceSub, if_true, if_false, ne_eq, not_false_eq_true, not_true_eq_false, Option.map_some, Option.map_none, Nat.zero_add, reduceCtorEq, Nat.reduceLeDiff, one_ne_zero_a, zero_ne_one_a, aq_nb, aq_nb1, aq_nb0, aq_fb, aq_fb1, aq_fb0, aq_ofN, bB_t, bB_f, bB_v, vpn_b1, vpn_b0, nI_1, Bool.true_eq_false, Bool.false_eq_true, Bool.true_and, Bool.false_and, Bool.and_true, Bool.and_false, e0]
    exact K h2 gd _ _ _ _ _ S hFG V
  | succ r ih =>
    intro hr h2 gd L4 L5 L6 L7 S hFG V
    rw [nI_sm1, s_X10_step_25]
    simp only [s_X10_step_26, s_X10_step_29, s_X10_step_30, aq_gI, aq_gL, aq_gA, aq_isA, aq_s1, aq_s2, aq_kill, aq_ob, aq_sm, aq_arI, aq_arB, aq_isB, aq_arL, aq_arA, aq_arN, aq_sh, Value.category, List.getElem?_cons_zero, List.getElem?_cons_succ, List.length_cons, List.length_nil, Option.toList_some, Option.toList_none, List.cons_append, List.nil_append, true_and, and_true, List.set_cons_zero, List.set_cons_succ, aq_n1, aq_n2, aq_n3, aq_n4, aq_f1, aq_f2, aq_f3, aq_f4, aq_gs, aq_ty1, aq_ty2, aq_ty3, aq_ty4, aq_ty5, Nat.reduceAdd, Nat.reduceLT, Nat.reduceEqDiff, Nat.reduceSub, if_true, if_false, ne_eq, not_false_eq_true, not_true_eq_false, Option.map_some, Option.map_none, Nat.zero_add, reduceCtorEq, Nat.reduceLeDiff, one_ne_zero_a, zero_ne_one_a, aq_nb, aq_nb1, aq_nb0, aq_fb, aq_fb1, aq_fb0, aq_ofN, bB_t, bB_f, bB_v, vpn_b1, vpn_b0, nI_1, Bool.true_eq_false, Bool.false_eq_true, Bool.true_and, Bool.false_and, Bool.and_true, Bool.and_false, nI_pos (show r < 2 ^ 31 by omega)]
    rw [← nI_0]
    refine sp_k (h := h) C E L hcl (show r < cl c by omega) ?_ 2304 0 rfl h2 gd _ _ _ S hFG (GV_of V)
    intro h3 gd3 L4' L5' L6' L7' S3 hFG3 V3
    simp only [s_X10_step_171, s_X10_step_174, aq_gI, aq_gL, aq_gA, aq_isA, aq_s1, aq_s2, aq_kill, aq_ob, aq_sm, aq_arI, aq_arB, aq_isB, aq_arL, aq_arA, aq_arN, aq_sh, Value.category, List.getElem?_cons_zero, List.getElem?_cons_succ, List.length_cons, List.length_nil, Option.toList_some, Option.toList_none, List.cons_append, List.nil_append, true_and, and_true, List.set_cons_zero, List.set_cons_succ, aq_n1, aq_n2, aq_n3, aq_n4, aq_f1, aq_f2, aq_f3, aq_f4, aq_gs, aq_ty1, aq_ty2, aq_ty3, aq_ty4, aq_ty5, Nat.reduceAdd, Nat.reduceLT, Nat.reduceEqDiff, Nat.reduceSub, if_true, if_false, ne_eq, not_false_eq_true, not_true_eq_false, Option.map_some, Option.map_none, Nat.zero_add, reduceCtorEq, Nat.reduceLeDiff, one_ne_zero_a, zero_ne_one_a, aq_nb, aq_nb1, aq_nb0, aq_fb, aq_fb1, aq_fb0, aq_ofN, bB_t, bB_f, bB_v, vpn_b1, vpn_b0, nI_1, Bool.true_eq_false, Bool.false_eq_true, Bool.true_and, Bool.false_and, Bool.and_true, Bool.and_false, nI_am1]
    exact ih (by omega) h3 gd3 _ _ _ _ S3 hFG3 V3
theorem sp_f {Q : Option Value → aq_H → Prop} {x2 : Int32} {ii : Nat} (C : mCx h w ht wx wy cb Z e) (E : ESC (sF w ht wx wy cb Z) (sS Z) (sG Z) (some c)) (L : LV (w * ht * 16) (sF w ht wx wy cb Z) (sS Z) F (cl c)) (hcl : cl c < 2 ^ 30) (hii : ii < cl c) (hFG : FG h F gd) (V : GW (sF w ht wx wy cb Z) (sG Z) F (cl c) gd 0)
    (K : Q (some (.int (nI (dig c ii)))) h) :
    ∀ (j at_ : Nat), at_ + j = ii + 1 → ∀ (s : Nat) (last : Int32) (L6 L7 : Option Value), wC (sF w ht wx wy cb Z) (sS Z) (pr c at_) = some s → (at_ = ii + 1 → last = nI (dig c ii)) → aq_W e_X10_step Q 193 [some (.ref 47), some (.int (nI ii)), some (.int x2), some (.int (nI s)), some (.int last), some (.int (nI at_)), L6, L7] [] h 0 0 := by
  have hn := C.n144
  have hF2 : ∀ s m, F s = some m → m < 2 ^ 31 := fun s m hm => by have := (L.1 s m hm).2.1; omega
  obtain ⟨wr, thr, rt, ci, pl, hd', sg, O⟩ := C.ob
  unfold mOb at O
  obtain ⟨fa, go, b1, b2, hF, hgo⟩ := hFG
  intro j
  induction j with
  | zero =>
    intro at_ hat s last L6 L7 hw hl
    have e1 : at_ = ii + 1 := by omega
    subst e1
    rw [s_X10_step_193]
    simp only [s_X10_step_195, s_X10_step_196, s_X10_step_307, s_X10_step_309, aq_gI, aq_gL, aq_gA, aq_isA, aq_s1, aq_s2, aq_kill, aq_ob, aq_sm, aq_arI, aq_arB, aq_isB, aq_arL, aq_arA, aq_arN, aq_sh, Value.category, List.getElem?_cons_zero, List.getElem?_cons_succ, List.length_cons, List.length_nil, Option.toList_some, Option.toList_none, List.cons_append, List.nil_append, true_and, and_true, List.set_cons_zero, List.set_cons_succ, aq_n1, aq_n2, aq_n3, aq_n4, aq_f1, aq_f2, aq_f3, aq_f4, aq_gs, aq_ty1, aq_ty2, aq_ty3, aq_ty4, aq_ty5, Nat.reduceAdd, Nat.reduceLT, Nat.reduceEqDiff, Nat.reduceSub, if_true, if_false, ne_eq, not_false_eq_true, not_true_eq_false, Option.map_some, Option.map_none, Nat.zero_add, reduceCtorEq, Nat.reduceLeDiff, one_ne_zero_a, zero_ne_one_a, aq_nb, aq_nb1, aq_nb0, aq_fb, aq_fb1, aq_fb0, aq_ofN, bB_t, bB_f, bB_v, vpn_b1, vpn_b0, nI_1, Bool.true_eq_false, Bool.false_eq_true, Bool.true_and, Bool.false_and, Bool.and_true, Bool.and_false, nI_lt (show ii < ii + 1 by omega) (show ii + 1 < 2 ^ 31 by omega), hl rfl]
    exact K
  | succ j ih =>
    intro at_ hat s last L6 L7 hw hl
    have hac : at_ < cl c := by omega
    obtain ⟨s', w1, w2⟩ := esc_pre E at_ (by omega)
    have hss : s' = s := by rw [hw] at w1; injection w1 with w1; exact w1.symm
    rw [hss] at w2
    have hFs := esc_far E L (show at_ ≤ cl c by omega) hw w2
    have hsN := (L.1 s at_ hFs).1
    obtain ⟨v, v1, v2⟩ := esc_pre E (at_ + 1) (by omega)
    have hFv := esc_far E L (show at_ + 1 ≤ cl c by omega) v1 v2
    have hvN := (L.1 v _ hFv).1
    have hdg := dig_lt c at_
    rw [pr_s hac, wC_s _ _ _ hdg, hw] at v1
    have v1' : sF w ht wx wy cb Z s (dig c at_) = some v := v1
    have hsf : ∀ d, sF w ht wx wy cb Z s d = (stf w ht wx wy cb Z.1 Z.2.1 Z.2.2.1 (s / 16) d (nI (s % 16))).map (fun c => 16 * c + (s % 16 ||| kmm Z.2.2.2.1 c)) := fun d => rfl
    have wh : ∀ (t d : Nat), d + t = dig c at_ → aq_W e_X10_step Q 218 [some (.ref 47), some (.int (nI ii)), some (.int x2), some (.int (nI s)), some (.int last), some (.int (nI at_)), some (.int (nI d)), some (.int (oI (stf w ht wx wy cb Z.1 Z.2.1 Z.2.2.1 (s / 16) d (nI (s % 16)))))] [] h 0 0 := by
      intro t
      induction t with
      | zero =>
        intro d hd
        have ed : d = dig c at_ := by omega
        rw [← ed, hsf] at v1'
        cases hx : stf w ht wx wy cb Z.1 Z.2.1 Z.2.2.1 (s / 16) d (nI (s % 16)) with
        | none => rw [hx] at v1'; cases v1'
        | some c2 =>
          rw [hx] at v1'
          have hV : 16 * c2 + (s % 16 ||| kmm Z.2.2.2.1 c2) = v := by injection v1'
          have hc := stf_lt C.bd (show s / 16 < w * ht by omega) (by omega) hx
          have hgv : gd v = true := (V v).mpr ⟨_, hFv, Nat.zero_le _, v2⟩
          rw [s_X10_step_218]
          simp only [oI, s_X10_step_220, s_X10_step_221, s_X10_step_224, s_X10_step_225, s_X10_step_228, s_X10_step_229, s_X10_step_231, s_X10_step_232, s_X10_step_234, s_X10_step_235, aq_gI, aq_gL, aq_gA, aq_isA, aq_s1, aq_s2, aq_kill, aq_ob, aq_sm, aq_arI, aq_arB, aq_isB, aq_arL, aq_arA, aq_arN, aq_sh, Value.category, List.getElem?_cons_zero, List.getElem?_cons_succ, List.length_cons, List.length_nil, Option.toList_some, Option.toList_none, List.cons_append, List.nil_append, true_and, and_true, List.set_cons_zero, List.set_cons_succ, aq_n1, aq_n2, aq_n3, aq_n4, aq_f1, aq_f2, aq_f3, aq_f4, aq_gs, aq_ty1, aq_ty2, aq_ty3, aq_ty4, aq_ty5, Nat.reduceAdd, Nat.reduceLT, Nat.reduceEqDiff, Nat.reduceSub, if_true, if_false, ne_eq, not_false_eq_true, not_true_eq_false, Option.map_some, Option.map_none, Nat.zero_add, reduceCtorEq, Nat.reduceLeDiff, one_ne_zero_a, zero_ne_one_a, aq_nb, aq_nb1, aq_nb0, aq_fb, aq_fb1, aq_fb0, aq_ofN, bB_t, bB_f, bB_v, vpn_b1, vpn_b0, nI_1, Bool.true_eq_false, Bool.false_eq_true, Bool.true_and, Bool.false_and, Bool.and_true, Bool.and_false, O, nI_ne_m1 (show c2 < 2 ^ 31 by omega), n16z, d16 (show s < 2 ^ 31 by omega), r16 (show s < 2 ^ 31 by omega)]
          refine (cx_state C c2 (show s % 16 < 16 by omega)).use ?_
          rintro _ h ⟨rfl, rfl⟩
          rw [hV]
          simp only [s_X10_step_238, s_X10_step_239, s_X10_step_241, s_X10_step_242, s_X10_step_243, s_X10_step_246, s_X10_step_247, s_X10_step_250, s_X10_step_251, s_X10_step_253, s_X10_step_254, s_X10_step_256, s_X10_step_257, aq_gI, aq_gL, aq_gA, aq_isA, aq_s1, aq_s2, aq_kill, aq_ob, aq_sm, aq_arI, aq_arB, aq_isB, aq_arL, aq_arA, aq_arN, aq_sh, Value.category, List.getElem?_cons_zero, List.getElem?_cons_succ, List.length_cons, List.length_nil, Option.toList_some, Option.toList_none, List.cons_append, List.nil_append, true_and, and_true, List.set_cons_zero, List.set_cons_succ, aq_n1, aq_n2, aq_n3, aq_n4, aq_f1, aq_f2, aq_f3, aq_f4, aq_gs, aq_ty1, aq_ty2, aq_ty3, aq_ty4, aq_ty5, Nat.reduceAdd, Nat.reduceLT, Nat.reduceEqDiff, Nat.reduceSub, if_true, if_false, ne_eq, not_false_eq_true, not_true_eq_false, Option.map_some, Option.map_none, Nat.zero_add, reduceCtorEq, Nat.reduceLeDiff, one_ne_zero_a, zero_ne_one_a, aq_nb, aq_nb1, aq_nb0, aq_fb, aq_fb1, aq_fb0, aq_ofN, bB_t, bB_f, bB_v, vpn_b1, vpn_b0, nI_1, Bool.true_eq_false, Bool.false_eq_true, Bool.true_and, Bool.false_and, Bool.and_true, Bool.and_false, O, b1, vp_in_nI (show v < 2304 by omega) (show 2304 < 2 ^ 31 by decide), nI_clamp (show v < 2 ^ 31 by omega), hF v (show v < 2304 by omega), hFv, oI, n16z, d16 (show s < 2 ^ 31 by omega), r16 (show s < 2 ^ 31 by omega)]
          refine (cx_state C c2 (show s % 16 < 16 by omega)).use ?_
          rintro _ h ⟨rfl, rfl⟩
          rw [hV]
          simp only [s_X10_step_260, s_X10_step_261, s_X10_step_286, s_X10_step_288, s_X10_step_290, s_X10_step_291, s_X10_step_293, s_X10_step_294, s_X10_step_296, s_X10_step_297, aq_gI, aq_gL, aq_gA, aq_isA, aq_s1, aq_s2, aq_kill, aq_ob, aq_sm, aq_arI, aq_arB, aq_isB, aq_arL, aq_arA, aq_arN, aq_sh, Value.category, List.getElem?_cons_zero, List.getElem?_cons_succ, List.length_cons, List.length_nil, Option.toList_some, Option.toList_none, List.cons_append, List.nil_append, true_and, and_true, List.set_cons_zero, List.set_cons_succ, aq_n1, aq_n2, aq_n3, aq_n4, aq_f1, aq_f2, aq_f3, aq_f4, aq_gs, aq_ty1, aq_ty2, aq_ty3, aq_ty4, aq_ty5, Nat.reduceAdd, Nat.reduceLT, Nat.reduceEqDiff, Nat.reduceSub, if_true, if_false, ne_eq, not_false_eq_true, not_true_eq_false, Option.map_some, Option.map_none, Nat.zero_add, reduceCtorEq, Nat.reduceLeDiff, one_ne_zero_a, zero_ne_one_a, aq_nb, aq_nb1, aq_nb0, aq_fb, aq_fb1, aq_fb0, aq_ofN, bB_t, bB_f, bB_v, vpn_b1, vpn_b0, nI_1, Bool.true_eq_false, Bool.false_eq_true, Bool.true_and, Bool.false_and, Bool.and_true, Bool.and_false, O, b2, vp_in_nI (show v < 2304 by omega) (show 2304 < 2 ^ 31 by decide), nI_clamp (show v < 2 ^ 31 by omega), hgo v (show v < 2304 by omega), hgv, n16z, d16 (show s < 2 ^ 31 by omega), r16 (show s < 2 ^ 31 by omega)]
          refine (cx_state C c2 (show s % 16 < 16 by omega)).use ?_
          rintro _ h ⟨rfl, rfl⟩
          rw [hV]
          simp only [s_X10_step_300, s_X10_step_301, s_X10_step_304, aq_gI, aq_gL, aq_gA, aq_isA, aq_s1, aq_s2, aq_kill, aq_ob, aq_sm, aq_arI, aq_arB, aq_isB, aq_arL, aq_arA, aq_arN, aq_sh, Value.category, List.getElem?_cons_zero, List.getElem?_cons_succ, List.length_cons, List.length_nil, Option.toList_some, Option.toList_none, List.cons_append, List.nil_append, true_and, and_true, List.set_cons_zero, List.set_cons_succ, aq_n1, aq_n2, aq_n3, aq_n4, aq_f1, aq_f2, aq_f3, aq_f4, aq_gs, aq_ty1, aq_ty2, aq_ty3, aq_ty4, aq_ty5, Nat.reduceAdd, Nat.reduceLT, Nat.reduceEqDiff, Nat.reduceSub, if_true, if_false, ne_eq, not_false_eq_true, not_true_eq_false, Option.map_some, Option.map_none, Nat.zero_add, reduceCtorEq, Nat.reduceLeDiff, one_ne_zero_a, zero_ne_one_a, aq_nb, aq_nb1, aq_nb0, aq_fb, aq_fb1, aq_fb0, aq_ofN, bB_t, bB_f, bB_v, vpn_b1, vpn_b0, nI_1, Bool.true_eq_false, Bool.false_eq_true, Bool.true_and, Bool.false_and, Bool.and_true, Bool.and_false]
          refine ih (at_ + 1) (by omega) v _ _ _ ?_ (fun z => ?_)
          · rw [pr_s hac, wC_s _ _ _ hdg, hw]; exact v1
          · rw [ed, show at_ = ii by omega]
      | succ t ih2 =>
        intro d hd
        have hd4 : d + 1 < 4 := by omega
        have tail : ∀ (L7 : Option Value), aq_W e_X10_step Q 264 [some (.ref 47), some (.int (nI ii)), some (.int x2), some (.int (nI s)), some (.int last), some (.int (nI at_)), some (.int (nI d)), L7] [] h 0 0 := by
          intro L7
          simp only [s_X10_step_264, s_X10_step_267, s_X10_step_268, s_X10_step_269, s_X10_step_271, s_X10_step_272, s_X10_step_274, s_X10_step_275, s_X10_step_277, s_X10_step_278, aq_gI, aq_gL, aq_gA, aq_isA, aq_s1, aq_s2, aq_kill, aq_ob, aq_sm, aq_arI, aq_arB, aq_isB, aq_arL, aq_arA, aq_arN, aq_sh, Value.category, List.getElem?_cons_zero, List.getElem?_cons_succ, List.length_cons, List.length_nil, Option.toList_some, Option.toList_none, List.cons_append, List.nil_append, true_and, and_true, List.set_cons_zero, List.set_cons_succ, aq_n1, aq_n2, aq_n3, aq_n4, aq_f1, aq_f2, aq_f3, aq_f4, aq_gs, aq_ty1, aq_ty2, aq_ty3, aq_ty4, aq_ty5, Nat.reduceAdd, Nat.reduceLT, Nat.reduceEqDiff, Nat.reduceSub, if_true, if_false, ne_eq, not_false_eq_true, not_true_eq_false, Option.map_some, Option.map_none, Nat.zero_add, reduceCtorEq, Nat.reduceLeDiff, one_ne_zero_a, zero_ne_one_a, aq_nb, aq_nb1, aq_nb0, aq_fb, aq_fb1, aq_fb0, aq_ofN, bB_t, bB_f, bB_v, vpn_b1, vpn_b0, nI_1, Bool.true_eq_false, Bool.false_eq_true, Bool.true_and, Bool.false_and, Bool.and_true, Bool.and_false, O, n16z, d16 (show s < 2 ^ 31 by omega), r16 (show s < 2 ^ 31 by omega)]
          refine (cx_step C hsN (nI (d + 1))).use ?_
          rintro _ h ⟨rfl, rfl⟩
          rw [inC_nI hd4 (by decide), if_pos rfl, nI_clamp (show d + 1 < 2 ^ 31 by omega)]
          simp only [s_X10_step_281, s_X10_step_283, aq_gI, aq_gL, aq_gA, aq_isA, aq_s1, aq_s2, aq_kill, aq_ob, aq_sm, aq_arI, aq_arB, aq_isB, aq_arL, aq_arA, aq_arN, aq_sh, Value.category, List.getElem?_cons_zero, List.getElem?_cons_succ, List.length_cons, List.length_nil, Option.toList_some, Option.toList_none, List.cons_append, List.nil_append, true_and, and_true, List.set_cons_zero, List.set_cons_succ, aq_n1, aq_n2, aq_n3, aq_n4, aq_f1, aq_f2, aq_f3, aq_f4, aq_gs, aq_ty1, aq_ty2, aq_ty3, aq_ty4, aq_ty5, Nat.reduceAdd, Nat.reduceLT, Nat.reduceEqDiff, Nat.reduceSub, if_true, if_false, ne_eq, not_false_eq_true, not_true_eq_false, Option.map_some, Option.map_none, Nat.zero_add, reduceCtorEq, Nat.reduceLeDiff, one_ne_zero_a, zero_ne_one_a, aq_nb, aq_nb1, aq_nb0, aq_fb, aq_fb1, aq_fb0, aq_ofN, bB_t, bB_f, bB_v, vpn_b1, vpn_b0, nI_1, Bool.true_eq_false, Bool.false_eq_true, Bool.true_and, Bool.false_and, Bool.and_true, Bool.and_false]
          exact ih2 (d + 1) (by omega)
        rw [s_X10_step_218]
        cases hx : stf w ht wx wy cb Z.1 Z.2.1 Z.2.2.1 (s / 16) d (nI (s % 16)) with
        | none =>
          simp only [oI, s_X10_step_220, s_X10_step_221, aq_gI, aq_gL, aq_gA, aq_isA, aq_s1, aq_s2, aq_kill, aq_ob, aq_sm, aq_arI, aq_arB, aq_isB, aq_arL, aq_arA, aq_arN, aq_sh, Value.category, List.getElem?_cons_zero, List.getElem?_cons_succ, List.length_cons, List.length_nil, Option.toList_some, Option.toList_none, List.cons_append, List.nil_append, true_and, and_true, List.set_cons_zero, List.set_cons_succ, aq_n1, aq_n2, aq_n3, aq_n4, aq_f1, aq_f2, aq_f3, aq_f4, aq_gs, aq_ty1, aq_ty2, aq_ty3, aq_ty4, aq_ty5, Nat.reduceAdd, Nat.reduceLT, Nat.reduceEqDiff, Nat.reduceSub, if_true, if_false, ne_eq, not_false_eq_true, not_true_eq_false, Option.map_some, Option.map_none, Nat.zero_add, reduceCtorEq, Nat.reduceLeDiff, one_ne_zero_a, zero_ne_one_a, aq_nb, aq_nb1, aq_nb0, aq_fb, aq_fb1, aq_fb0, aq_ofN, bB_t, bB_f, bB_v, vpn_b1, vpn_b0, nI_1, Bool.true_eq_false, Bool.false_eq_true, Bool.true_and, Bool.false_and, Bool.and_true, Bool.and_false]
          exact tail _
        | some c2 =>
          have hc := stf_lt C.bd (show s / 16 < w * ht by omega) (show d < 4 by omega) hx
          have hor := or16 (s % 16) (by omega) _ (kmm_lt Z.2.2.2.1 c2)
          have hsf2 := hsf d
          rw [hx] at hsf2
          simp only [oI, s_X10_step_220, s_X10_step_221, s_X10_step_224, s_X10_step_225, s_X10_step_228, s_X10_step_229, s_X10_step_231, s_X10_step_232, s_X10_step_234, s_X10_step_235, aq_gI, aq_gL, aq_gA, aq_isA, aq_s1, aq_s2, aq_kill, aq_ob, aq_sm, aq_arI, aq_arB, aq_isB, aq_arL, aq_arA, aq_arN, aq_sh, Value.category, List.getElem?_cons_zero, List.getElem?_cons_succ, List.length_cons, List.length_nil, Option.toList_some, Option.toList_none, List.cons_append, List.nil_append, true_and, and_true, List.set_cons_zero, List.set_cons_succ, aq_n1, aq_n2, aq_n3, aq_n4, aq_f1, aq_f2, aq_f3, aq_f4, aq_gs, aq_ty1, aq_ty2, aq_ty3, aq_ty4, aq_ty5, Nat.reduceAdd, Nat.reduceLT, Nat.reduceEqDiff, Nat.reduceSub, if_true, if_false, ne_eq, not_false_eq_true, not_true_eq_false, Option.map_some, Option.map_none, Nat.zero_add, reduceCtorEq, Nat.reduceLeDiff, one_ne_zero_a, zero_ne_one_a, aq_nb, aq_nb1, aq_nb0, aq_fb, aq_fb1, aq_fb0, aq_ofN, bB_t, bB_f, bB_v, vpn_b1, vpn_b0, nI_1, Bool.true_eq_false, Bool.false_eq_true, Bool.true_and, Bool.false_and, Bool.and_true, Bool.and_false, O, nI_ne_m1 (show c2 < 2 ^ 31 by omega), n16z, d16 (show s < 2 ^ 31 by omega), r16 (show s < 2 ^ 31 by omega)]
          refine (cx_state C c2 (show s % 16 < 16 by omega)).use ?_
          rintro _ h ⟨rfl, rfl⟩
          have hvN2 : 16 * c2 + (s % 16 ||| kmm Z.2.2.2.1 c2) < w * ht * 16 := by omega
          generalize hV : 16 * c2 + (s % 16 ||| kmm Z.2.2.2.1 c2) = u at hvN2
          have hsf3 : sF w ht wx wy cb Z s d = some u := by rw [hsf2, ← hV]; rfl
          simp only [s_X10_step_238, s_X10_step_239, s_X10_step_241, s_X10_step_242, aq_gI, aq_gL, aq_gA, aq_isA, aq_s1, aq_s2, aq_kill, aq_ob, aq_sm, aq_arI, aq_arB, aq_isB, aq_arL, aq_arA, aq_arN, aq_sh, Value.category, List.getElem?_cons_zero, List.getElem?_cons_succ, List.length_cons, List.length_nil, Option.toList_some, Option.toList_none, List.cons_append, List.nil_append, true_and, and_true, List.set_cons_zero, List.set_cons_succ, aq_n1, aq_n2, aq_n3, aq_n4, aq_f1, aq_f2, aq_f3, aq_f4, aq_gs, aq_ty1, aq_ty2, aq_ty3, aq_ty4, aq_ty5, Nat.reduceAdd, Nat.reduceLT, Nat.reduceEqDiff, Nat.reduceSub, if_true, if_false, ne_eq, not_false_eq_true, not_true_eq_false, Option.map_some, Option.map_none, Nat.zero_add, reduceCtorEq, Nat.reduceLeDiff, one_ne_zero_a, zero_ne_one_a, aq_nb, aq_nb1, aq_nb0, aq_fb, aq_fb1, aq_fb0, aq_ofN, bB_t, bB_f, bB_v, vpn_b1, vpn_b0, nI_1, Bool.true_eq_false, Bool.false_eq_true, Bool.true_and, Bool.false_and, Bool.and_true, Bool.and_false, b1, vp_in_nI (show u < 2304 by omega) (show 2304 < 2 ^ 31 by decide), nI_clamp (show u < 2 ^ 31 by omega), hF u (show u < 2304 by omega)]
          by_cases hfu : F u = some (at_ + 1)
          · simp only [s_X10_step_243, s_X10_step_246, s_X10_step_247, s_X10_step_250, s_X10_step_251, s_X10_step_253, s_X10_step_254, s_X10_step_256, s_X10_step_257, aq_gI, aq_gL, aq_gA, aq_isA, aq_s1, aq_s2, aq_kill, aq_ob, aq_sm, aq_arI, aq_arB, aq_isB, aq_arL, aq_arA, aq_arN, aq_sh, Value.category, List.getElem?_cons_zero, List.getElem?_cons_succ, List.length_cons, List.length_nil, Option.toList_some, Option.toList_none, List.cons_append, List.nil_append, true_and, and_true, List.set_cons_zero, List.set_cons_succ, aq_n1, aq_n2, aq_n3, aq_n4, aq_f1, aq_f2, aq_f3, aq_f4, aq_gs, aq_ty1, aq_ty2, aq_ty3, aq_ty4, aq_ty5, Nat.reduceAdd, Nat.reduceLT, Nat.reduceEqDiff, Nat.reduceSub, if_true, if_false, ne_eq, not_false_eq_true, not_true_eq_false, Option.map_some, Option.map_none, Nat.zero_add, reduceCtorEq, Nat.reduceLeDiff, one_ne_zero_a, zero_ne_one_a, aq_nb, aq_nb1, aq_nb0, aq_fb, aq_fb1, aq_fb0, aq_ofN, bB_t, bB_f, bB_v, vpn_b1, vpn_b0, nI_1, Bool.true_eq_false, Bool.false_eq_true, Bool.true_and, Bool.false_and, Bool.and_true, Bool.and_false, O, hfu, oI, n16z, d16 (show s < 2 ^ 31 by omega), r16 (show s < 2 ^ 31 by omega)]
            refine (cx_state C c2 (show s % 16 < 16 by omega)).use ?_
            rintro _ h ⟨rfl, rfl⟩
            rw [hV]
            have hgu : gd u = false := by
              cases hg : gd u with
              | false => rfl
              | true =>
                obtain ⟨a, y1, -, y3⟩ := (V u).mp hg
                rw [hfu] at y1
                injection y1 with y1
                rw [← y1] at y3
                exact absurd y3 (esc_dig E hac hw (by omega) hsf3)
            simp only [s_X10_step_260, s_X10_step_261, aq_gI, aq_gL, aq_gA, aq_isA, aq_s1, aq_s2, aq_kill, aq_ob, aq_sm, aq_arI, aq_arB, aq_isB, aq_arL, aq_arA, aq_arN, aq_sh, Value.category, List.getElem?_cons_zero, List.getElem?_cons_succ, List.length_cons, List.length_nil, Option.toList_some, Option.toList_none, List.cons_append, List.nil_append, true_and, and_true, List.set_cons_zero, List.set_cons_succ, aq_n1, aq_n2, aq_n3, aq_n4, aq_f1, aq_f2, aq_f3, aq_f4, aq_gs, aq_ty1, aq_ty2, aq_ty3, aq_ty4, aq_ty5, Nat.reduceAdd, Nat.reduceLT, Nat.reduceEqDiff, Nat.reduceSub, if_true, if_false, ne_eq, not_false_eq_true, not_true_eq_false, Option.map_some, Option.map_none, Nat.zero_add, reduceCtorEq, Nat.reduceLeDiff, one_ne_zero_a, zero_ne_one_a, aq_nb, aq_nb1, aq_nb0, aq_fb, aq_fb1, aq_fb0, aq_ofN, bB_t, bB_f, bB_v, vpn_b1, vpn_b0, nI_1, Bool.true_eq_false, Bool.false_eq_true, Bool.true_and, Bool.false_and, Bool.and_true, Bool.and_false, b2, vp_in_nI (show u < 2304 by omega) (show 2304 < 2 ^ 31 by decide), nI_clamp (show u < 2 ^ 31 by omega), hgo u (show u < 2304 by omega), hgu]
            exact tail _
          · have hfu' : ¬ oI (F u) = nI (at_ + 1) := fun z => hfu ((oI_inj (a := F u) (b := some (at_ + 1)) (hF2 _) (fun m' hm' => by cases hm'; omega)).mp z)
            simp only [s_X10_step_243, aq_gI, aq_gL, aq_gA, aq_isA, aq_s1, aq_s2, aq_kill, aq_ob, aq_sm, aq_arI, aq_arB, aq_isB, aq_arL, aq_arA, aq_arN, aq_sh, Value.category, List.getElem?_cons_zero, List.getElem?_cons_succ, List.length_cons, List.length_nil, Option.toList_some, Option.toList_none, List.cons_append, List.nil_append, true_and, and_true, List.set_cons_zero, List.set_cons_succ, aq_n1, aq_n2, aq_n3, aq_n4, aq_f1, aq_f2, aq_f3, aq_f4, aq_gs, aq_ty1, aq_ty2, aq_ty3, aq_ty4, aq_ty5, Nat.reduceAdd, Nat.reduceLT, Nat.reduceEqDiff, Nat.reduceSub, if_true, if_false, ne_eq, not_false_eq_true, not_true_eq_false, Option.map_some, Option.map_none, Nat.zero_add, reduceCtorEq, Nat.reduceLeDiff, one_ne_zero_a, zero_ne_one_a, aq_nb, aq_nb1, aq_nb0, aq_fb, aq_fb1, aq_fb0, aq_ofN, bB_t, bB_f, bB_v, vpn_b1, vpn_b0, nI_1, Bool.true_eq_false, Bool.false_eq_true, Bool.true_and, Bool.false_and, Bool.and_true, Bool.and_false, hfu']
            exact tail _
    rw [s_X10_step_193]
    simp only [s_X10_step_195, s_X10_step_196, s_X10_step_199, s_X10_step_200, s_X10_step_202, s_X10_step_203, s_X10_step_204, s_X10_step_206, s_X10_step_207, s_X10_step_209, s_X10_step_210, s_X10_step_212, s_X10_step_213, aq_gI, aq_gL, aq_gA, aq_isA, aq_s1, aq_s2, aq_kill, aq_ob, aq_sm, aq_arI, aq_arB, aq_isB, aq_arL, aq_arA, aq_arN, aq_sh, Value.category, List.getElem?_cons_zero, List.getElem?_cons_succ, List.length_cons, List.length_nil, Option.toList_some, Option.toList_none, List.cons_append, List.nil_append, true_and, and_true, List.set_cons_zero, List.set_cons_succ, aq_n1, aq_n2, aq_n3, aq_n4, aq_f1, aq_f2, aq_f3, aq_f4, aq_gs, aq_ty1, aq_ty2, aq_ty3, aq_ty4, aq_ty5, Nat.reduceAdd, Nat.reduceLT, Nat.reduceEqDiff, Nat.reduceSub, if_true, if_false, ne_eq, not_false_eq_true, not_true_eq_false, Option.map_some, Option.map_none, Nat.zero_add, reduceCtorEq, Nat.reduceLeDiff, one_ne_zero_a, zero_ne_one_a, aq_nb, aq_nb1, aq_nb0, aq_fb, aq_fb1, aq_fb0, aq_ofN, bB_t, bB_f, bB_v, vpn_b1, vpn_b0, nI_1, Bool.true_eq_false, Bool.false_eq_true, Bool.true_and, Bool.false_and, Bool.and_true, Bool.and_false, O, nI_nlt (show at_ ≤ ii by omega) (show ii < 2 ^ 31 by omega), n16z, d16 (show s < 2 ^ 31 by omega), r16 (show s < 2 ^ 31 by omega)]
    rw [← nI_0]
    refine (cx_step C hsN (nI 0)).use ?_
    rintro _ h ⟨rfl, rfl⟩
    rw [inC_nI (show 0 < 4 by decide) (by decide), if_pos rfl, nI_clamp (show 0 < 2 ^ 31 by decide)]
    simp only [s_X10_step_216, aq_gI, aq_gL, aq_gA, aq_isA, aq_s1, aq_s2, aq_kill, aq_ob, aq_sm, aq_arI, aq_arB, aq_isB, aq_arL, aq_arA, aq_arN, aq_sh, Value.category, List.getElem?_cons_zero, List.getElem?_cons_succ, List.length_cons, List.length_nil, Option.toList_some, Option.toList_none, List.cons_append, List.nil_append, true_and, and_true, List.set_cons_zero, List.set_cons_succ, aq_n1, aq_n2, aq_n3, aq_n4, aq_f1, aq_f2, aq_f3, aq_f4, aq_gs, aq_ty1, aq_ty2, aq_ty3, aq_ty4, aq_ty5, Nat.reduceAdd, Nat.reduceLT, Nat.reduceEqDiff, Nat.reduceSub, if_true, if_false, ne_eq, not_false_eq_true, not_true_eq_false, Option.map_some, Option.map_none, Nat.zero_add, reduceCtorEq, Nat.reduceLeDiff, one_ne_zero_a, zero_ne_one_a, aq_nb, aq_nb1, aq_nb0, aq_fb, aq_fb1, aq_fb0, aq_ofN, bB_t, bB_f, bB_v, vpn_b1, vpn_b0, nI_1, Bool.true_eq_false, Bool.false_eq_true, Bool.true_and, Bool.false_and, Bool.and_true, Bool.and_false]
    exact wh (dig c at_) 0 (Nat.zero_add _)
end MST
