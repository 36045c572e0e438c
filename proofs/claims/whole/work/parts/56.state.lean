/-! the desk's state as a whole -/
def iTc (h : aq_H) (n : Nat) (ro : Nat → Int32) (mx : Nat → Nat → Int64) : Prop :=
  h[13]? = some (.inr (7, [.ref 1, .ref 14, .ref 15])) ∧ h[14]? = some (.inl (.int, n, .inl ro)) ∧ h[15]? = some (.inl (.array .long, 16, .inr (.inr (.inr (.inr (fun j => some (16 + j))))))) ∧ ∀ i, i < 16 → h[16 + i]? = some (.inl (.long, 16, .inr (.inl (mx i))))
def iFl (h : aq_H) (n : Nat) (re qu : Nat → Int32) (ct : Int32) : Prop :=
  h[37]? = some (.inr (1, [.ref 1, .ref 32, .ref 38, .ref 39, .int ct])) ∧ h[38]? = some (.inl (.boolean, n, .inl re)) ∧ h[39]? = some (.inl (.int, n, .inl qu))
def iKp (h : aq_H) : Prop := h[40]? = some (.inr (2, [.ref 1, .ref 32, .ref 37]))
def iRt (h : aq_H) (n : Nat) (cf cy qu : Nat → Int32) (qd ls sc kn : Int32) : Prop :=
  h[41]? = some (.inr (5, [.ref 32, .ref 42, .ref 43, .ref 44, .int qd, .int ls, .int sc, .int kn])) ∧ h[42]? = some (.inl (.int, n * 16, .inl cf)) ∧ h[43]? = some (.inl (.int, n * 16, .inl cy)) ∧ h[44]? = some (.inl (.int, n * 16, .inl qu))
def iPc (h : aq_H) : Prop := h[46]? = some (.inr (4, [.ref 1, .ref 32]))
/-- tops, pops, circles, root of the drawing -/
abbrev drT : Type := (Nat → Option Nat) × (Nat → Nat) × Nat × Nat
/-- free, doors, one-ways by passage; keys; start; exit -/
abbrev mzT : Type := (Nat → Bool) × (Nat → Option Nat) × (Nat → Option Nat) × (Nat → Option Nat) × Nat × Option Nat
/-- the player: cell, keys, steps -/
abbrev plT : Type := Nat × Nat × Nat
def cBd (h : aq_H) (w ht : Nat) (wx wy : Bool) (cb : Nat → Bool) : Prop := ∃ cut bes lead pas fr, iBd h w ht cut bes lead pas fr ∧ gBd w ht wx wy cb cut bes lead pas fr
def cSt (h : aq_H) (n : Nat) (cb : Nat → Bool) (hm : Bool) (D : drT) : Prop := ∃ ways wc xs tops pops marks ci, iSt h n ways wc xs tops pops marks ci ∧ (hm = true → (∀ c, c < n → cb c = false → tops c = oI (D.1 c) ∧ pops c = nI (D.2.1 c)) ∧ ci = nI D.2.2.1)
def cTc (h : aq_H) (n : Nat) : Prop := ∃ ro mx, iTc h n ro mx
def cMz (h : aq_H) (N : Nat) (hm : Bool) (Z : mzT) (ch : Nat) : Prop := ∃ op dk od kc st ex, iMz h N op dk od kc st ex (nI ch) ∧ (hm = true → gMz N Z.1 Z.2.1 Z.2.2.1 Z.2.2.2.1 op dk od kc ∧ st = nI Z.2.2.2.2.1 ∧ ex = oI Z.2.2.2.2.2)
def cFl (h : aq_H) (n : Nat) : Prop := ∃ re qu ct, iFl h n re qu ct
def cRt (h : aq_H) (n ch : Nat) (hm : Bool) (V : Int32 → (Nat → Int32) → (Nat → Int32) → Int32 → Prop) : Prop := ∃ cf cy qu qd ls sc kn, iRt h n cf cy qu qd ls sc kn ∧ (kn = -1 ∨ ∃ k, k ≤ ch ∧ kn = nI k ∧ (k = ch → hm = true → V sc cf cy ls))
def cWk (h : aq_H) (hm : Bool) (P : plT) : Prop := ∃ a b c, iWk h a b c ∧ (hm = true → a = nI P.1 ∧ b = nI P.2.1 ∧ c = nI P.2.2)
def wfZ (n : Nat) (cb : Nat → Bool) (Z : mzT) (P : plT) : Prop :=
  (Z.2.2.2.2.1 < n ∧ cb Z.2.2.2.2.1 = false) ∧ (∀ e, Z.2.2.2.2.2 = some e → e < n ∧ cb e = false) ∧ (∀ k c, k < 4 → Z.2.2.2.1 k = some c → c < n ∧ cb c = false) ∧ (P.1 < n ∧ cb P.1 = false) ∧ P.2.1 < 16
def CLS (V : mzT → Int32 → (Nat → Int32) → (Nat → Int32) → Int32 → Prop) (h : aq_H) (w ht : Nat) (wx wy : Bool) (cb : Nat → Bool) (ch : Nat) (hm : Bool) (D : drT) (Z : mzT) (P : plT) : Prop :=
  cBd h w ht wx wy cb ∧ iDk h (bB hm) ∧ cSt h (w * ht) cb hm D ∧ cTc h (w * ht) ∧ cMz h (w * ht * 2) hm Z ch ∧ cFl h (w * ht) ∧ iKp h ∧ cRt h (w * ht) ch hm (V Z) ∧ cWk h hm P ∧ iPc h ∧ (hm = true → wfZ (w * ht) cb Z P)
section SMS
variable {h h' : aq_H} {a b n N ch w ht : Nat} {wx wy hm : Bool} {cb : Nat → Bool} {D : drT} {Z : mzT} {P : plT} {V : Int32 → (Nat → Int32) → (Nat → Int32) → Int32 → Prop}
theorem cBd.sm (M : cBd h w ht wx wy cb) (S : sm a b h h') (hab : b < 1 ∨ 5 < a) : cBd h' w ht wx wy cb := by
  obtain ⟨x1, x2, x3, x4, x5, m, g⟩ := M
  exact ⟨x1, x2, x3, x4, x5, m.sm S hab, g⟩
theorem iDk.sm {hm : Int32} (M : iDk h hm) (S : sm a b h h') (hab : 0 < a) : iDk h' hm := (S 0 (by omega)).trans M
theorem cSt.sm (M : cSt h n cb hm D) (S : sm a b h h') (hab : b < 6 ∨ 12 < a) : cSt h' n cb hm D := by
  obtain ⟨x1, x2, x3, x4, x5, x6, x7, ⟨m1, m2, m3, m4, m5, m6, m7⟩, g⟩ := M
  exact ⟨x1, x2, x3, x4, x5, x6, x7, ⟨(S 6 (by omega)).trans m1, (S 7 (by omega)).trans m2, (S 8 (by omega)).trans m3, (S 9 (by omega)).trans m4, (S 10 (by omega)).trans m5, (S 11 (by omega)).trans m6, (S 12 (by omega)).trans m7⟩, g⟩
theorem cTc.sm (M : cTc h n) (S : sm a b h h') (hab : b < 13 ∨ 31 < a) : cTc h' n := by
  obtain ⟨x1, x2, m1, m2, m3, m4⟩ := M
  exact ⟨x1, x2, (S 13 (by omega)).trans m1, (S 14 (by omega)).trans m2, (S 15 (by omega)).trans m3, fun i hi => (S (16 + i) (by omega)).trans (m4 i hi)⟩
theorem cMz.sm (M : cMz h N hm Z ch) (S : sm a b h h') (hab : b < 32 ∨ 36 < a) : cMz h' N hm Z ch := by
  obtain ⟨x1, x2, x3, x4, x5, x6, m, g⟩ := M
  exact ⟨x1, x2, x3, x4, x5, x6, m.sm S hab, g⟩
theorem cFl.sm (M : cFl h n) (S : sm a b h h') (hab : b < 37 ∨ 39 < a) : cFl h' n := by
  obtain ⟨x1, x2, x3, m1, m2, m3⟩ := M
  exact ⟨x1, x2, x3, (S 37 (by omega)).trans m1, (S 38 (by omega)).trans m2, (S 39 (by omega)).trans m3⟩
theorem iKp.sm (M : iKp h) (S : sm a b h h') (hab : b < 40 ∨ 40 < a) : iKp h' := (S 40 (by omega)).trans M
theorem cRt.sm (M : cRt h n ch hm V) (S : sm a b h h') (hab : b < 41 ∨ 44 < a) : cRt h' n ch hm V := by
  obtain ⟨x1, x2, x3, x4, x5, x6, x7, ⟨m1, m2, m3, m4⟩, g⟩ := M
  exact ⟨x1, x2, x3, x4, x5, x6, x7, ⟨(S 41 (by omega)).trans m1, (S 42 (by omega)).trans m2, (S 43 (by omega)).trans m3, (S 44 (by omega)).trans m4⟩, g⟩
theorem cRt.up {hm' : Bool} {V' : Int32 → (Nat → Int32) → (Nat → Int32) → Int32 → Prop} (M : cRt h n ch hm V) {ch' : Nat} (hc : ch < ch') : cRt h n ch' hm' V' := by
  obtain ⟨x1, x2, x3, x4, x5, x6, x7, m, g⟩ := M
  refine ⟨x1, x2, x3, x4, x5, x6, x7, m, ?_⟩
  rcases g with g | ⟨k, g1, g2, -⟩
  · exact Or.inl g
  · exact Or.inr ⟨k, by omega, g2, fun q => by omega⟩
theorem cRt.off {V' : Int32 → (Nat → Int32) → (Nat → Int32) → Int32 → Prop} (M : cRt h n ch hm V) : cRt h n ch false V' := by
  obtain ⟨x1, x2, x3, x4, x5, x6, x7, m, g⟩ := M
  refine ⟨x1, x2, x3, x4, x5, x6, x7, m, ?_⟩
  rcases g with g | ⟨k, g1, g2, -⟩
  · exact Or.inl g
  · exact Or.inr ⟨k, g1, g2, fun _ q => by cases q⟩
theorem cWk.sm (M : cWk h hm P) (S : sm a b h h') (hab : b < 45 ∨ 45 < a) : cWk h' hm P := by
  obtain ⟨x1, x2, x3, m, g⟩ := M
  exact ⟨x1, x2, x3, (S 45 (by omega)).trans m, g⟩
theorem iPc.sm (M : iPc h) (S : sm a b h h') (hab : b < 46 ∨ 46 < a) : iPc h' := (S 46 (by omega)).trans M
end SMS
section CL
variable {V : mzT → Int32 → (Nat → Int32) → (Nat → Int32) → Int32 → Prop} {h h' : aq_H} {w ht ch : Nat} {wx wy hm : Bool} {cb : Nat → Bool} {D : drT} {Z : mzT} {P : plT}
/-- nothing of the desk is changed by what happens elsewhere -/
theorem CLS_fr (C : CLS V h w ht wx wy cb ch hm D Z P) {a b : Nat} (S : sm a b h h') (hab : 46 < a) : CLS V h' w ht wx wy cb ch hm D Z P := by
  obtain ⟨c1, c2, c3, c4, c5, c6, c7, c8, c9, c10, c11⟩ := C
  exact ⟨c1.sm S (by omega), c2.sm S (by omega), c3.sm S (by omega), c4.sm S (by omega), c5.sm S (by omega), c6.sm S (by omega), c7.sm S (by omega), c8.sm S (by omega), c9.sm S (by omega), c10.sm S (by omega), c11⟩
/-- the maze alone is changed -/
theorem CLS_mz (C : CLS V h w ht wx wy cb ch true D Z P) (S : sm 32 36 h h') {Z' : mzT} {ch' : Nat} (hc : ch < ch') (M : cMz h' (w * ht * 2) true Z' ch') (W : wfZ (w * ht) cb Z' P) : CLS V h' w ht wx wy cb ch' true D Z' P := by
  obtain ⟨c1, c2, c3, c4, c5, c6, c7, c8, c9, c10, c11⟩ := C
  exact ⟨c1.sm S (by omega), c2.sm S (by omega), c3.sm S (by omega), c4.sm S (by omega), M, c6.sm S (by omega), c7.sm S (by omega), (c8.sm S (by omega)).up hc, c9.sm S (by omega), c10.sm S (by omega), fun _ => W⟩
/-- the player alone is changed -/
theorem CLS_wk (C : CLS V h w ht wx wy cb ch true D Z P) (S : sm 45 45 h h') {P' : plT} (M : cWk h' true P') (W : wfZ (w * ht) cb Z P') : CLS V h' w ht wx wy cb ch true D Z P' := by
  obtain ⟨c1, c2, c3, c4, c5, c6, c7, c8, c9, c10, c11⟩ := C
  exact ⟨c1.sm S (by omega), c2.sm S (by omega), c3.sm S (by omega), c4.sm S (by omega), c5.sm S (by omega), c6.sm S (by omega), c7.sm S (by omega), c8.sm S (by omega), M, c10.sm S (by omega), fun _ => W⟩
/-! answers -/
def aTop (w ht : Nat) (cb : Nat → Bool) (hm : Bool) (D : drT) (c : Int32) : Int32 := if (hm && (inC (w * ht) c && !cb c.toNatClampNeg)) = true then oI (D.1 c.toNatClampNeg) else -1
def aPop (w ht : Nat) (cb : Nat → Bool) (hm : Bool) (D : drT) (c : Int32) : Int32 := if (hm && (inC (w * ht) c && !cb c.toNatClampNeg)) = true then nI (D.2.1 c.toNatClampNeg) else -1
theorem x_top (C : CLS V h w ht wx wy cb ch hm D Z P) (c : Int32) : aq_T e_X9_top 2 0 0 [.ref 0, .int c] h (rd (aTop w ht cb hm D c) h) := by
  obtain ⟨⟨cut, bes, lead, pas, fr, B, G⟩, c2, ⟨ways, wc, xs, tops, pops, marks, ci, S, gS⟩, -⟩ := C
  have hn := wh_lt G.1
  have k0 := c2
  unfold iDk at c2
  unfold aTop
  refine ⟨Nat.le_of_ble_eq_true rfl, ?_⟩
  show aq_W _ _ 0 [some (.ref 0), some (.int c)] [] _ _ _
  cases hm with
  | false =>
    simp only [s_X9_top_0, s_X9_top_1, s_X9_top_2, s_X9_top_5, s_X9_top_8, s_X9_top_9, s_X9_top_12, s_X9_top_13, s_X9_top_16, s_X9_top_19, s_X9_top_20, aq_gI, aq_gL, aq_gA, aq_isA, aq_s1, aq_s2, aq_kill, aq_ob, aq_sm, aq_arI, aq_arB, aq_isB, aq_arL, aq_arA, aq_arN, aq_sh, Value.category, List.getElem?_cons_zero, List.getElem?_cons_succ, List.length_cons, List.length_nil, Option.toList_some, Option.toList_none, List.cons_append, List.nil_append, true_and, and_true, List.set_cons_zero, List.set_cons_succ, aq_n1, aq_n2, aq_n3, aq_n4, aq_f1, aq_f2, aq_f3, aq_f4, aq_gs, aq_ty1, aq_ty2, aq_ty3, aq_ty4, aq_ty5, Nat.reduceAdd, Nat.reduceLT, Nat.reduceEqDiff, Nat.reduceSub, if_true, if_false, ne_eq, not_false_eq_true, not_true_eq_false, Option.map_some, Option.map_none, Nat.zero_add, reduceCtorEq, Nat.reduceLeDiff, one_ne_zero_a, zero_ne_one_a, c2]
    refine (t_mazeHas0 k0 c).use ?_
    rintro _ _ ⟨rfl, rfl⟩
    simp only [s_X9_top_0, s_X9_top_1, s_X9_top_2, s_X9_top_5, s_X9_top_8, s_X9_top_9, s_X9_top_12, s_X9_top_13, s_X9_top_16, s_X9_top_19, s_X9_top_20, aq_gI, aq_gL, aq_gA, aq_isA, aq_s1, aq_s2, aq_kill, aq_ob, aq_sm, aq_arI, aq_arB, aq_isB, aq_arL, aq_arA, aq_arN, aq_sh, Value.category, List.getElem?_cons_zero, List.getElem?_cons_succ, List.length_cons, List.length_nil, Option.toList_some, Option.toList_none, List.cons_append, List.nil_append, true_and, and_true, List.set_cons_zero, List.set_cons_succ, aq_n1, aq_n2, aq_n3, aq_n4, aq_f1, aq_f2, aq_f3, aq_f4, aq_gs, aq_ty1, aq_ty2, aq_ty3, aq_ty4, aq_ty5, Nat.reduceAdd, Nat.reduceLT, Nat.reduceEqDiff, Nat.reduceSub, if_true, if_false, ne_eq, not_false_eq_true, not_true_eq_false, Option.map_some, Option.map_none, Nat.zero_add, reduceCtorEq, Nat.reduceLeDiff, one_ne_zero_a, zero_ne_one_a, rd, Bool.false_and, Bool.false_eq_true]
  | true =>
    simp only [s_X9_top_0, s_X9_top_1, s_X9_top_2, s_X9_top_5, s_X9_top_8, s_X9_top_9, s_X9_top_12, s_X9_top_13, s_X9_top_16, s_X9_top_19, s_X9_top_20, aq_gI, aq_gL, aq_gA, aq_isA, aq_s1, aq_s2, aq_kill, aq_ob, aq_sm, aq_arI, aq_arB, aq_isB, aq_arL, aq_arA, aq_arN, aq_sh, Value.category, List.getElem?_cons_zero, List.getElem?_cons_succ, List.length_cons, List.length_nil, Option.toList_some, Option.toList_none, List.cons_append, List.nil_append, true_and, and_true, List.set_cons_zero, List.set_cons_succ, aq_n1, aq_n2, aq_n3, aq_n4, aq_f1, aq_f2, aq_f3, aq_f4, aq_gs, aq_ty1, aq_ty2, aq_ty3, aq_ty4, aq_ty5, Nat.reduceAdd, Nat.reduceLT, Nat.reduceEqDiff, Nat.reduceSub, if_true, if_false, ne_eq, not_false_eq_true, not_true_eq_false, Option.map_some, Option.map_none, Nat.zero_add, reduceCtorEq, Nat.reduceLeDiff, one_ne_zero_a, zero_ne_one_a, c2]
    refine (t_mazeHas k0 B G c).use ?_
    rintro _ _ ⟨rfl, rfl⟩
    simp only [Bool.true_and]
    by_cases e : (inC (w * ht) c && !cb c.toNatClampNeg) = true
    · obtain ⟨e1, e2⟩ := Bool.and_eq_true_iff.mp e
      rcases inC_cs (w * ht) c (by omega) with q | ⟨j, hj, rfl⟩
      · rw [q] at e1; cases e1
      · rw [nI_clamp (by omega)] at e e2 ⊢
        have e3 : cb j = false := by simpa using e2
        simp only [e, bB_t, s_X9_top_0, s_X9_top_1, s_X9_top_2, s_X9_top_5, s_X9_top_8, s_X9_top_9, s_X9_top_12, s_X9_top_13, s_X9_top_16, s_X9_top_19, s_X9_top_20, aq_gI, aq_gL, aq_gA, aq_isA, aq_s1, aq_s2, aq_kill, aq_ob, aq_sm, aq_arI, aq_arB, aq_isB, aq_arL, aq_arA, aq_arN, aq_sh, Value.category, List.getElem?_cons_zero, List.getElem?_cons_succ, List.length_cons, List.length_nil, Option.toList_some, Option.toList_none, List.cons_append, List.nil_append, true_and, and_true, List.set_cons_zero, List.set_cons_succ, aq_n1, aq_n2, aq_n3, aq_n4, aq_f1, aq_f2, aq_f3, aq_f4, aq_gs, aq_ty1, aq_ty2, aq_ty3, aq_ty4, aq_ty5, Nat.reduceAdd, Nat.reduceLT, Nat.reduceEqDiff, Nat.reduceSub, if_true, if_false, ne_eq, not_false_eq_true, not_true_eq_false, Option.map_some, Option.map_none, Nat.zero_add, reduceCtorEq, Nat.reduceLeDiff, one_ne_zero_a, zero_ne_one_a, c2, S.1]
        refine (t_topOf S hj (by omega)).use ?_
        rintro _ _ ⟨rfl, rfl⟩
        simp only [s_X9_top_0, s_X9_top_1, s_X9_top_2, s_X9_top_5, s_X9_top_8, s_X9_top_9, s_X9_top_12, s_X9_top_13, s_X9_top_16, s_X9_top_19, s_X9_top_20, aq_gI, aq_gL, aq_gA, aq_isA, aq_s1, aq_s2, aq_kill, aq_ob, aq_sm, aq_arI, aq_arB, aq_isB, aq_arL, aq_arA, aq_arN, aq_sh, Value.category, List.getElem?_cons_zero, List.getElem?_cons_succ, List.length_cons, List.length_nil, Option.toList_some, Option.toList_none, List.cons_append, List.nil_append, true_and, and_true, List.set_cons_zero, List.set_cons_succ, aq_n1, aq_n2, aq_n3, aq_n4, aq_f1, aq_f2, aq_f3, aq_f4, aq_gs, aq_ty1, aq_ty2, aq_ty3, aq_ty4, aq_ty5, Nat.reduceAdd, Nat.reduceLT, Nat.reduceEqDiff, Nat.reduceSub, if_true, if_false, ne_eq, not_false_eq_true, not_true_eq_false, Option.map_some, Option.map_none, Nat.zero_add, reduceCtorEq, Nat.reduceLeDiff, one_ne_zero_a, zero_ne_one_a, rd, ((gS rfl).1 j hj e3).1]
    · have e' : (inC (w * ht) c && !cb c.toNatClampNeg) = false := by simpa using e
      simp only [e', bB_f, s_X9_top_0, s_X9_top_1, s_X9_top_2, s_X9_top_5, s_X9_top_8, s_X9_top_9, s_X9_top_12, s_X9_top_13, s_X9_top_16, s_X9_top_19, s_X9_top_20, aq_gI, aq_gL, aq_gA, aq_isA, aq_s1, aq_s2, aq_kill, aq_ob, aq_sm, aq_arI, aq_arB, aq_isB, aq_arL, aq_arA, aq_arN, aq_sh, Value.category, List.getElem?_cons_zero, List.getElem?_cons_succ, List.length_cons, List.length_nil, Option.toList_some, Option.toList_none, List.cons_append, List.nil_append, true_and, and_true, List.set_cons_zero, List.set_cons_succ, aq_n1, aq_n2, aq_n3, aq_n4, aq_f1, aq_f2, aq_f3, aq_f4, aq_gs, aq_ty1, aq_ty2, aq_ty3, aq_ty4, aq_ty5, Nat.reduceAdd, Nat.reduceLT, Nat.reduceEqDiff, Nat.reduceSub, if_true, if_false, ne_eq, not_false_eq_true, not_true_eq_false, Option.map_some, Option.map_none, Nat.zero_add, reduceCtorEq, Nat.reduceLeDiff, one_ne_zero_a, zero_ne_one_a, rd, Bool.false_eq_true]
theorem x_popped (C : CLS V h w ht wx wy cb ch hm D Z P) (c : Int32) : aq_T e_X9_popped 2 0 0 [.ref 0, .int c] h (rd (aPop w ht cb hm D c) h) := by
  obtain ⟨⟨cut, bes, lead, pas, fr, B, G⟩, c2, ⟨ways, wc, xs, tops, pops, marks, ci, S, gS⟩, -⟩ := C
  have hn := wh_lt G.1
  have k0 := c2
  unfold iDk at c2
  unfold aPop
  refine ⟨Nat.le_of_ble_eq_true rfl, ?_⟩
  show aq_W _ _ 0 [some (.ref 0), some (.int c)] [] _ _ _
  cases hm with
  | false =>
    simp only [s_X9_popped_0, s_X9_popped_1, s_X9_popped_2, s_X9_popped_5, s_X9_popped_8, s_X9_popped_9, s_X9_popped_12, s_X9_popped_13, s_X9_popped_16, s_X9_popped_19, s_X9_popped_20, aq_gI, aq_gL, aq_gA, aq_isA, aq_s1, aq_s2, aq_kill, aq_ob, aq_sm, aq_arI, aq_arB, aq_isB, aq_arL, aq_arA, aq_arN, aq_sh, Value.category, List.getElem?_cons_zero, List.getElem?_cons_succ, List.length_cons, List.length_nil, Option.toList_some, Option.toList_none, List.cons_append, List.nil_append, true_and, and_true, List.set_cons_zero, List.set_cons_succ, aq_n1, aq_n2, aq_n3, aq_n4, aq_f1, aq_f2, aq_f3, aq_f4, aq_gs, aq_ty1, aq_ty2, aq_ty3, aq_ty4, aq_ty5, Nat.reduceAdd, Nat.reduceLT, Nat.reduceEqDiff, Nat.reduceSub, if_true, if_false, ne_eq, not_false_eq_true, not_true_eq_false, Option.map_some, Option.map_none, Nat.zero_add, reduceCtorEq, Nat.reduceLeDiff, one_ne_zero_a, zero_ne_one_a, c2]
    refine (t_mazeHas0 k0 c).use ?_
    rintro _ _ ⟨rfl, rfl⟩
    simp only [s_X9_popped_0, s_X9_popped_1, s_X9_popped_2, s_X9_popped_5, s_X9_popped_8, s_X9_popped_9, s_X9_popped_12, s_X9_popped_13, s_X9_popped_16, s_X9_popped_19, s_X9_popped_20, aq_gI, aq_gL, aq_gA, aq_isA, aq_s1, aq_s2, aq_kill, aq_ob, aq_sm, aq_arI, aq_arB, aq_isB, aq_arL, aq_arA, aq_arN, aq_sh, Value.category, List.getElem?_cons_zero, List.getElem?_cons_succ, List.length_cons, List.length_nil, Option.toList_some, Option.toList_none, List.cons_append, List.nil_append, true_and, and_true, List.set_cons_zero, List.set_cons_succ, aq_n1, aq_n2, aq_n3, aq_n4, aq_f1, aq_f2, aq_f3, aq_f4, aq_gs, aq_ty1, aq_ty2, aq_ty3, aq_ty4, aq_ty5, Nat.reduceAdd, Nat.reduceLT, Nat.reduceEqDiff, Nat.reduceSub, if_true, if_false, ne_eq, not_false_eq_true, not_true_eq_false, Option.map_some, Option.map_none, Nat.zero_add, reduceCtorEq, Nat.reduceLeDiff, one_ne_zero_a, zero_ne_one_a, rd, Bool.false_and, Bool.false_eq_true]
  | true =>
    simp only [s_X9_popped_0, s_X9_popped_1, s_X9_popped_2, s_X9_popped_5, s_X9_popped_8, s_X9_popped_9, s_X9_popped_12, s_X9_popped_13, s_X9_popped_16, s_X9_popped_19, s_X9_popped_20, aq_gI, aq_gL, aq_gA, aq_isA, aq_s1, aq_s2, aq_kill, aq_ob, aq_sm, aq_arI, aq_arB, aq_isB, aq_arL, aq_arA, aq_arN, aq_sh, Value.category, List.getElem?_cons_zero, List.getElem?_cons_succ, List.length_cons, List.length_nil, Option.toList_some, Option.toList_none, List.cons_append, List.nil_append, true_and, and_true, List.set_cons_zero, List.set_cons_succ, aq_n1, aq_n2, aq_n3, aq_n4, aq_f1, aq_f2, aq_f3, aq_f4, aq_gs, aq_ty1, aq_ty2, aq_ty3, aq_ty4, aq_ty5, Nat.reduceAdd, Nat.reduceLT, Nat.reduceEqDiff, Nat.reduceSub, if_true, if_false, ne_eq, not_false_eq_true, not_true_eq_false, Option.map_some, Option.map_none, Nat.zero_add, reduceCtorEq, Nat.reduceLeDiff, one_ne_zero_a, zero_ne_one_a, c2]
    refine (t_mazeHas k0 B G c).use ?_
    rintro _ _ ⟨rfl, rfl⟩
    simp only [Bool.true_and]
    by_cases e : (inC (w * ht) c && !cb c.toNatClampNeg) = true
    · obtain ⟨e1, e2⟩ := Bool.and_eq_true_iff.mp e
      rcases inC_cs (w * ht) c (by omega) with q | ⟨j, hj, rfl⟩
      · rw [q] at e1; cases e1
      · rw [nI_clamp (by omega)] at e e2 ⊢
        have e3 : cb j = false := by simpa using e2
        simp only [e, bB_t, s_X9_popped_0, s_X9_popped_1, s_X9_popped_2, s_X9_popped_5, s_X9_popped_8, s_X9_popped_9, s_X9_popped_12, s_X9_popped_13, s_X9_popped_16, s_X9_popped_19, s_X9_popped_20, aq_gI, aq_gL, aq_gA, aq_isA, aq_s1, aq_s2, aq_kill, aq_ob, aq_sm, aq_arI, aq_arB, aq_isB, aq_arL, aq_arA, aq_arN, aq_sh, Value.category, List.getElem?_cons_zero, List.getElem?_cons_succ, List.length_cons, List.length_nil, Option.toList_some, Option.toList_none, List.cons_append, List.nil_append, true_and, and_true, List.set_cons_zero, List.set_cons_succ, aq_n1, aq_n2, aq_n3, aq_n4, aq_f1, aq_f2, aq_f3, aq_f4, aq_gs, aq_ty1, aq_ty2, aq_ty3, aq_ty4, aq_ty5, Nat.reduceAdd, Nat.reduceLT, Nat.reduceEqDiff, Nat.reduceSub, if_true, if_false, ne_eq, not_false_eq_true, not_true_eq_false, Option.map_some, Option.map_none, Nat.zero_add, reduceCtorEq, Nat.reduceLeDiff, one_ne_zero_a, zero_ne_one_a, c2, S.1]
        refine (t_popsOf S hj (by omega)).use ?_
        rintro _ _ ⟨rfl, rfl⟩
        simp only [s_X9_popped_0, s_X9_popped_1, s_X9_popped_2, s_X9_popped_5, s_X9_popped_8, s_X9_popped_9, s_X9_popped_12, s_X9_popped_13, s_X9_popped_16, s_X9_popped_19, s_X9_popped_20, aq_gI, aq_gL, aq_gA, aq_isA, aq_s1, aq_s2, aq_kill, aq_ob, aq_sm, aq_arI, aq_arB, aq_isB, aq_arL, aq_arA, aq_arN, aq_sh, Value.category, List.getElem?_cons_zero, List.getElem?_cons_succ, List.length_cons, List.length_nil, Option.toList_some, Option.toList_none, List.cons_append, List.nil_append, true_and, and_true, List.set_cons_zero, List.set_cons_succ, aq_n1, aq_n2, aq_n3, aq_n4, aq_f1, aq_f2, aq_f3, aq_f4, aq_gs, aq_ty1, aq_ty2, aq_ty3, aq_ty4, aq_ty5, Nat.reduceAdd, Nat.reduceLT, Nat.reduceEqDiff, Nat.reduceSub, if_true, if_false, ne_eq, not_false_eq_true, not_true_eq_false, Option.map_some, Option.map_none, Nat.zero_add, reduceCtorEq, Nat.reduceLeDiff, one_ne_zero_a, zero_ne_one_a, rd, ((gS rfl).1 j hj e3).2]
    · have e' : (inC (w * ht) c && !cb c.toNatClampNeg) = false := by simpa using e
      simp only [e', bB_f, s_X9_popped_0, s_X9_popped_1, s_X9_popped_2, s_X9_popped_5, s_X9_popped_8, s_X9_popped_9, s_X9_popped_12, s_X9_popped_13, s_X9_popped_16, s_X9_popped_19, s_X9_popped_20, aq_gI, aq_gL, aq_gA, aq_isA, aq_s1, aq_s2, aq_kill, aq_ob, aq_sm, aq_arI, aq_arB, aq_isB, aq_arL, aq_arA, aq_arN, aq_sh, Value.category, List.getElem?_cons_zero, List.getElem?_cons_succ, List.length_cons, List.length_nil, Option.toList_some, Option.toList_none, List.cons_append, List.nil_append, true_and, and_true, List.set_cons_zero, List.set_cons_succ, aq_n1, aq_n2, aq_n3, aq_n4, aq_f1, aq_f2, aq_f3, aq_f4, aq_gs, aq_ty1, aq_ty2, aq_ty3, aq_ty4, aq_ty5, Nat.reduceAdd, Nat.reduceLT, Nat.reduceEqDiff, Nat.reduceSub, if_true, if_false, ne_eq, not_false_eq_true, not_true_eq_false, Option.map_some, Option.map_none, Nat.zero_add, reduceCtorEq, Nat.reduceLeDiff, one_ne_zero_a, zero_ne_one_a, rd, Bool.false_eq_true]
theorem x_circles (C : CLS V h w ht wx wy cb ch hm D Z P) : aq_T e_X9_circles 1 0 0 [.ref 0] h (rd (if hm = true then nI D.2.2.1 else -1) h) := by
  obtain ⟨-, c2, ⟨ways, wc, xs, tops, pops, marks, ci, S, gS⟩, -⟩ := C
  unfold iDk at c2
  refine ⟨Nat.le_of_ble_eq_true rfl, ?_⟩
  show aq_W _ _ 0 [some (.ref 0)] [] _ _ _
  cases hm with
  | false => simp only [s_X9_circles_0, s_X9_circles_1, s_X9_circles_4, s_X9_circles_7, s_X9_circles_8, s_X9_circles_11, s_X9_circles_14, s_X9_circles_17, s_X9_circles_18, aq_gI, aq_gL, aq_gA, aq_isA, aq_s1, aq_s2, aq_kill, aq_ob, aq_sm, aq_arI, aq_arB, aq_isB, aq_arL, aq_arA, aq_arN, aq_sh, Value.category, List.getElem?_cons_zero, List.getElem?_cons_succ, List.length_cons, List.length_nil, Option.toList_some, Option.toList_none, List.cons_append, List.nil_append, true_and, and_true, List.set_cons_zero, List.set_cons_succ, aq_n1, aq_n2, aq_n3, aq_n4, aq_f1, aq_f2, aq_f3, aq_f4, aq_gs, aq_ty1, aq_ty2, aq_ty3, aq_ty4, aq_ty5, Nat.reduceAdd, Nat.reduceLT, Nat.reduceEqDiff, Nat.reduceSub, if_true, if_false, ne_eq, not_false_eq_true, not_true_eq_false, Option.map_some, Option.map_none, Nat.zero_add, reduceCtorEq, Nat.reduceLeDiff, one_ne_zero_a, zero_ne_one_a, c2, rd, bB_f, Bool.false_eq_true]
  | true =>
    simp only [s_X9_circles_0, s_X9_circles_1, s_X9_circles_4, s_X9_circles_7, s_X9_circles_8, s_X9_circles_11, s_X9_circles_14, s_X9_circles_17, s_X9_circles_18, aq_gI, aq_gL, aq_gA, aq_isA, aq_s1, aq_s2, aq_kill, aq_ob, aq_sm, aq_arI, aq_arB, aq_isB, aq_arL, aq_arA, aq_arN, aq_sh, Value.category, List.getElem?_cons_zero, List.getElem?_cons_succ, List.length_cons, List.length_nil, Option.toList_some, Option.toList_none, List.cons_append, List.nil_append, true_and, and_true, List.set_cons_zero, List.set_cons_succ, aq_n1, aq_n2, aq_n3, aq_n4, aq_f1, aq_f2, aq_f3, aq_f4, aq_gs, aq_ty1, aq_ty2, aq_ty3, aq_ty4, aq_ty5, Nat.reduceAdd, Nat.reduceLT, Nat.reduceEqDiff, Nat.reduceSub, if_true, if_false, ne_eq, not_false_eq_true, not_true_eq_false, Option.map_some, Option.map_none, Nat.zero_add, reduceCtorEq, Nat.reduceLeDiff, one_ne_zero_a, zero_ne_one_a, c2, S.1, bB_t]
    refine (t_circleCount S).use ?_
    rintro _ _ ⟨rfl, rfl⟩
    simp only [s_X9_circles_0, s_X9_circles_1, s_X9_circles_4, s_X9_circles_7, s_X9_circles_8, s_X9_circles_11, s_X9_circles_14, s_X9_circles_17, s_X9_circles_18, aq_gI, aq_gL, aq_gA, aq_isA, aq_s1, aq_s2, aq_kill, aq_ob, aq_sm, aq_arI, aq_arB, aq_isB, aq_arL, aq_arA, aq_arN, aq_sh, Value.category, List.getElem?_cons_zero, List.getElem?_cons_succ, List.length_cons, List.length_nil, Option.toList_some, Option.toList_none, List.cons_append, List.nil_append, true_and, and_true, List.set_cons_zero, List.set_cons_succ, aq_n1, aq_n2, aq_n3, aq_n4, aq_f1, aq_f2, aq_f3, aq_f4, aq_gs, aq_ty1, aq_ty2, aq_ty3, aq_ty4, aq_ty5, Nat.reduceAdd, Nat.reduceLT, Nat.reduceEqDiff, Nat.reduceSub, if_true, if_false, ne_eq, not_false_eq_true, not_true_eq_false, Option.map_some, Option.map_none, Nat.zero_add, reduceCtorEq, Nat.reduceLeDiff, one_ne_zero_a, zero_ne_one_a, rd, (gS rfl).2]
theorem x_player (C : CLS V h w ht wx wy cb ch hm D Z P) (x : Int32) : aq_T e_X9_player 2 0 0 [.ref 0, .int x] h (rd (if hm = true then (if x = 0 then nI P.1 else if x = 1 then nI P.2.1 else if x = 2 then nI P.2.2 else -1) else -1) h) := by
  obtain ⟨-, c2, -, -, -, -, -, -, ⟨p1, p2, p3, A, gA⟩, -⟩ := C
  unfold iDk at c2
  have tt := t_tell A x
  have a1 := A
  unfold iWk at a1
  refine ⟨Nat.le_of_ble_eq_true rfl, ?_⟩
  show aq_W _ _ 0 [some (.ref 0), some (.int x)] [] _ _ _
  cases hm with
  | false => simp only [s_X9_player_0, s_X9_player_1, s_X9_player_4, s_X9_player_7, s_X9_player_8, s_X9_player_11, s_X9_player_12, s_X9_player_15, s_X9_player_18, s_X9_player_19, aq_gI, aq_gL, aq_gA, aq_isA, aq_s1, aq_s2, aq_kill, aq_ob, aq_sm, aq_arI, aq_arB, aq_isB, aq_arL, aq_arA, aq_arN, aq_sh, Value.category, List.getElem?_cons_zero, List.getElem?_cons_succ, List.length_cons, List.length_nil, Option.toList_some, Option.toList_none, List.cons_append, List.nil_append, true_and, and_true, List.set_cons_zero, List.set_cons_succ, aq_n1, aq_n2, aq_n3, aq_n4, aq_f1, aq_f2, aq_f3, aq_f4, aq_gs, aq_ty1, aq_ty2, aq_ty3, aq_ty4, aq_ty5, Nat.reduceAdd, Nat.reduceLT, Nat.reduceEqDiff, Nat.reduceSub, if_true, if_false, ne_eq, not_false_eq_true, not_true_eq_false, Option.map_some, Option.map_none, Nat.zero_add, reduceCtorEq, Nat.reduceLeDiff, one_ne_zero_a, zero_ne_one_a, c2, rd, bB_f, Bool.false_eq_true]
  | true =>
    obtain ⟨e1, e2, e3⟩ := gA rfl
    simp only [s_X9_player_0, s_X9_player_1, s_X9_player_4, s_X9_player_7, s_X9_player_8, s_X9_player_11, s_X9_player_12, s_X9_player_15, s_X9_player_18, s_X9_player_19, aq_gI, aq_gL, aq_gA, aq_isA, aq_s1, aq_s2, aq_kill, aq_ob, aq_sm, aq_arI, aq_arB, aq_isB, aq_arL, aq_arA, aq_arN, aq_sh, Value.category, List.getElem?_cons_zero, List.getElem?_cons_succ, List.length_cons, List.length_nil, Option.toList_some, Option.toList_none, List.cons_append, List.nil_append, true_and, and_true, List.set_cons_zero, List.set_cons_succ, aq_n1, aq_n2, aq_n3, aq_n4, aq_f1, aq_f2, aq_f3, aq_f4, aq_gs, aq_ty1, aq_ty2, aq_ty3, aq_ty4, aq_ty5, Nat.reduceAdd, Nat.reduceLT, Nat.reduceEqDiff, Nat.reduceSub, if_true, if_false, ne_eq, not_false_eq_true, not_true_eq_false, Option.map_some, Option.map_none, Nat.zero_add, reduceCtorEq, Nat.reduceLeDiff, one_ne_zero_a, zero_ne_one_a, c2, a1, bB_t]
    refine tt.use ?_
    rintro _ _ ⟨rfl, rfl⟩
    simp only [s_X9_player_0, s_X9_player_1, s_X9_player_4, s_X9_player_7, s_X9_player_8, s_X9_player_11, s_X9_player_12, s_X9_player_15, s_X9_player_18, s_X9_player_19, aq_gI, aq_gL, aq_gA, aq_isA, aq_s1, aq_s2, aq_kill, aq_ob, aq_sm, aq_arI, aq_arB, aq_isB, aq_arL, aq_arA, aq_arN, aq_sh, Value.category, List.getElem?_cons_zero, List.getElem?_cons_succ, List.length_cons, List.length_nil, Option.toList_some, Option.toList_none, List.cons_append, List.nil_append, true_and, and_true, List.set_cons_zero, List.set_cons_succ, aq_n1, aq_n2, aq_n3, aq_n4, aq_f1, aq_f2, aq_f3, aq_f4, aq_gs, aq_ty1, aq_ty2, aq_ty3, aq_ty4, aq_ty5, Nat.reduceAdd, Nat.reduceLT, Nat.reduceEqDiff, Nat.reduceSub, if_true, if_false, ne_eq, not_false_eq_true, not_true_eq_false, Option.map_some, Option.map_none, Nat.zero_add, reduceCtorEq, Nat.reduceLeDiff, one_ne_zero_a, zero_ne_one_a, rd, e1, e2, e3]
end CL
