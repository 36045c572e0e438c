-- dep 62.base2 63.ops 65.num2 66.flood 67.kp 68.place 70.mdl 71.mdl2 72.mdl3 80.cyc 81.lay 82.pop 83.join 84.make 85.sweep 86.mcirc
/-! the model's make -/
section MMK
variable {h h' : aq_H} {w ht root : Nat} {wx wy hm : Bool} {cb : Nat → Bool} {seed : Int32} {p : Nat → Nat} {D : drT} {Z : mzT} {P : plT} {wr thr th rt ci st ex pl hd sg : Int32} {mc mx mt mp mo md mw mk mr pc fa go : Nat → Int32} {tb : Nat → Int64} {ob : Nat → Bool} {dr on ky : Nat → Option Nat}
theorem iAr.s50 (A : iAr h mx mt mp mo md mw mk mr tb pc fa go) (f : Nat → Int32) : iAr (h.set 49 (.inl (.int, 144, .inl f))) f mt mp mo md mw mk mr tb pc fa go := by
  obtain ⟨a1, a2, a3, a4, a5, a6, a7, a8, a9, a10, a11, a12⟩ := A
  refine ⟨?_, ?_, ?_, ?_, ?_, ?_, ?_, ?_, ?_, ?_, ?_, ?_⟩ <;> simp only [aq_gI, aq_gL, aq_gA, aq_isA, aq_s1, aq_s2, aq_kill, aq_ob, aq_sm, aq_arI, aq_arB, aq_isB, aq_arL, aq_arA, aq_arN, aq_sh, Value.category, List.getElem?_cons_zero, List.getElem?_cons_succ, List.length_cons, List.length_nil, Option.toList_some, Option.toList_none, List.cons_append, List.nil_append, true_and, and_true, List.set_cons_zero, List.set_cons_succ, aq_n1, aq_n2, aq_n3, aq_n4, aq_f1, aq_f2, aq_f3, aq_f4, aq_gs, aq_ty1, aq_ty2, aq_ty3, aq_ty4, aq_ty5, Nat.reduceAdd, Nat.reduceLT, Nat.reduceEqDiff, Nat.reduceSub, if_true, if_false, ne_eq, not_false_eq_true, not_true_eq_false, Option.map_some, Option.map_none, Nat.zero_add, reduceCtorEq, Nat.reduceLeDiff, one_ne_zero_a, zero_ne_one_a, a1, a2, a3, a4, a5, a6, a7, a8, a9, a10, a11, a12]
theorem iAr.s51 (A : iAr h mx mt mp mo md mw mk mr tb pc fa go) (f : Nat → Int32) : iAr (h.set 50 (.inl (.int, 144, .inl f))) mx f mp mo md mw mk mr tb pc fa go := by
  obtain ⟨a1, a2, a3, a4, a5, a6, a7, a8, a9, a10, a11, a12⟩ := A
  refine ⟨?_, ?_, ?_, ?_, ?_, ?_, ?_, ?_, ?_, ?_, ?_, ?_⟩ <;> simp only [aq_gI, aq_gL, aq_gA, aq_isA, aq_s1, aq_s2, aq_kill, aq_ob, aq_sm, aq_arI, aq_arB, aq_isB, aq_arL, aq_arA, aq_arN, aq_sh, Value.category, List.getElem?_cons_zero, List.getElem?_cons_succ, List.length_cons, List.length_nil, Option.toList_some, Option.toList_none, List.cons_append, List.nil_append, true_and, and_true, List.set_cons_zero, List.set_cons_succ, aq_n1, aq_n2, aq_n3, aq_n4, aq_f1, aq_f2, aq_f3, aq_f4, aq_gs, aq_ty1, aq_ty2, aq_ty3, aq_ty4, aq_ty5, Nat.reduceAdd, Nat.reduceLT, Nat.reduceEqDiff, Nat.reduceSub, if_true, if_false, ne_eq, not_false_eq_true, not_true_eq_false, Option.map_some, Option.map_none, Nat.zero_add, reduceCtorEq, Nat.reduceLeDiff, one_ne_zero_a, zero_ne_one_a, a1, a2, a3, a4, a5, a6, a7, a8, a9, a10, a11, a12]
theorem iAr.s52 (A : iAr h mx mt mp mo md mw mk mr tb pc fa go) (f : Nat → Int32) : iAr (h.set 51 (.inl (.int, 144, .inl f))) mx mt f mo md mw mk mr tb pc fa go := by
  obtain ⟨a1, a2, a3, a4, a5, a6, a7, a8, a9, a10, a11, a12⟩ := A
  refine ⟨?_, ?_, ?_, ?_, ?_, ?_, ?_, ?_, ?_, ?_, ?_, ?_⟩ <;> simp only [aq_gI, aq_gL, aq_gA, aq_isA, aq_s1, aq_s2, aq_kill, aq_ob, aq_sm, aq_arI, aq_arB, aq_isB, aq_arL, aq_arA, aq_arN, aq_sh, Value.category, List.getElem?_cons_zero, List.getElem?_cons_succ, List.length_cons, List.length_nil, Option.toList_some, Option.toList_none, List.cons_append, List.nil_append, true_and, and_true, List.set_cons_zero, List.set_cons_succ, aq_n1, aq_n2, aq_n3, aq_n4, aq_f1, aq_f2, aq_f3, aq_f4, aq_gs, aq_ty1, aq_ty2, aq_ty3, aq_ty4, aq_ty5, Nat.reduceAdd, Nat.reduceLT, Nat.reduceEqDiff, Nat.reduceSub, if_true, if_false, ne_eq, not_false_eq_true, not_true_eq_false, Option.map_some, Option.map_none, Nat.zero_add, reduceCtorEq, Nat.reduceLeDiff, one_ne_zero_a, zero_ne_one_a, a1, a2, a3, a4, a5, a6, a7, a8, a9, a10, a11, a12]
theorem iAr.s53 (A : iAr h mx mt mp mo md mw mk mr tb pc fa go) (f : Nat → Int32) : iAr (h.set 52 (.inl (.boolean, 576, .inl f))) mx mt mp f md mw mk mr tb pc fa go := by
  obtain ⟨a1, a2, a3, a4, a5, a6, a7, a8, a9, a10, a11, a12⟩ := A
  refine ⟨?_, ?_, ?_, ?_, ?_, ?_, ?_, ?_, ?_, ?_, ?_, ?_⟩ <;> simp only [aq_gI, aq_gL, aq_gA, aq_isA, aq_s1, aq_s2, aq_kill, aq_ob, aq_sm, aq_arI, aq_arB, aq_isB, aq_arL, aq_arA, aq_arN, aq_sh, Value.category, List.getElem?_cons_zero, List.getElem?_cons_succ, List.length_cons, List.length_nil, Option.toList_some, Option.toList_none, List.cons_append, List.nil_append, true_and, and_true, List.set_cons_zero, List.set_cons_succ, aq_n1, aq_n2, aq_n3, aq_n4, aq_f1, aq_f2, aq_f3, aq_f4, aq_gs, aq_ty1, aq_ty2, aq_ty3, aq_ty4, aq_ty5, Nat.reduceAdd, Nat.reduceLT, Nat.reduceEqDiff, Nat.reduceSub, if_true, if_false, ne_eq, not_false_eq_true, not_true_eq_false, Option.map_some, Option.map_none, Nat.zero_add, reduceCtorEq, Nat.reduceLeDiff, one_ne_zero_a, zero_ne_one_a, a1, a2, a3, a4, a5, a6, a7, a8, a9, a10, a11, a12]
theorem iAr.s54 (A : iAr h mx mt mp mo md mw mk mr tb pc fa go) (f : Nat → Int32) : iAr (h.set 53 (.inl (.byte, 576, .inl f))) mx mt mp mo f mw mk mr tb pc fa go := by
  obtain ⟨a1, a2, a3, a4, a5, a6, a7, a8, a9, a10, a11, a12⟩ := A
  refine ⟨?_, ?_, ?_, ?_, ?_, ?_, ?_, ?_, ?_, ?_, ?_, ?_⟩ <;> simp only [aq_gI, aq_gL, aq_gA, aq_isA, aq_s1, aq_s2, aq_kill, aq_ob, aq_sm, aq_arI, aq_arB, aq_isB, aq_arL, aq_arA, aq_arN, aq_sh, Value.category, List.getElem?_cons_zero, List.getElem?_cons_succ, List.length_cons, List.length_nil, Option.toList_some, Option.toList_none, List.cons_append, List.nil_append, true_and, and_true, List.set_cons_zero, List.set_cons_succ, aq_n1, aq_n2, aq_n3, aq_n4, aq_f1, aq_f2, aq_f3, aq_f4, aq_gs, aq_ty1, aq_ty2, aq_ty3, aq_ty4, aq_ty5, Nat.reduceAdd, Nat.reduceLT, Nat.reduceEqDiff, Nat.reduceSub, if_true, if_false, ne_eq, not_false_eq_true, not_true_eq_false, Option.map_some, Option.map_none, Nat.zero_add, reduceCtorEq, Nat.reduceLeDiff, one_ne_zero_a, zero_ne_one_a, a1, a2, a3, a4, a5, a6, a7, a8, a9, a10, a11, a12]
theorem iAr.s55 (A : iAr h mx mt mp mo md mw mk mr tb pc fa go) (f : Nat → Int32) : iAr (h.set 54 (.inl (.boolean, 576, .inl f))) mx mt mp mo md f mk mr tb pc fa go := by
  obtain ⟨a1, a2, a3, a4, a5, a6, a7, a8, a9, a10, a11, a12⟩ := A
  refine ⟨?_, ?_, ?_, ?_, ?_, ?_, ?_, ?_, ?_, ?_, ?_, ?_⟩ <;> simp only [aq_gI, aq_gL, aq_gA, aq_isA, aq_s1, aq_s2, aq_kill, aq_ob, aq_sm, aq_arI, aq_arB, aq_isB, aq_arL, aq_arA, aq_arN, aq_sh, Value.category, List.getElem?_cons_zero, List.getElem?_cons_succ, List.length_cons, List.length_nil, Option.toList_some, Option.toList_none, List.cons_append, List.nil_append, true_and, and_true, List.set_cons_zero, List.set_cons_succ, aq_n1, aq_n2, aq_n3, aq_n4, aq_f1, aq_f2, aq_f3, aq_f4, aq_gs, aq_ty1, aq_ty2, aq_ty3, aq_ty4, aq_ty5, Nat.reduceAdd, Nat.reduceLT, Nat.reduceEqDiff, Nat.reduceSub, if_true, if_false, ne_eq, not_false_eq_true, not_true_eq_false, Option.map_some, Option.map_none, Nat.zero_add, reduceCtorEq, Nat.reduceLeDiff, one_ne_zero_a, zero_ne_one_a, a1, a2, a3, a4, a5, a6, a7, a8, a9, a10, a11, a12]
theorem iAr.s56 (A : iAr h mx mt mp mo md mw mk mr tb pc fa go) (f : Nat → Int32) : iAr (h.set 55 (.inl (.int, 4, .inl f))) mx mt mp mo md mw f mr tb pc fa go := by
  obtain ⟨a1, a2, a3, a4, a5, a6, a7, a8, a9, a10, a11, a12⟩ := A
  refine ⟨?_, ?_, ?_, ?_, ?_, ?_, ?_, ?_, ?_, ?_, ?_, ?_⟩ <;> simp only [aq_gI, aq_gL, aq_gA, aq_isA, aq_s1, aq_s2, aq_kill, aq_ob, aq_sm, aq_arI, aq_arB, aq_isB, aq_arL, aq_arA, aq_arN, aq_sh, Value.category, List.getElem?_cons_zero, List.getElem?_cons_succ, List.length_cons, List.length_nil, Option.toList_some, Option.toList_none, List.cons_append, List.nil_append, true_and, and_true, List.set_cons_zero, List.set_cons_succ, aq_n1, aq_n2, aq_n3, aq_n4, aq_f1, aq_f2, aq_f3, aq_f4, aq_gs, aq_ty1, aq_ty2, aq_ty3, aq_ty4, aq_ty5, Nat.reduceAdd, Nat.reduceLT, Nat.reduceEqDiff, Nat.reduceSub, if_true, if_false, ne_eq, not_false_eq_true, not_true_eq_false, Option.map_some, Option.map_none, Nat.zero_add, reduceCtorEq, Nat.reduceLeDiff, one_ne_zero_a, zero_ne_one_a, a1, a2, a3, a4, a5, a6, a7, a8, a9, a10, a11, a12]
theorem iAr.s58 (A : iAr h mx mt mp mo md mw mk mr tb pc fa go) (f : Nat → Int64) : iAr (h.set 57 (.inl (.long, 256, .inr (.inl f)))) mx mt mp mo md mw mk mr f pc fa go := by
  obtain ⟨a1, a2, a3, a4, a5, a6, a7, a8, a9, a10, a11, a12⟩ := A
  refine ⟨?_, ?_, ?_, ?_, ?_, ?_, ?_, ?_, ?_, ?_, ?_, ?_⟩ <;> simp only [aq_gI, aq_gL, aq_gA, aq_isA, aq_s1, aq_s2, aq_kill, aq_ob, aq_sm, aq_arI, aq_arB, aq_isB, aq_arL, aq_arA, aq_arN, aq_sh, Value.category, List.getElem?_cons_zero, List.getElem?_cons_succ, List.length_cons, List.length_nil, Option.toList_some, Option.toList_none, List.cons_append, List.nil_append, true_and, and_true, List.set_cons_zero, List.set_cons_succ, aq_n1, aq_n2, aq_n3, aq_n4, aq_f1, aq_f2, aq_f3, aq_f4, aq_gs, aq_ty1, aq_ty2, aq_ty3, aq_ty4, aq_ty5, Nat.reduceAdd, Nat.reduceLT, Nat.reduceEqDiff, Nat.reduceSub, if_true, if_false, ne_eq, not_false_eq_true, not_true_eq_false, Option.map_some, Option.map_none, Nat.zero_add, reduceCtorEq, Nat.reduceLeDiff, one_ne_zero_a, zero_ne_one_a, a1, a2, a3, a4, a5, a6, a7, a8, a9, a10, a11, a12]
theorem iAr.s59 (A : iAr h mx mt mp mo md mw mk mr tb pc fa go) (f : Nat → Int32) : iAr (h.set 58 (.inl (.int, 144, .inl f))) mx mt mp mo md mw mk mr tb f fa go := by
  obtain ⟨a1, a2, a3, a4, a5, a6, a7, a8, a9, a10, a11, a12⟩ := A
  refine ⟨?_, ?_, ?_, ?_, ?_, ?_, ?_, ?_, ?_, ?_, ?_, ?_⟩ <;> simp only [aq_gI, aq_gL, aq_gA, aq_isA, aq_s1, aq_s2, aq_kill, aq_ob, aq_sm, aq_arI, aq_arB, aq_isB, aq_arL, aq_arA, aq_arN, aq_sh, Value.category, List.getElem?_cons_zero, List.getElem?_cons_succ, List.length_cons, List.length_nil, Option.toList_some, Option.toList_none, List.cons_append, List.nil_append, true_and, and_true, List.set_cons_zero, List.set_cons_succ, aq_n1, aq_n2, aq_n3, aq_n4, aq_f1, aq_f2, aq_f3, aq_f4, aq_gs, aq_ty1, aq_ty2, aq_ty3, aq_ty4, aq_ty5, Nat.reduceAdd, Nat.reduceLT, Nat.reduceEqDiff, Nat.reduceSub, if_true, if_false, ne_eq, not_false_eq_true, not_true_eq_false, Option.map_some, Option.map_none, Nat.zero_add, reduceCtorEq, Nat.reduceLeDiff, one_ne_zero_a, zero_ne_one_a, a1, a2, a3, a4, a5, a6, a7, a8, a9, a10, a11, a12]
theorem iAr.s60 (A : iAr h mx mt mp mo md mw mk mr tb pc fa go) (f : Nat → Int32) : iAr (h.set 59 (.inl (.int, 2304, .inl f))) mx mt mp mo md mw mk mr tb pc f go := by
  obtain ⟨a1, a2, a3, a4, a5, a6, a7, a8, a9, a10, a11, a12⟩ := A
  refine ⟨?_, ?_, ?_, ?_, ?_, ?_, ?_, ?_, ?_, ?_, ?_, ?_⟩ <;> simp only [aq_gI, aq_gL, aq_gA, aq_isA, aq_s1, aq_s2, aq_kill, aq_ob, aq_sm, aq_arI, aq_arB, aq_isB, aq_arL, aq_arA, aq_arN, aq_sh, Value.category, List.getElem?_cons_zero, List.getElem?_cons_succ, List.length_cons, List.length_nil, Option.toList_some, Option.toList_none, List.cons_append, List.nil_append, true_and, and_true, List.set_cons_zero, List.set_cons_succ, aq_n1, aq_n2, aq_n3, aq_n4, aq_f1, aq_f2, aq_f3, aq_f4, aq_gs, aq_ty1, aq_ty2, aq_ty3, aq_ty4, aq_ty5, Nat.reduceAdd, Nat.reduceLT, Nat.reduceEqDiff, Nat.reduceSub, if_true, if_false, ne_eq, not_false_eq_true, not_true_eq_false, Option.map_some, Option.map_none, Nat.zero_add, reduceCtorEq, Nat.reduceLeDiff, one_ne_zero_a, zero_ne_one_a, a1, a2, a3, a4, a5, a6, a7, a8, a9, a10, a11, a12]
theorem iAr.s61 (A : iAr h mx mt mp mo md mw mk mr tb pc fa go) (f : Nat → Int32) : iAr (h.set 60 (.inl (.boolean, 2304, .inl f))) mx mt mp mo md mw mk mr tb pc fa f := by
  obtain ⟨a1, a2, a3, a4, a5, a6, a7, a8, a9, a10, a11, a12⟩ := A
  refine ⟨?_, ?_, ?_, ?_, ?_, ?_, ?_, ?_, ?_, ?_, ?_, ?_⟩ <;> simp only [aq_gI, aq_gL, aq_gA, aq_isA, aq_s1, aq_s2, aq_kill, aq_ob, aq_sm, aq_arI, aq_arB, aq_isB, aq_arL, aq_arA, aq_arN, aq_sh, Value.category, List.getElem?_cons_zero, List.getElem?_cons_succ, List.length_cons, List.length_nil, Option.toList_some, Option.toList_none, List.cons_append, List.nil_append, true_and, and_true, List.set_cons_zero, List.set_cons_succ, aq_n1, aq_n2, aq_n3, aq_n4, aq_f1, aq_f2, aq_f3, aq_f4, aq_gs, aq_ty1, aq_ty2, aq_ty3, aq_ty4, aq_ty5, Nat.reduceAdd, Nat.reduceLT, Nat.reduceEqDiff, Nat.reduceSub, if_true, if_false, ne_eq, not_false_eq_true, not_true_eq_false, Option.map_some, Option.map_none, Nat.zero_add, reduceCtorEq, Nat.reduceLeDiff, one_ne_zero_a, zero_ne_one_a, a1, a2, a3, a4, a5, a6, a7, a8, a9, a10, a11, a12]
theorem smx (k : Nat) (hk : 47 ≤ k) (hk2 : k ≤ 60) (h : aq_H) (e : aq_E) : sm 47 60 h (h.set k e) := (sm.rf _ _ _).st hk hk2
theorem sm1 (k : Nat) (h : aq_H) (e : aq_E) : sm k k h (h.set k e) := (sm.rf _ _ _).st (Nat.le_refl _) (Nat.le_refl _)
theorem iAr_pp {mx' mt' : Nat → Int32} (A : iAr h mx mt mp mo md mw mk mr tb pc fa go) (S : sm 49 50 h h') (b1 : h'[49]? = some (.inl (.int, 144, .inl mx'))) (b2 : h'[50]? = some (.inl (.int, 144, .inl mt'))) : iAr h' mx' mt' mp mo md mw mk mr tb pc fa go := by
  obtain ⟨a1, a2, a3, a4, a5, a6, a7, a8, a9, a10, a11, a12⟩ := A
  exact ⟨b1, b2, (S 51 (by decide)).trans a3, (S 52 (by decide)).trans a4, (S 53 (by decide)).trans a5, (S 54 (by decide)).trans a6, (S 55 (by decide)).trans a7, (S 56 (by decide)).trans a8, (S 57 (by decide)).trans a9, (S 58 (by decide)).trans a10, (S 59 (by decide)).trans a11, (S 60 (by decide)).trans a12⟩
theorem iAr_rr {mr' : Nat → Int32} (A : iAr h mx mt mp mo md mw mk mr tb pc fa go) (S : sm 56 56 h h') (b8 : h'[56]? = some (.inl (.boolean, 144, .inl mr'))) : iAr h' mx mt mp mo md mw mk mr' tb pc fa go := by
  obtain ⟨a1, a2, a3, a4, a5, a6, a7, a8, a9, a10, a11, a12⟩ := A
  exact ⟨(S 49 (by decide)).trans a1, (S 50 (by decide)).trans a2, (S 51 (by decide)).trans a3, (S 52 (by decide)).trans a4, (S 53 (by decide)).trans a5, (S 54 (by decide)).trans a6, (S 55 (by decide)).trans a7, b8, (S 57 (by decide)).trans a9, (S 58 (by decide)).trans a10, (S 59 (by decide)).trans a11, (S 60 (by decide)).trans a12⟩
def gMq (w ht : Nat) (wx wy : Bool) (cb : Nat → Bool) (seed : Int32) (root : Nat) (p : Nat → Nat) (mx mt mp : Nat → Int32) : Prop :=
  (∀ c, SS w ht cb root c → mx c = Xs seed c (p c) ∧ mt c = nI (Tp w ht wx wy cb seed c (p c))) ∧ (∀ c, c < w * ht → cb c = false → mp c = nI (p c))
theorem gMq_bump (g : gMq w ht wx wy cb seed root p mx mt mp) {c : Nat} (hs : SS w ht cb root c) : gMq w ht wx wy cb seed root (fs p c (p c + 1)) (upd mx c (nxt (mx c))) (upd mt c (nI ((wyl w ht wx wy cb c).getD (chs (nxt (mx c)) (wyl w ht wx wy cb c).length) 0))) (upd mp c (mp c + 1)) := by
  obtain ⟨g1, g2⟩ := g
  have hx := (g1 c hs).1
  refine ⟨fun c' hs' => ?_, fun c' hc' hb' => ?_⟩
  · by_cases z : c' = c
    · rw [z, upd_s, upd_s, fs_s, hx]; exact ⟨rfl, rfl⟩
    · rw [upd_n _ _ z, upd_n _ _ z, fs_n _ _ z]; exact g1 c' hs'
  · by_cases z : c' = c
    · rw [z, upd_s, fs_s, g2 c hs.1 hs.2.1]; exact nI_1 _
    · rw [upd_n _ _ z, fs_n _ _ z]; exact g2 c' hc' hb'
/-- the model while it makes -/
def MKS (h0 h : aq_H) (w ht : Nat) (wx wy : Bool) (cb : Nat → Bool) (seed : Int32) (root k : Nat) (p : Nat → Nat) : Prop :=
  sm 47 60 h0 h ∧ ∃ wr st ex pl hd sg mc mx mt mp mo md mw mk mr tb pc fa go, iMo h w ht wr 0 0 (nI root) (nI k) st ex pl hd sg ∧ gMb h w ht wx wy cb wr mc ∧ iAr h mx mt mp mo md mw mk mr tb pc fa go ∧ gMq w ht wx wy cb seed root p mx mt mp
theorem mk_in {Q : Option Value → aq_H → Prop} {h0 : aq_H} {x0 x1 : Int32} (hQ : gOv w ht wx wy cb seed root → ∀ h', sm 47 60 h0 h' → MDL h' w ht wx wy cb false D Z P → Q (some (.int 2)) h') (hcn : ∀ c, SS w ht cb root c → 0 < (wyl w ht wx wy cb c).length) {k L : Nat} {b : Nat → Nat} (q2 : gPp w ht wx wy cb seed root p k) (hL : 0 < L) (hS : ∀ t, t < L → SS w ht cb root (b t)) (hi : ∀ i j, i < j → j < L → b i ≠ b j) (hx : ∀ t, t < L → Fn w ht wx wy cb seed (b t) (p (b t)) = b (t + 1)) (hc : b L = b 0)
    (K : ∀ h2 L6, MKS h0 h2 w ht wx wy cb seed root (k + 1) (bmp p b L) → (∀ t, t < L → p (b t) < 5000) → aq_W e_X10_make Q 189 [some (.ref 47), some (.int x0), some (.int x1), some (.int (nI (b 0))), some (.int (nI (b 0))), some (.int 0), L6] [] h2 0 0) :
    ∀ (j m : Nat), m + j = L → ∀ (h2 : aq_H) (L6 : Option Value), MKS h0 h2 w ht wx wy cb seed root (k + 1) (bmp p b m) → (∀ t, t < m → p (b t) < 5000) → aq_W e_X10_make Q 123 [some (.ref 47), some (.int x0), some (.int x1), some (.int (nI (b m))), some (.int (nI (b 0))), some (.int (bB (decide (m < L)))), L6] [] h2 0 0 := by
  intro j
  induction j with
  | zero =>
    intro m hm h2 L6 T hlt
    have e : m = L := by omega
    subst e
    rw [s_X10_make_123, hc, decide_eq_false (Nat.lt_irrefl m)]
    simp only [s_X10_make_125, aq_gI, aq_gL, aq_gA, aq_isA, aq_s1, aq_s2, aq_kill, aq_ob, aq_sm, aq_arI, aq_arB, aq_isB, aq_arL, aq_arA, aq_arN, aq_sh, Value.category, List.getElem?_cons_zero, List.getElem?_cons_succ, List.length_cons, List.length_nil, Option.toList_some, Option.toList_none, List.cons_append, List.nil_append, true_and, and_true, List.set_cons_zero, List.set_cons_succ, aq_n1, aq_n2, aq_n3, aq_n4, aq_f1, aq_f2, aq_f3, aq_f4, aq_gs, aq_ty1, aq_ty2, aq_ty3, aq_ty4, aq_ty5, Nat.reduceAdd, Nat.reduceLT, Nat.reduceEqDiff, Nat.reduceSub, if_true, if_false, ne_eq, not_false_eq_true, not_true_eq_false, Option.map_some, Option.map_none, Nat.zero_add, reduceCtorEq, Nat.reduceLeDiff, one_ne_zero_a, zero_ne_one_a, aq_nb, aq_nb1, aq_nb0, aq_fb, aq_fb1, aq_fb0, aq_ofN, bB_t, bB_f, bB_v, vpn_b1, vpn_b0, nI_1, Bool.true_eq_false, Bool.false_eq_true, Bool.true_and, Bool.false_and, Bool.and_true, Bool.and_false]
    exact K h2 L6 T hlt
  | succ j ih =>
    intro m hm h2 L6 T hlt
    have hmL : m < L := by omega
    have hs := hS m hmL
    obtain ⟨S, wr, st, ex, pl, hd, sg, mc, mx, mt, mp, mo, md, mw, mk, mr, tb, pc, fa, go, O, G, A, g⟩ := T
    have hn := wh_lt G.1
    have O1 := O
    unfold iMo at O1
    have pe : bmp p b m (b m) = p (b m) := bmp_out m (b m) (fun t ht => (hi t m ht hmL).symm)
    obtain ⟨t1, t2⟩ := Tp_ok (seed := seed) (t := p (b m)) (hcn (b m) hs)
    have hbl := hs.1
    have hin := vp_in_nI (show b m < 144 by omega) (show 144 < 2 ^ 31 by decide)
    have hcl := nI_clamp (show b m < 2 ^ 31 by omega)
    have tv : mt (b m) = nI (Tp w ht wx wy cb seed (b m) (p (b m))) := by rw [(g.1 (b m) hs).2, pe]
    have pv : mp (b m) = nI (p (b m)) := by rw [g.2 (b m) hs.1 hs.2.1, pe]
    rw [s_X10_make_123, decide_eq_true hmL]
    simp only [s_X10_make_125, s_X10_make_128, s_X10_make_129, s_X10_make_130, s_X10_make_131, s_X10_make_134, s_X10_make_135, s_X10_make_136, aq_gI, aq_gL, aq_gA, aq_isA, aq_s1, aq_s2, aq_kill, aq_ob, aq_sm, aq_arI, aq_arB, aq_isB, aq_arL, aq_arA, aq_arN, aq_sh, Value.category, List.getElem?_cons_zero, List.getElem?_cons_succ, List.length_cons, List.length_nil, Option.toList_some, Option.toList_none, List.cons_append, List.nil_append, true_and, and_true, List.set_cons_zero, List.set_cons_succ, aq_n1, aq_n2, aq_n3, aq_n4, aq_f1, aq_f2, aq_f3, aq_f4, aq_gs, aq_ty1, aq_ty2, aq_ty3, aq_ty4, aq_ty5, Nat.reduceAdd, Nat.reduceLT, Nat.reduceEqDiff, Nat.reduceSub, if_true, if_false, ne_eq, not_false_eq_true, not_true_eq_false, Option.map_some, Option.map_none, Nat.zero_add, reduceCtorEq, Nat.reduceLeDiff, one_ne_zero_a, zero_ne_one_a, aq_nb, aq_nb1, aq_nb0, aq_fb, aq_fb1, aq_fb0, aq_ofN, bB_t, bB_f, bB_v, vpn_b1, vpn_b0, nI_1, Bool.true_eq_false, Bool.false_eq_true, Bool.true_and, Bool.false_and, Bool.and_true, Bool.and_false, O1, A.2.1, hin, hcl, tv]
    refine (m_next O G (nI (b m)) (nI (Tp w ht wx wy cb seed (b m) (p (b m))))).use ?_
    rintro _ h2 ⟨rfl, rfl⟩
    rw [NX_in hs.1 (by omega) t1, t2, hx m hmL]
    have hp5 := q2.2 (b m)
    have h5k : (5000 : Int32) = nI 5000 := by decide
    have pop := Pop_b hL hS hi hx hc
    simp only [oI]
    by_cases e5 : p (b m) < 5000
    · simp only [s_X10_make_139, s_X10_make_141, s_X10_make_142, s_X10_make_145, s_X10_make_146, s_X10_make_147, s_X10_make_148, s_X10_make_149, s_X10_make_150, s_X10_make_151, s_X10_make_152, s_X10_make_155, s_X10_make_156, s_X10_make_157, s_X10_make_160, s_X10_make_165, s_X10_make_166, s_X10_make_167, aq_gI, aq_gL, aq_gA, aq_isA, aq_s1, aq_s2, aq_kill, aq_ob, aq_sm, aq_arI, aq_arB, aq_isB, aq_arL, aq_arA, aq_arN, aq_sh, Value.category, List.getElem?_cons_zero, List.getElem?_cons_succ, List.length_cons, List.length_nil, Option.toList_some, Option.toList_none, List.cons_append, List.nil_append, true_and, and_true, List.set_cons_zero, List.set_cons_succ, aq_n1, aq_n2, aq_n3, aq_n4, aq_f1, aq_f2, aq_f3, aq_f4, aq_gs, aq_ty1, aq_ty2, aq_ty3, aq_ty4, aq_ty5, Nat.reduceAdd, Nat.reduceLT, Nat.reduceEqDiff, Nat.reduceSub, if_true, if_false, ne_eq, not_false_eq_true, not_true_eq_false, Option.map_some, Option.map_none, Nat.zero_add, reduceCtorEq, Nat.reduceLeDiff, one_ne_zero_a, zero_ne_one_a, aq_nb, aq_nb1, aq_nb0, aq_fb, aq_fb1, aq_fb0, aq_ofN, bB_t, bB_f, bB_v, vpn_b1, vpn_b0, nI_1, Bool.true_eq_false, Bool.false_eq_true, Bool.true_and, Bool.false_and, Bool.and_true, Bool.and_false, O1, A.2.2.1, hin, hcl, pv, upd_s, h5k, nI_le (show p (b m) + 1 ≤ 5000 by omega) (show 5000 < 2 ^ 31 by decide)]
      have S2 := sm1 51 h2 (.inl (.int, 144, .inl (upd mp (b m) (nI (p (b m) + 1)))))
      have O2 := O.sm S2 (by decide)
      have G2 := G.sm S2 (by decide)
      have A2 := A.s52 (upd mp (b m) (nI (p (b m) + 1)))
      refine (m_pop O2 G2 A2.1 A2.2.1 hs.1 (hcn (b m) hs)).use ?_
      rintro _ h3 ⟨rfl, S3, b1, b2⟩
      have O3 := O2.sm S3 (by decide)
      have G3 := G2.sm S3 (by decide)
      have A3 := iAr_pp A2 S3 b1 b2
      have g3 := gMq_bump g hs
      rw [pv, nI_1] at g3
      have T3 : MKS h0 h3 w ht wx wy cb seed root (k + 1) (bmp p b (m + 1)) := ⟨(S.tr (S2.mo (by decide) (by decide))).tr (S3.mo (by decide) (by decide)), _, _, _, _, _, _, _, _, _, _, _, _, _, _, _, _, _, _, _, O3, G3, A3, g3⟩
      have hlt2 : ∀ t, t < m + 1 → p (b t) < 5000 := by
        intro t ht
        by_cases z : t = m
        · rw [z]; exact e5
        · exact hlt t (by omega)
      by_cases eL : m + 1 = L
      · have eb : b (m + 1) = b 0 := by rw [eL]; exact hc
        have := ih (m + 1) (by omega) h3 (some (.int (nI (b (m + 1))))) T3 hlt2
        rw [decide_eq_false (by omega)] at this
        simp only [s_X10_make_170, s_X10_make_172, s_X10_make_173, s_X10_make_174, s_X10_make_176, s_X10_make_183, s_X10_make_184, s_X10_make_186, aq_gI, aq_gL, aq_gA, aq_isA, aq_s1, aq_s2, aq_kill, aq_ob, aq_sm, aq_arI, aq_arB, aq_isB, aq_arL, aq_arA, aq_arN, aq_sh, Value.category, List.getElem?_cons_zero, List.getElem?_cons_succ, List.length_cons, List.length_nil, Option.toList_some, Option.toList_none, List.cons_append, List.nil_append, true_and, and_true, List.set_cons_zero, List.set_cons_succ, aq_n1, aq_n2, aq_n3, aq_n4, aq_f1, aq_f2, aq_f3, aq_f4, aq_gs, aq_ty1, aq_ty2, aq_ty3, aq_ty4, aq_ty5, Nat.reduceAdd, Nat.reduceLT, Nat.reduceEqDiff, Nat.reduceSub, if_true, if_false, ne_eq, not_false_eq_true, not_true_eq_false, Option.map_some, Option.map_none, Nat.zero_add, reduceCtorEq, Nat.reduceLeDiff, one_ne_zero_a, zero_ne_one_a, aq_nb, aq_nb1, aq_nb0, aq_fb, aq_fb1, aq_fb0, aq_ofN, bB_t, bB_f, bB_v, vpn_b1, vpn_b0, nI_1, Bool.true_eq_false, Bool.false_eq_true, Bool.true_and, Bool.false_and, Bool.and_true, Bool.and_false, eb] at this ⊢
        exact this
      · have hs2 := hS (m + 1) (by omega)
        have ne : ¬ nI (b (m + 1)) = nI (b 0) := fun z => hi 0 (m + 1) (by omega) (by omega) ((nI_eq (by have := hs2.1; omega) (by have := (hS 0 hL).1; omega)).mp z).symm
        have := ih (m + 1) (by omega) h3 (some (.int (nI (b (m + 1))))) T3 hlt2
        rw [decide_eq_true (by omega)] at this
        simp only [s_X10_make_170, s_X10_make_172, s_X10_make_173, s_X10_make_174, s_X10_make_176, s_X10_make_179, s_X10_make_180, s_X10_make_184, s_X10_make_186, aq_gI, aq_gL, aq_gA, aq_isA, aq_s1, aq_s2, aq_kill, aq_ob, aq_sm, aq_arI, aq_arB, aq_isB, aq_arL, aq_arA, aq_arN, aq_sh, Value.category, List.getElem?_cons_zero, List.getElem?_cons_succ, List.length_cons, List.length_nil, Option.toList_some, Option.toList_none, List.cons_append, List.nil_append, true_and, and_true, List.set_cons_zero, List.set_cons_succ, aq_n1, aq_n2, aq_n3, aq_n4, aq_f1, aq_f2, aq_f3, aq_f4, aq_gs, aq_ty1, aq_ty2, aq_ty3, aq_ty4, aq_ty5, Nat.reduceAdd, Nat.reduceLT, Nat.reduceEqDiff, Nat.reduceSub, if_true, if_false, ne_eq, not_false_eq_true, not_true_eq_false, Option.map_some, Option.map_none, Nat.zero_add, reduceCtorEq, Nat.reduceLeDiff, one_ne_zero_a, zero_ne_one_a, aq_nb, aq_nb1, aq_nb0, aq_fb, aq_fb1, aq_fb0, aq_ofN, bB_t, bB_f, bB_v, vpn_b1, vpn_b0, nI_1, Bool.true_eq_false, Bool.false_eq_true, Bool.true_and, Bool.false_and, Bool.and_true, Bool.and_false, ne] at this ⊢
        exact this
    · have hle : ¬ nI (p (b m) + 1) ≤ nI 5000 := nI_ge (by omega) (by omega)
      simp only [s_X10_make_139, s_X10_make_141, s_X10_make_142, s_X10_make_145, s_X10_make_146, s_X10_make_147, s_X10_make_148, s_X10_make_149, s_X10_make_150, s_X10_make_151, s_X10_make_152, s_X10_make_155, s_X10_make_156, s_X10_make_157, s_X10_make_160, s_X10_make_163, s_X10_make_164, aq_gI, aq_gL, aq_gA, aq_isA, aq_s1, aq_s2, aq_kill, aq_ob, aq_sm, aq_arI, aq_arB, aq_isB, aq_arL, aq_arA, aq_arN, aq_sh, Value.category, List.getElem?_cons_zero, List.getElem?_cons_succ, List.length_cons, List.length_nil, Option.toList_some, Option.toList_none, List.cons_append, List.nil_append, true_and, and_true, List.set_cons_zero, List.set_cons_succ, aq_n1, aq_n2, aq_n3, aq_n4, aq_f1, aq_f2, aq_f3, aq_f4, aq_gs, aq_ty1, aq_ty2, aq_ty3, aq_ty4, aq_ty5, Nat.reduceAdd, Nat.reduceLT, Nat.reduceEqDiff, Nat.reduceSub, if_true, if_false, ne_eq, not_false_eq_true, not_true_eq_false, Option.map_some, Option.map_none, Nat.zero_add, reduceCtorEq, Nat.reduceLeDiff, one_ne_zero_a, zero_ne_one_a, aq_nb, aq_nb1, aq_nb0, aq_fb, aq_fb1, aq_fb0, aq_ofN, bB_t, bB_f, bB_v, vpn_b1, vpn_b0, nI_1, Bool.true_eq_false, Bool.false_eq_true, Bool.true_and, Bool.false_and, Bool.and_true, Bool.and_false, O1, A.2.2.1, hin, hcl, pv, upd_s, h5k, hle]
      have S2 := sm1 51 h2 (.inl (.int, 144, .inl (upd mp (b m) (nI (p (b m) + 1)))))
      refine hQ ⟨k + 1, _, Pops_s k q2.1 pop, b m, ?_⟩ _ (S.tr (S2.mo (by decide) (by decide))) (MDL_mk (hm := false) (O.sm S2 (by decide)) (G.sm S2 (by decide)) (A.s52 _) (fun z => by cases z))
      rw [bmp_in L hi m hmL]
      omega
theorem mk_out {Q : Option Value → aq_H → Prop} {h0 : aq_H} {x0 x1 : Int32} (hr : root < w * ht) (hQ : gOv w ht wx wy cb seed root → ∀ h', sm 47 60 h0 h' → MDL h' w ht wx wy cb false D Z P → Q (some (.int 2)) h') (hcn : ∀ c, SS w ht cb root c → 0 < (wyl w ht wx wy cb c).length)
    (K : ∀ h2 p k L4 L5 L6, MKS h0 h2 w ht wx wy cb seed root k p → gEn w ht wx wy cb seed root p k → aq_W e_X10_make Q 197 [some (.ref 47), some (.int x0), some (.int x1), some (.int (-1)), L4, L5, L6] [] h2 0 0) :
    ∀ (f : Nat) (p : Nat → Nat) (k : Nat) (h2 : aq_H) (L4 L5 L6 : Option Value) (r : Option Value), 720001 ≤ f + sumf p (w * ht) → MKS h0 h2 w ht wx wy cb seed root k p → gPp w ht wx wy cb seed root p k → ((r = some (.int (-1)) ∧ ∀ c, SS w ht cb root c → Tr (SS w ht cb root) (Fn w ht wx wy cb seed) root p c) ∨ ∃ a, r = some (.int (nI a)) ∧ SS w ht cb root a ∧ (∃ L, 0 < L ∧ itn (gF (Fn w ht wx wy cb seed) p) L a = a) ∧ ∀ t, SS w ht cb root (itn (gF (Fn w ht wx wy cb seed) p) t a)) → aq_W e_X10_make Q 102 [some (.ref 47), some (.int x0), some (.int x1), r, L4, L5, L6] [] h2 0 0 := by
  intro f
  induction f with
  | zero =>
    intro p k h2 L4 L5 L6 r hf T q2
    obtain ⟨S, wr, st, ex, pl, hd, sg, mc, mx, mt, mp, mo, md, mw, mk, mr, tb, pc, fa, go, O, G, A, g⟩ := T
    have hn := wh_lt G.1
    have := sumf_le (w * ht) (fun c _ => q2.2 c)
    omega
  | succ f ih =>
    intro p k h2 L4 L5 L6 r hf T q2 hcases
    rcases hcases with ⟨rfl, hT⟩ | ⟨a, rfl, ha, hcy, hall⟩
    · rw [s_X10_make_102]
      simp only [s_X10_make_103, s_X10_make_104, aq_gI, aq_gL, aq_gA, aq_isA, aq_s1, aq_s2, aq_kill, aq_ob, aq_sm, aq_arI, aq_arB, aq_isB, aq_arL, aq_arA, aq_arN, aq_sh, Value.category, List.getElem?_cons_zero, List.getElem?_cons_succ, List.length_cons, List.length_nil, Option.toList_some, Option.toList_none, List.cons_append, List.nil_append, true_and, and_true, List.set_cons_zero, List.set_cons_succ, aq_n1, aq_n2, aq_n3, aq_n4, aq_f1, aq_f2, aq_f3, aq_f4, aq_gs, aq_ty1, aq_ty2, aq_ty3, aq_ty4, aq_ty5, Nat.reduceAdd, Nat.reduceLT, Nat.reduceEqDiff, Nat.reduceSub, if_true, if_false, ne_eq, not_false_eq_true, not_true_eq_false, Option.map_some, Option.map_none, Nat.zero_add, reduceCtorEq, Nat.reduceLeDiff, one_ne_zero_a, zero_ne_one_a, aq_nb, aq_nb1, aq_nb0, aq_fb, aq_fb1, aq_fb0, aq_ofN, bB_t, bB_f, bB_v, vpn_b1, vpn_b0, nI_1, Bool.true_eq_false, Bool.false_eq_true, Bool.true_and, Bool.false_and, Bool.and_true, Bool.and_false]
      exact K h2 p k L4 L5 L6 T ⟨q2, hT⟩
    · obtain ⟨L, hL, hLa, hinj⟩ := cyc_b hcy
      obtain ⟨S, wr, st, ex, pl, hd, sg, mc, mx, mt, mp, mo, md, mw, mk, mr, tb, pc, fa, go, O, G, A, g⟩ := T
      have hn := wh_lt G.1
      have O1 := O
      unfold iMo at O1
      have hal := ha.1
      rw [s_X10_make_102]
      simp only [s_X10_make_103, s_X10_make_104, s_X10_make_107, s_X10_make_108, s_X10_make_109, s_X10_make_112, s_X10_make_113, s_X10_make_114, s_X10_make_117, s_X10_make_118, s_X10_make_120, s_X10_make_121, aq_gI, aq_gL, aq_gA, aq_isA, aq_s1, aq_s2, aq_kill, aq_ob, aq_sm, aq_arI, aq_arB, aq_isB, aq_arL, aq_arA, aq_arN, aq_sh, Value.category, List.getElem?_cons_zero, List.getElem?_cons_succ, List.length_cons, List.length_nil, Option.toList_some, Option.toList_none, List.cons_append, List.nil_append, true_and, and_true, List.set_cons_zero, List.set_cons_succ, aq_n1, aq_n2, aq_n3, aq_n4, aq_f1, aq_f2, aq_f3, aq_f4, aq_gs, aq_ty1, aq_ty2, aq_ty3, aq_ty4, aq_ty5, Nat.reduceAdd, Nat.reduceLT, Nat.reduceEqDiff, Nat.reduceSub, if_true, if_false, ne_eq, not_false_eq_true, not_true_eq_false, Option.map_some, Option.map_none, Nat.zero_add, reduceCtorEq, Nat.reduceLeDiff, one_ne_zero_a, zero_ne_one_a, aq_nb, aq_nb1, aq_nb0, aq_fb, aq_fb1, aq_fb0, aq_ofN, bB_t, bB_f, bB_v, vpn_b1, vpn_b0, nI_1, Bool.true_eq_false, Bool.false_eq_true, Bool.true_and, Bool.false_and, Bool.and_true, Bool.and_false, nI_ne_m1 (show a < 2 ^ 31 by omega), O1]
      have T2 : MKS h0 (h2.set 47 (mOb w ht wr 0 0 (nI root) (nI (k + 1)) st ex pl hd sg)) w ht wx wy cb seed root (k + 1) p := ⟨S.st (by decide) (by decide), _, _, _, _, _, _, _, _, _, _, _, _, _, _, _, _, _, _, _, O.st 0 wr 0 (nI root) (nI (k + 1)) st ex pl hd sg, G.s48 _, A.s48 _, g⟩
      have e1 : (1 : Int32) = bB (decide (0 < L)) := by rw [decide_eq_true hL]; rfl
      rw [e1]
      refine mk_in (p := p) (b := fun t => itn (gF (Fn w ht wx wy cb seed) p) t a) hQ hcn q2 hL (fun t _ => hall t) hinj (fun t _ => (itn_s (gF (Fn w ht wx wy cb seed) p) t a).symm) hLa ?_ L 0 (Nat.zero_add _) _ L6 T2 (fun t ht => by omega)
      intro h3 L6 T3 hlt
      have q3 : gPp w ht wx wy cb seed root (bmp p (fun t => itn (gF (Fn w ht wx wy cb seed) p) t a) L) (k + 1) := by
        refine ⟨Pops_s k q2.1 (Pop_b hL (fun t _ => hall t) hinj (fun t _ => (itn_s (gF (Fn w ht wx wy cb seed) p) t a).symm) hLa), fun c => ?_⟩
        by_cases q : ∃ t, t < L ∧ c = itn (gF (Fn w ht wx wy cb seed) p) t a
        · obtain ⟨t, htt, rfl⟩ := q
          rw [bmp_in (b := fun t => itn (gF (Fn w ht wx wy cb seed) p) t a) L hinj t htt]
          exact hlt t htt
        · rw [bmp_out L c (fun t htt z => q ⟨t, htt, z⟩)]; exact q2.2 c
      have hsum := sumf_bmp (p := p) (b := fun t => itn (gF (Fn w ht wx wy cb seed) p) t a) (n := w * ht) L (fun t _ => (hall t).1)
      have T3' := T3
      obtain ⟨S, wr, st, ex, pl, hd, sg, mc, mx, mt, mp, mo, md, mw, mk, mr, tb, pc, fa, go, O, G, A, g⟩ := T3
      have O1 := O
      unfold iMo at O1
      simp only [s_X10_make_189, s_X10_make_190, aq_gI, aq_gL, aq_gA, aq_isA, aq_s1, aq_s2, aq_kill, aq_ob, aq_sm, aq_arI, aq_arB, aq_isB, aq_arL, aq_arA, aq_arN, aq_sh, Value.category, List.getElem?_cons_zero, List.getElem?_cons_succ, List.length_cons, List.length_nil, Option.toList_some, Option.toList_none, List.cons_append, List.nil_append, true_and, and_true, List.set_cons_zero, List.set_cons_succ, aq_n1, aq_n2, aq_n3, aq_n4, aq_f1, aq_f2, aq_f3, aq_f4, aq_gs, aq_ty1, aq_ty2, aq_ty3, aq_ty4, aq_ty5, Nat.reduceAdd, Nat.reduceLT, Nat.reduceEqDiff, Nat.reduceSub, if_true, if_false, ne_eq, not_false_eq_true, not_true_eq_false, Option.map_some, Option.map_none, Nat.zero_add, reduceCtorEq, Nat.reduceLeDiff, one_ne_zero_a, zero_ne_one_a, aq_nb, aq_nb1, aq_nb0, aq_fb, aq_fb1, aq_fb0, aq_ofN, bB_t, bB_f, bB_v, vpn_b1, vpn_b0, nI_1, Bool.true_eq_false, Bool.false_eq_true, Bool.true_and, Bool.false_and, Bool.and_true, Bool.and_false, O1]
      refine (m_circle (p := bmp p (fun t => itn (gF (Fn w ht wx wy cb seed) p) t a) L) O G A.2.1 hr hcn (fun c hc => (g.1 c hc).2)).use ?_
      rintro r4 h4 ⟨rfl, hcases⟩
      have hr4 : ∃ v, r4 = some (.int v) := by
        rcases hcases with ⟨rfl, -⟩ | ⟨a, rfl, -⟩
        · exact ⟨_, rfl⟩
        · exact ⟨_, rfl⟩
      obtain ⟨v, rfl⟩ := hr4
      simp only [s_X10_make_193, s_X10_make_194, aq_gI, aq_gL, aq_gA, aq_isA, aq_s1, aq_s2, aq_kill, aq_ob, aq_sm, aq_arI, aq_arB, aq_isB, aq_arL, aq_arA, aq_arN, aq_sh, Value.category, List.getElem?_cons_zero, List.getElem?_cons_succ, List.length_cons, List.length_nil, Option.toList_some, Option.toList_none, List.cons_append, List.nil_append, true_and, and_true, List.set_cons_zero, List.set_cons_succ, aq_n1, aq_n2, aq_n3, aq_n4, aq_f1, aq_f2, aq_f3, aq_f4, aq_gs, aq_ty1, aq_ty2, aq_ty3, aq_ty4, aq_ty5, Nat.reduceAdd, Nat.reduceLT, Nat.reduceEqDiff, Nat.reduceSub, if_true, if_false, ne_eq, not_false_eq_true, not_true_eq_false, Option.map_some, Option.map_none, Nat.zero_add, reduceCtorEq, Nat.reduceLeDiff, one_ne_zero_a, zero_ne_one_a, aq_nb, aq_nb1, aq_nb0, aq_fb, aq_fb1, aq_fb0, aq_ofN, bB_t, bB_f, bB_v, vpn_b1, vpn_b0, nI_1, Bool.true_eq_false, Bool.false_eq_true, Bool.true_and, Bool.false_and, Bool.and_true, Bool.and_false]
      exact ih _ _ h4 _ _ _ (some (.int v)) (by omega) T3' q3 hcases
end MMK
