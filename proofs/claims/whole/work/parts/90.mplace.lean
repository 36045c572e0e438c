-- dep 62.base2 63.ops 65.num2 66.flood 67.kp 68.place 70.mdl 71.mdl2 72.mdl3 80.cyc 81.lay 82.pop 83.join 84.make 85.sweep 86.mcirc 87.mmake
/-! the model's placeKeys -/
theorem lop_of {p : Nat → Bool} {l : Nat} : ∀ (n k : Nat), k ≤ l → l < k + n → p l = true → (∀ j, k ≤ j → j < l → p j = false) → lop p n k = some l
  | 0, k, h1, h2, _, _ => by omega
  | n + 1, k, h1, h2, h3, h4 => by
    unfold lop
    by_cases e : k = l
    · rw [e, h3, if_pos rfl]
    · rw [h4 k (Nat.le_refl _) (by omega), if_neg (by decide)]
      exact lop_of n (k + 1) (by omega) (by omega) h3 (fun j q1 q2 => h4 j (by omega) q2)
theorem lop_no {p : Nat → Bool} : ∀ (n k : Nat), (∀ j, k ≤ j → j < k + n → p j = false) → lop p n k = none
  | 0, k, _ => rfl
  | n + 1, k, h => by
    unfold lop
    rw [h k (Nat.le_refl _) (by omega), if_neg (by decide)]
    exact lop_no n (k + 1) (fun j q1 q2 => h j (by omega) (by omega))
theorem frc_s (u : Nat → Bool) (c : Nat) : frc u (c + 1) = frc u c + if u c = true then 0 else 1 := rfl
theorem frc_mn {u : Nat → Bool} {a : Nat} : ∀ b, a ≤ b → frc u a ≤ frc u b
  | 0, h => by have : a = 0 := by omega
               rw [this]; exact Nat.le_refl _
  | b + 1, h => by
    by_cases e : a = b + 1
    · rw [e]; exact Nat.le_refl _
    · have := frc_mn (u := u) (a := a) b (by omega)
      rw [frc_s]; omega
theorem nthc_fr {u : Nat → Bool} : ∀ (k c0 x l : Nat), c0 ≤ x → x < c0 + k → u x = false → frc u c0 + l = frc u x → nthc (fun c => !u c) k c0 l = some x
  | 0, c0, x, l, h1, h2, _, _ => by omega
  | k + 1, c0, x, l, h1, h2, h3, h4 => by
    unfold nthc
    by_cases e : c0 = x
    · subst e
      have : l = 0 := by omega
      rw [this]
      simp only [h3, Bool.not_false, if_true]
    · have hm := frc_mn (u := u) (a := c0 + 1) x (by omega)
      rw [frc_s] at hm
      cases q : u c0 with
      | false =>
        rw [q] at hm
        simp only [Bool.false_eq_true, if_false] at hm
        have hl : ¬ l = 0 := by omega
        simp only [q, Bool.not_false, if_true, hl, if_false]
        refine nthc_fr k (c0 + 1) x (l - 1) (by omega) (by omega) h3 ?_
        rw [frc_s, q]
        simp only [Bool.false_eq_true, if_false]
        omega
      | true =>
        simp only [q, Bool.not_true, Bool.false_eq_true, if_false]
        refine nthc_fr k (c0 + 1) x l (by omega) (by omega) h3 ?_
        rw [frc_s, q]
        simp only [if_true]
        omega
theorem frc_pos {u : Nat → Bool} {s n : Nat} (hs : s < n) (hu : u s = false) : 0 < frc u n := by
  have k1 := frc_un (cb := fun _ => true) hs rfl
  rw [frc_true] at k1
  have : frc (cbs (fun _ => true) s false) n ≤ frc u n := frc_mono n (fun c hc => by
    by_cases z : c = s
    · rw [z]; exact hu
    · rw [cbs_n _ _ z] at hc; cases hc)
  omega
section MPL
variable {h h' : aq_H} {w ht root : Nat} {wx wy hm : Bool} {cb : Nat → Bool} {seed : Int32} {p : Nat → Nat} {D : drT} {Z : mzT} {P : plT} {wr thr th rt ci st ex pl hd sg : Int32} {mc mx mt mp mo md mw mk mr pc fa go : Nat → Int32} {tb : Nat → Int64} {ob : Nat → Bool} {dr on ky : Nat → Option Nat}
theorem m_reach {s : Nat} (O : iMo h w ht wr thr 1 rt ci (nI s) ex pl hd sg) (G : gMb h w ht wx wy cb wr mc) (A : iAr h mx mt mp mo md mw mk mr tb pc fa go) (R : gMm w ht wx wy cb ob dr on mo md mw) (hD : ∀ p k, p < w * ht * 2 → dr p = some k → k < 4) (hs : s < w * ht) (keys : Int32) : aq_T e_X10_reach 6 0 0 [.ref 47, .int keys] h (fun r h' => r = none ∧ sm 56 56 h h' ∧ ∃ (mr : Nat → Int32) (u : Nat → Bool), h'[56]? = some (.inl (.boolean, 144, .inl mr)) ∧ (∀ j, j < w * ht → mr j = bB (!u j)) ∧ ∀ x, u x = false ↔ Rc (fun c d => stf w ht wx wy cb ob dr on c d keys) s x) := by
  refine ⟨Nat.le_of_ble_eq_true rfl, ?_⟩
  show aq_W _ _ 0 [some (.ref 47), some (.int keys), none, none, none, none] [] _ _ _
  refine rch_0 O G A.2.2.2.1 A.2.2.2.2.1 A.2.2.2.2.2.1 R hD hs (f := fun c d => stf w ht wx wy cb ob dr on c d keys) (fun _ _ _ _ => rfl) (fun c d m hc hd hx => stf_lt G.1 hc hd hx) A.2.2.2.2.2.2.2.1 ?_
  intro h2 mr2 u L3 L4 L5 S2 b8 g8 hu
  simp only [s_X10_reach_119, aq_gI, aq_gL, aq_gA, aq_isA, aq_s1, aq_s2, aq_kill, aq_ob, aq_sm, aq_arI, aq_arB, aq_isB, aq_arL, aq_arA, aq_arN, aq_sh, Value.category, List.getElem?_cons_zero, List.getElem?_cons_succ, List.length_cons, List.length_nil, Option.toList_some, Option.toList_none, List.cons_append, List.nil_append, true_and, and_true, List.set_cons_zero, List.set_cons_succ, aq_n1, aq_n2, aq_n3, aq_n4, aq_f1, aq_f2, aq_f3, aq_f4, aq_gs, aq_ty1, aq_ty2, aq_ty3, aq_ty4, aq_ty5, Nat.reduceAdd, Nat.reduceLT, Nat.reduceEqDiff, Nat.reduceSub, if_true, if_false, ne_eq, not_false_eq_true, not_true_eq_false, Option.map_some, Option.map_none, Nat.zero_add, reduceCtorEq, Nat.reduceLeDiff, one_ne_zero_a, zero_ne_one_a, aq_nb, aq_nb1, aq_nb0, aq_fb, aq_fb1, aq_fb0, aq_ofN, bB_t, bB_f, bB_v, vpn_b1, vpn_b0, nI_1, Bool.true_eq_false, Bool.false_eq_true, Bool.true_and, Bool.false_and, Bool.and_true, Bool.and_false]
  exact ⟨S2, mr2, u, b8, g8, hu⟩
/-- the least key wanted so far -/
def wnI (g : Nat → Nat → Option Nat) (u : Nat → Bool) (put c d l : Nat) : Prop :=
  l ≤ 4 ∧ (l < 4 → put.testBit l = false ∧ ∃ c' d', (c' < c ∨ (c' = c ∧ d' < d)) ∧ d' < 4 ∧ u c' = false ∧ g c' d' = some l) ∧ (∀ k c' d', (c' < c ∨ (c' = c ∧ d' < d)) → d' < 4 → u c' = false → g c' d' = some k → put.testBit k = false → l ≤ k)
theorem wnI_no {g : Nat → Nat → Option Nat} {u : Nat → Bool} {put c d l : Nat} (H : wnI g u put c d l) (h : u c = true ∨ g c d = none) : wnI g u put c (d + 1) l := by
  obtain ⟨h1, h2, h3⟩ := H
  refine ⟨h1, fun hl => ?_, fun k c' d' hb hd hu hg hp => ?_⟩
  · obtain ⟨y1, c', d', y2, y3⟩ := h2 hl
    exact ⟨y1, c', d', by omega, y3⟩
  · by_cases z : c' = c ∧ d' = d
    · rw [z.1] at hu
      rw [z.1, z.2] at hg
      rcases h with h | h
      · rw [hu] at h; cases h
      · rw [hg] at h; cases h
    · exact h3 k c' d' (by omega) hd hu hg hp
theorem wnI_go {g : Nat → Nat → Option Nat} {u : Nat → Bool} {put c d l k : Nat} (H : wnI g u put c d l) (hk : k < 4) (hd : d < 4) (hu : u c = false) (hg : g c d = some k) : wnI g u put c (d + 1) (if k < l ∧ put.testBit k = false then k else l) := by
  obtain ⟨h1, h2, h3⟩ := H
  by_cases e : k < l ∧ put.testBit k = false
  · rw [if_pos e]
    refine ⟨by omega, fun _ => ⟨e.2, c, d, by omega, hd, hu, hg⟩, fun k' c' d' hb hd' hu' hg' hp => ?_⟩
    by_cases z : c' = c ∧ d' = d
    · rw [z.1, z.2, hg] at hg'; cases hg'; exact Nat.le_refl _
    · have := h3 k' c' d' (by omega) hd' hu' hg' hp; omega
  · rw [if_neg e]
    refine ⟨h1, fun hl => ?_, fun k' c' d' hb hd' hu' hg' hp => ?_⟩
    · obtain ⟨y1, c', d', y2, y3⟩ := h2 hl
      exact ⟨y1, c', d', by omega, y3⟩
    · by_cases z : c' = c ∧ d' = d
      · rw [z.1, z.2, hg] at hg'; cases hg'
        have : ¬ k < l := fun q => e ⟨q, hp⟩
        omega
      · exact h3 k' c' d' (by omega) hd' hu' hg' hp
theorem wnI_nx {g : Nat → Nat → Option Nat} {u : Nat → Bool} {put c l : Nat} (H : wnI g u put c 4 l) : wnI g u put (c + 1) 0 l := by
  obtain ⟨h1, h2, h3⟩ := H
  refine ⟨h1, fun hl => ?_, fun k' c' d' hb hd' hu' hg' hp => h3 k' c' d' (by omega) hd' hu' hg' hp⟩
  obtain ⟨y1, c', d', y2, y3⟩ := h2 hl
  exact ⟨y1, c', d', by omega, y3⟩
theorem m_wanted (O : iMo h w ht wr thr 1 rt ci st ex pl hd sg) (G : gMb h w ht wx wy cb wr mc) (A : iAr h mx mt mp mo md mw mk mr tb pc fa go) (R : gMm w ht wx wy cb ob dr on mo md mw) (hD : ∀ p k, p < w * ht * 2 → dr p = some k → k < 4) {u : Nat → Bool} (hmr : ∀ j, j < w * ht → mr j = bB (!u j)) {put : Nat} (hp : put < 16) : aq_T e_X10_wanted 7 0 0 [.ref 47, .int (nI put)] h (rd (oI (lop (fun k => wkB (w * ht) (fun c => !u c) (fun c d => (wkp w ht wx wy cb ob on c d).bind dr) k && !put.testBit k) 4 0)) h) := by
  have hn := wh_lt G.1
  have O1 := O
  unfold iMo at O1
  generalize hgg : (fun c d => (wkp w ht wx wy cb ob on c d).bind dr) = gg
  have hgv : ∀ c d, (wkp w ht wx wy cb ob on c d).bind dr = gg c d := fun c d => by rw [← hgg]
  refine ⟨Nat.le_of_ble_eq_true rfl, ?_⟩
  show aq_W _ _ 0 [some (.ref 47), some (.int (nI put)), none, none, none, none, none] [] _ _ _
  generalize hQ : rd (oI (lop (fun k => wkB (w * ht) (fun c => !u c) gg k && !put.testBit k) 4 0)) h = Q
  have out : ∀ (j c l : Nat), c + j = w * ht → wnI gg u put c 0 l → ∀ (L4 L5 L6 : Option Value), aq_W e_X10_wanted Q 4 [some (.ref 47), some (.int (nI put)), some (.int (nI l)), some (.int (nI c)), L4, L5, L6] [] h 0 0 := by
    intro j
    induction j with
    | zero =>
      intro c l hc H L4 L5 L6
      have e : c = w * ht := by omega
      subst e
      obtain ⟨h1, h2, h3⟩ := H
      rw [s_X10_wanted_4]
      by_cases e4 : l = 4
      · have hl : lop (fun k => wkB (w * ht) (fun c => !u c) gg k && !put.testBit k) 4 0 = none := by
          refine lop_no 4 0 (fun k q1 q2 => ?_)
          cases z : wkB (w * ht) (fun c => !u c) gg k with
          | false => rfl
          | true =>
            obtain ⟨c, y1, y2, d, y3, y4⟩ := wkB_iff.mp z
            cases y : put.testBit k with
            | true => rfl
            | false => have := h3 k c d (by omega) y3 (by simpa using y2) y4 y; omega
        subst e4
        simp only [s_X10_wanted_5, s_X10_wanted_6, s_X10_wanted_9, s_X10_wanted_132, s_X10_wanted_133, s_X10_wanted_134, s_X10_wanted_137, s_X10_wanted_138, s_X10_wanted_142, aq_gI, aq_gL, aq_gA, aq_isA, aq_s1, aq_s2, aq_kill, aq_ob, aq_sm, aq_arI, aq_arB, aq_isB, aq_arL, aq_arA, aq_arN, aq_sh, Value.category, List.getElem?_cons_zero, List.getElem?_cons_succ, List.length_cons, List.length_nil, Option.toList_some, Option.toList_none, List.cons_append, List.nil_append, true_and, and_true, List.set_cons_zero, List.set_cons_succ, aq_n1, aq_n2, aq_n3, aq_n4, aq_f1, aq_f2, aq_f3, aq_f4, aq_gs, aq_ty1, aq_ty2, aq_ty3, aq_ty4, aq_ty5, Nat.reduceAdd, Nat.reduceLT, Nat.reduceEqDiff, Nat.reduceSub, if_true, if_false, ne_eq, not_false_eq_true, not_true_eq_false, Option.map_some, Option.map_none, Nat.zero_add, reduceCtorEq, Nat.reduceLeDiff, one_ne_zero_a, zero_ne_one_a, aq_nb, aq_nb1, aq_nb0, aq_fb, aq_fb1, aq_fb0, aq_ofN, bB_t, bB_f, bB_v, vpn_b1, vpn_b0, nI_1, Bool.true_eq_false, Bool.false_eq_true, Bool.true_and, Bool.false_and, Bool.and_true, Bool.and_false, O1, nI_le (Nat.le_refl (w * ht)) (show w * ht < 2 ^ 31 by omega), show nI 4 = 4 from rfl]
        rw [← hQ, hl]
        exact ⟨rfl, rfl⟩
      · obtain ⟨y1, c', d', y2, y3, y4, y5⟩ := h2 (by omega)
        have hl : lop (fun k => wkB (w * ht) (fun c => !u c) gg k && !put.testBit k) 4 0 = some l := by
          refine lop_of 4 0 (Nat.zero_le _) (by omega) ?_ (fun k q1 q2 => ?_)
          · rw [y1, Bool.and_eq_true]
            exact ⟨wkB_iff.mpr ⟨c', by omega, by rw [y4]; rfl, d', y3, y5⟩, rfl⟩
          · cases z : wkB (w * ht) (fun c => !u c) gg k with
            | false => rfl
            | true =>
              obtain ⟨c, x1, x2, d, x3, x4⟩ := wkB_iff.mp z
              cases y : put.testBit k with
              | true => rfl
              | false => have := h3 k c d (by omega) x3 (by simpa using x2) x4 y; omega
        have ne4 : ¬ nI l = 4 := fun z => e4 ((nI_eq (show l < 2 ^ 31 by omega) (show 4 < 2 ^ 31 by decide)).mp z)
        simp only [s_X10_wanted_5, s_X10_wanted_6, s_X10_wanted_9, s_X10_wanted_132, s_X10_wanted_133, s_X10_wanted_134, s_X10_wanted_141, s_X10_wanted_142, aq_gI, aq_gL, aq_gA, aq_isA, aq_s1, aq_s2, aq_kill, aq_ob, aq_sm, aq_arI, aq_arB, aq_isB, aq_arL, aq_arA, aq_arN, aq_sh, Value.category, List.getElem?_cons_zero, List.getElem?_cons_succ, List.length_cons, List.length_nil, Option.toList_some, Option.toList_none, List.cons_append, List.nil_append, true_and, and_true, List.set_cons_zero, List.set_cons_succ, aq_n1, aq_n2, aq_n3, aq_n4, aq_f1, aq_f2, aq_f3, aq_f4, aq_gs, aq_ty1, aq_ty2, aq_ty3, aq_ty4, aq_ty5, Nat.reduceAdd, Nat.reduceLT, Nat.reduceEqDiff, Nat.reduceSub, if_true, if_false, ne_eq, not_false_eq_true, not_true_eq_false, Option.map_some, Option.map_none, Nat.zero_add, reduceCtorEq, Nat.reduceLeDiff, one_ne_zero_a, zero_ne_one_a, aq_nb, aq_nb1, aq_nb0, aq_fb, aq_fb1, aq_fb0, aq_ofN, bB_t, bB_f, bB_v, vpn_b1, vpn_b0, nI_1, Bool.true_eq_false, Bool.false_eq_true, Bool.true_and, Bool.false_and, Bool.and_true, Bool.and_false, O1, nI_le (Nat.le_refl (w * ht)) (show w * ht < 2 ^ 31 by omega), ne4]
        rw [← hQ, hl]
        exact ⟨rfl, rfl⟩
    | succ j ih =>
      intro c l hc H L4 L5 L6
      have hc2 : c < w * ht := by omega
      rw [s_X10_wanted_4]
      simp only [s_X10_wanted_5, s_X10_wanted_6, s_X10_wanted_9, s_X10_wanted_12, s_X10_wanted_13, aq_gI, aq_gL, aq_gA, aq_isA, aq_s1, aq_s2, aq_kill, aq_ob, aq_sm, aq_arI, aq_arB, aq_isB, aq_arL, aq_arA, aq_arN, aq_sh, Value.category, List.getElem?_cons_zero, List.getElem?_cons_succ, List.length_cons, List.length_nil, Option.toList_some, Option.toList_none, List.cons_append, List.nil_append, true_and, and_true, List.set_cons_zero, List.set_cons_succ, aq_n1, aq_n2, aq_n3, aq_n4, aq_f1, aq_f2, aq_f3, aq_f4, aq_gs, aq_ty1, aq_ty2, aq_ty3, aq_ty4, aq_ty5, Nat.reduceAdd, Nat.reduceLT, Nat.reduceEqDiff, Nat.reduceSub, if_true, if_false, ne_eq, not_false_eq_true, not_true_eq_false, Option.map_some, Option.map_none, Nat.zero_add, reduceCtorEq, Nat.reduceLeDiff, one_ne_zero_a, zero_ne_one_a, aq_nb, aq_nb1, aq_nb0, aq_fb, aq_fb1, aq_fb0, aq_ofN, bB_t, bB_f, bB_v, vpn_b1, vpn_b0, nI_1, Bool.true_eq_false, Bool.false_eq_true, Bool.true_and, Bool.false_and, Bool.and_true, Bool.and_false, O1, nI_ge hc2 (show w * ht < 2 ^ 31 by omega)]
      have inn : ∀ (j d l : Nat), d + j = 4 → wnI gg u put c d l → ∀ (L5 L6 : Option Value), aq_W e_X10_wanted Q 15 [some (.ref 47), some (.int (nI put)), some (.int (nI l)), some (.int (nI c)), some (.int (nI d)), L5, L6] [] h 0 0 := by
        intro j
        induction j with
        | zero =>
          intro d l hd H L5 L6
          have e : d = 4 := by omega
          subst e
          have h4 : (4 : Int32) ≤ nI 4 := by decide
          rw [s_X10_wanted_15]
          simp only [s_X10_wanted_17, s_X10_wanted_18, s_X10_wanted_126, s_X10_wanted_129, aq_gI, aq_gL, aq_gA, aq_isA, aq_s1, aq_s2, aq_kill, aq_ob, aq_sm, aq_arI, aq_arB, aq_isB, aq_arL, aq_arA, aq_arN, aq_sh, Value.category, List.getElem?_cons_zero, List.getElem?_cons_succ, List.length_cons, List.length_nil, Option.toList_some, Option.toList_none, List.cons_append, List.nil_append, true_and, and_true, List.set_cons_zero, List.set_cons_succ, aq_n1, aq_n2, aq_n3, aq_n4, aq_f1, aq_f2, aq_f3, aq_f4, aq_gs, aq_ty1, aq_ty2, aq_ty3, aq_ty4, aq_ty5, Nat.reduceAdd, Nat.reduceLT, Nat.reduceEqDiff, Nat.reduceSub, if_true, if_false, ne_eq, not_false_eq_true, not_true_eq_false, Option.map_some, Option.map_none, Nat.zero_add, reduceCtorEq, Nat.reduceLeDiff, one_ne_zero_a, zero_ne_one_a, aq_nb, aq_nb1, aq_nb0, aq_fb, aq_fb1, aq_fb0, aq_ofN, bB_t, bB_f, bB_v, vpn_b1, vpn_b0, nI_1, Bool.true_eq_false, Bool.false_eq_true, Bool.true_and, Bool.false_and, Bool.and_true, Bool.and_false, h4]
          exact ih (c + 1) l (by omega) (wnI_nx H) _ _ _
        | succ j ih2 =>
          intro d l hd H L5 L6
          have hd4 : d < 4 := by omega
          have h4 : ¬ (4 : Int32) ≤ nI d := by rw [nI_4]; exact nI_ge hd4 (by omega)
          have hl4 : nI l ≤ 4 := by rw [nI_4]; exact nI_le H.1 (by decide)
          have none_ : (u c = true ∨ gg c d = none) → ∀ (L5 L6 : Option Value), aq_W e_X10_wanted Q 74 [some (.ref 47), some (.int (nI put)), some (.int (nI l)), some (.int (nI c)), some (.int (nI d)), L5, L6] [.int 0] h 0 0 := by
            intro hz L5 L6
            simp only [s_X10_wanted_74, s_X10_wanted_76, s_X10_wanted_78, s_X10_wanted_95, s_X10_wanted_96, s_X10_wanted_98, s_X10_wanted_100, s_X10_wanted_101, s_X10_wanted_118, s_X10_wanted_119, s_X10_wanted_120, s_X10_wanted_123, aq_gI, aq_gL, aq_gA, aq_isA, aq_s1, aq_s2, aq_kill, aq_ob, aq_sm, aq_arI, aq_arB, aq_isB, aq_arL, aq_arA, aq_arN, aq_sh, Value.category, List.getElem?_cons_zero, List.getElem?_cons_succ, List.length_cons, List.length_nil, Option.toList_some, Option.toList_none, List.cons_append, List.nil_append, true_and, and_true, List.set_cons_zero, List.set_cons_succ, aq_n1, aq_n2, aq_n3, aq_n4, aq_f1, aq_f2, aq_f3, aq_f4, aq_gs, aq_ty1, aq_ty2, aq_ty3, aq_ty4, aq_ty5, Nat.reduceAdd, Nat.reduceLT, Nat.reduceEqDiff, Nat.reduceSub, if_true, if_false, ne_eq, not_false_eq_true, not_true_eq_false, Option.map_some, Option.map_none, Nat.zero_add, reduceCtorEq, Nat.reduceLeDiff, one_ne_zero_a, zero_ne_one_a, aq_nb, aq_nb1, aq_nb0, aq_fb, aq_fb1, aq_fb0, aq_ofN, bB_t, bB_f, bB_v, vpn_b1, vpn_b0, nI_1, Bool.true_eq_false, Bool.false_eq_true, Bool.true_and, Bool.false_and, Bool.and_true, Bool.and_false, hl4]
            exact ih2 (d + 1) l (by omega) (wnI_no H hz) _ _
          rw [s_X10_wanted_15]
          simp only [s_X10_wanted_17, s_X10_wanted_18, s_X10_wanted_21, s_X10_wanted_22, s_X10_wanted_25, s_X10_wanted_26, aq_gI, aq_gL, aq_gA, aq_isA, aq_s1, aq_s2, aq_kill, aq_ob, aq_sm, aq_arI, aq_arB, aq_isB, aq_arL, aq_arA, aq_arN, aq_sh, Value.category, List.getElem?_cons_zero, List.getElem?_cons_succ, List.length_cons, List.length_nil, Option.toList_some, Option.toList_none, List.cons_append, List.nil_append, true_and, and_true, List.set_cons_zero, List.set_cons_succ, aq_n1, aq_n2, aq_n3, aq_n4, aq_f1, aq_f2, aq_f3, aq_f4, aq_gs, aq_ty1, aq_ty2, aq_ty3, aq_ty4, aq_ty5, Nat.reduceAdd, Nat.reduceLT, Nat.reduceEqDiff, Nat.reduceSub, if_true, if_false, ne_eq, not_false_eq_true, not_true_eq_false, Option.map_some, Option.map_none, Nat.zero_add, reduceCtorEq, Nat.reduceLeDiff, one_ne_zero_a, zero_ne_one_a, aq_nb, aq_nb1, aq_nb0, aq_fb, aq_fb1, aq_fb0, aq_ofN, bB_t, bB_f, bB_v, vpn_b1, vpn_b0, nI_1, Bool.true_eq_false, Bool.false_eq_true, Bool.true_and, Bool.false_and, Bool.and_true, Bool.and_false, h4, O1, A.2.2.2.2.2.2.2.1, vp_in_nI (show c < 144 by omega) (show 144 < 2 ^ 31 by decide), nI_clamp (show c < 2 ^ 31 by omega), hmr c hc2]
          cases hu : u c with
          | true =>
            simp only [s_X10_wanted_27, s_X10_wanted_73, aq_gI, aq_gL, aq_gA, aq_isA, aq_s1, aq_s2, aq_kill, aq_ob, aq_sm, aq_arI, aq_arB, aq_isB, aq_arL, aq_arA, aq_arN, aq_sh, Value.category, List.getElem?_cons_zero, List.getElem?_cons_succ, List.length_cons, List.length_nil, Option.toList_some, Option.toList_none, List.cons_append, List.nil_append, true_and, and_true, List.set_cons_zero, List.set_cons_succ, aq_n1, aq_n2, aq_n3, aq_n4, aq_f1, aq_f2, aq_f3, aq_f4, aq_gs, aq_ty1, aq_ty2, aq_ty3, aq_ty4, aq_ty5, Nat.reduceAdd, Nat.reduceLT, Nat.reduceEqDiff, Nat.reduceSub, if_true, if_false, ne_eq, not_false_eq_true, not_true_eq_false, Option.map_some, Option.map_none, Nat.zero_add, reduceCtorEq, Nat.reduceLeDiff, one_ne_zero_a, zero_ne_one_a, aq_nb, aq_nb1, aq_nb0, aq_fb, aq_fb1, aq_fb0, aq_ofN, bB_t, bB_f, bB_v, vpn_b1, vpn_b0, nI_1, Bool.true_eq_false, Bool.false_eq_true, Bool.true_and, Bool.false_and, Bool.and_true, Bool.and_false, Bool.not_true]
            exact none_ (Or.inl hu) _ _
          | false =>
            simp only [s_X10_wanted_27, s_X10_wanted_30, s_X10_wanted_31, s_X10_wanted_32, s_X10_wanted_34, aq_gI, aq_gL, aq_gA, aq_isA, aq_s1, aq_s2, aq_kill, aq_ob, aq_sm, aq_arI, aq_arB, aq_isB, aq_arL, aq_arA, aq_arN, aq_sh, Value.category, List.getElem?_cons_zero, List.getElem?_cons_succ, List.length_cons, List.length_nil, Option.toList_some, Option.toList_none, List.cons_append, List.nil_append, true_and, and_true, List.set_cons_zero, List.set_cons_succ, aq_n1, aq_n2, aq_n3, aq_n4, aq_f1, aq_f2, aq_f3, aq_f4, aq_gs, aq_ty1, aq_ty2, aq_ty3, aq_ty4, aq_ty5, Nat.reduceAdd, Nat.reduceLT, Nat.reduceEqDiff, Nat.reduceSub, if_true, if_false, ne_eq, not_false_eq_true, not_true_eq_false, Option.map_some, Option.map_none, Nat.zero_add, reduceCtorEq, Nat.reduceLeDiff, one_ne_zero_a, zero_ne_one_a, aq_nb, aq_nb1, aq_nb0, aq_fb, aq_fb1, aq_fb0, aq_ofN, bB_t, bB_f, bB_v, vpn_b1, vpn_b0, nI_1, Bool.true_eq_false, Bool.false_eq_true, Bool.true_and, Bool.false_and, Bool.and_true, Bool.and_false, Bool.not_false, O1]
            refine (m_isOpen O G A.2.2.2.1 R hc2 (nI d)).use ?_
            rintro _ h ⟨rfl, rfl⟩
            rw [inC_nI hd4 (by decide), nI_clamp (show d < 2 ^ 31 by omega), Bool.true_and]
            have hgd := hgv c d
            unfold wkp at hgd
            unfold opn
            cases hx : nx w ht wx wy cb c d with
            | none =>
              rw [hx] at hgd
              simp only [s_X10_wanted_37, s_X10_wanted_73, aq_gI, aq_gL, aq_gA, aq_isA, aq_s1, aq_s2, aq_kill, aq_ob, aq_sm, aq_arI, aq_arB, aq_isB, aq_arL, aq_arA, aq_arN, aq_sh, Value.category, List.getElem?_cons_zero, List.getElem?_cons_succ, List.length_cons, List.length_nil, Option.toList_some, Option.toList_none, List.cons_append, List.nil_append, true_and, and_true, List.set_cons_zero, List.set_cons_succ, aq_n1, aq_n2, aq_n3, aq_n4, aq_f1, aq_f2, aq_f3, aq_f4, aq_gs, aq_ty1, aq_ty2, aq_ty3, aq_ty4, aq_ty5, Nat.reduceAdd, Nat.reduceLT, Nat.reduceEqDiff, Nat.reduceSub, if_true, if_false, ne_eq, not_false_eq_true, not_true_eq_false, Option.map_some, Option.map_none, Nat.zero_add, reduceCtorEq, Nat.reduceLeDiff, one_ne_zero_a, zero_ne_one_a, aq_nb, aq_nb1, aq_nb0, aq_fb, aq_fb1, aq_fb0, aq_ofN, bB_t, bB_f, bB_v, vpn_b1, vpn_b0, nI_1, Bool.true_eq_false, Bool.false_eq_true, Bool.true_and, Bool.false_and, Bool.and_true, Bool.and_false]
              exact none_ (Or.inr hgd.symm) _ _
            | some m =>
              have hm2 := nx_lt G.1 hc2 hd4 hx
              obtain ⟨r1, r2, r3⟩ := R c d m hc2 hd4 hx
              have hpl := pn_lt (d := d) hc2 hm2
              rw [hx] at hgd
              cases ho : ob (pn c d m) with
              | false =>
                simp only [ho, Bool.false_eq_true, false_and, if_false, Option.bind_none] at hgd
                simp only [ho, s_X10_wanted_37, s_X10_wanted_73, aq_gI, aq_gL, aq_gA, aq_isA, aq_s1, aq_s2, aq_kill, aq_ob, aq_sm, aq_arI, aq_arB, aq_isB, aq_arL, aq_arA, aq_arN, aq_sh, Value.category, List.getElem?_cons_zero, List.getElem?_cons_succ, List.length_cons, List.length_nil, Option.toList_some, Option.toList_none, List.cons_append, List.nil_append, true_and, and_true, List.set_cons_zero, List.set_cons_succ, aq_n1, aq_n2, aq_n3, aq_n4, aq_f1, aq_f2, aq_f3, aq_f4, aq_gs, aq_ty1, aq_ty2, aq_ty3, aq_ty4, aq_ty5, Nat.reduceAdd, Nat.reduceLT, Nat.reduceEqDiff, Nat.reduceSub, if_true, if_false, ne_eq, not_false_eq_true, not_true_eq_false, Option.map_some, Option.map_none, Nat.zero_add, reduceCtorEq, Nat.reduceLeDiff, one_ne_zero_a, zero_ne_one_a, aq_nb, aq_nb1, aq_nb0, aq_fb, aq_fb1, aq_fb0, aq_ofN, bB_t, bB_f, bB_v, vpn_b1, vpn_b0, nI_1, Bool.true_eq_false, Bool.false_eq_true, Bool.true_and, Bool.false_and, Bool.and_true, Bool.and_false]
                exact none_ (Or.inr hgd.symm) _ _
              | true =>
                simp only [ho, true_and] at hgd
                simp only [ho, s_X10_wanted_37, s_X10_wanted_40, s_X10_wanted_41, s_X10_wanted_44, s_X10_wanted_45, s_X10_wanted_46, s_X10_wanted_47, s_X10_wanted_49, s_X10_wanted_50, aq_gI, aq_gL, aq_gA, aq_isA, aq_s1, aq_s2, aq_kill, aq_ob, aq_sm, aq_arI, aq_arB, aq_isB, aq_arL, aq_arA, aq_arN, aq_sh, Value.category, List.getElem?_cons_zero, List.getElem?_cons_succ, List.length_cons, List.length_nil, Option.toList_some, Option.toList_none, List.cons_append, List.nil_append, true_and, and_true, List.set_cons_zero, List.set_cons_succ, aq_n1, aq_n2, aq_n3, aq_n4, aq_f1, aq_f2, aq_f3, aq_f4, aq_gs, aq_ty1, aq_ty2, aq_ty3, aq_ty4, aq_ty5, Nat.reduceAdd, Nat.reduceLT, Nat.reduceEqDiff, Nat.reduceSub, if_true, if_false, ne_eq, not_false_eq_true, not_true_eq_false, Option.map_some, Option.map_none, Nat.zero_add, reduceCtorEq, Nat.reduceLeDiff, one_ne_zero_a, zero_ne_one_a, aq_nb, aq_nb1, aq_nb0, aq_fb, aq_fb1, aq_fb0, aq_ofN, bB_t, bB_f, bB_v, vpn_b1, vpn_b0, nI_1, Bool.true_eq_false, Bool.false_eq_true, Bool.true_and, Bool.false_and, Bool.and_true, Bool.and_false, O1, A.2.2.2.2.2.1, nI_4c, vp_in_nI (show 4 * c + d < 576 by omega) (show 576 < 2 ^ 31 by decide), nI_clamp (show 4 * c + d < 2 ^ 31 by omega), r3]
                by_cases hq : on (pn c d m) = some ((d + 2) % 4)
                · simp only [hq, not_true_eq_false, if_false, Option.bind_none] at hgd
                  simp only [hq, not_true_eq_false, decide_false, s_X10_wanted_51, s_X10_wanted_73, aq_gI, aq_gL, aq_gA, aq_isA, aq_s1, aq_s2, aq_kill, aq_ob, aq_sm, aq_arI, aq_arB, aq_isB, aq_arL, aq_arA, aq_arN, aq_sh, Value.category, List.getElem?_cons_zero, List.getElem?_cons_succ, List.length_cons, List.length_nil, Option.toList_some, Option.toList_none, List.cons_append, List.nil_append, true_and, and_true, List.set_cons_zero, List.set_cons_succ, aq_n1, aq_n2, aq_n3, aq_n4, aq_f1, aq_f2, aq_f3, aq_f4, aq_gs, aq_ty1, aq_ty2, aq_ty3, aq_ty4, aq_ty5, Nat.reduceAdd, Nat.reduceLT, Nat.reduceEqDiff, Nat.reduceSub, if_true, if_false, ne_eq, not_false_eq_true, not_true_eq_false, Option.map_some, Option.map_none, Nat.zero_add, reduceCtorEq, Nat.reduceLeDiff, one_ne_zero_a, zero_ne_one_a, aq_nb, aq_nb1, aq_nb0, aq_fb, aq_fb1, aq_fb0, aq_ofN, bB_t, bB_f, bB_v, vpn_b1, vpn_b0, nI_1, Bool.true_eq_false, Bool.false_eq_true, Bool.true_and, Bool.false_and, Bool.and_true, Bool.and_false]
                  exact none_ (Or.inr hgd.symm) _ _
                · simp only [hq, not_false_eq_true, if_true, Option.bind_some] at hgd
                  simp only [hq, not_false_eq_true, decide_true, s_X10_wanted_51, s_X10_wanted_54, s_X10_wanted_55, s_X10_wanted_58, s_X10_wanted_59, s_X10_wanted_60, s_X10_wanted_61, s_X10_wanted_63, s_X10_wanted_64, s_X10_wanted_65, aq_gI, aq_gL, aq_gA, aq_isA, aq_s1, aq_s2, aq_kill, aq_ob, aq_sm, aq_arI, aq_arB, aq_isB, aq_arL, aq_arA, aq_arN, aq_sh, Value.category, List.getElem?_cons_zero, List.getElem?_cons_succ, List.length_cons, List.length_nil, Option.toList_some, Option.toList_none, List.cons_append, List.nil_append, true_and, and_true, List.set_cons_zero, List.set_cons_succ, aq_n1, aq_n2, aq_n3, aq_n4, aq_f1, aq_f2, aq_f3, aq_f4, aq_gs, aq_ty1, aq_ty2, aq_ty3, aq_ty4, aq_ty5, Nat.reduceAdd, Nat.reduceLT, Nat.reduceEqDiff, Nat.reduceSub, if_true, if_false, ne_eq, not_false_eq_true, not_true_eq_false, Option.map_some, Option.map_none, Nat.zero_add, reduceCtorEq, Nat.reduceLeDiff, one_ne_zero_a, zero_ne_one_a, aq_nb, aq_nb1, aq_nb0, aq_fb, aq_fb1, aq_fb0, aq_ofN, bB_t, bB_f, bB_v, vpn_b1, vpn_b0, nI_1, Bool.true_eq_false, Bool.false_eq_true, Bool.true_and, Bool.false_and, Bool.and_true, Bool.and_false, O1, A.2.2.2.2.1, nI_4c, vp_in_nI (show 4 * c + d < 576 by omega) (show 576 < 2 ^ 31 by decide), nI_clamp (show 4 * c + d < 2 ^ 31 by omega), r2, hgd]
                  cases hgk : gg c d with
                  | none =>
                    simp only [oI, s_X10_wanted_66, s_X10_wanted_73, aq_gI, aq_gL, aq_gA, aq_isA, aq_s1, aq_s2, aq_kill, aq_ob, aq_sm, aq_arI, aq_arB, aq_isB, aq_arL, aq_arA, aq_arN, aq_sh, Value.category, List.getElem?_cons_zero, List.getElem?_cons_succ, List.length_cons, List.length_nil, Option.toList_some, Option.toList_none, List.cons_append, List.nil_append, true_and, and_true, List.set_cons_zero, List.set_cons_succ, aq_n1, aq_n2, aq_n3, aq_n4, aq_f1, aq_f2, aq_f3, aq_f4, aq_gs, aq_ty1, aq_ty2, aq_ty3, aq_ty4, aq_ty5, Nat.reduceAdd, Nat.reduceLT, Nat.reduceEqDiff, Nat.reduceSub, if_true, if_false, ne_eq, not_false_eq_true, not_true_eq_false, Option.map_some, Option.map_none, Nat.zero_add, reduceCtorEq, Nat.reduceLeDiff, one_ne_zero_a, zero_ne_one_a, aq_nb, aq_nb1, aq_nb0, aq_fb, aq_fb1, aq_fb0, aq_ofN, bB_t, bB_f, bB_v, vpn_b1, vpn_b0, nI_1, Bool.true_eq_false, Bool.false_eq_true, Bool.true_and, Bool.false_and, Bool.and_true, Bool.and_false]
                    exact none_ (Or.inr hgk) _ _
                  | some k =>
                    have hk4 : k < 4 := hD _ k hpl (hgd.trans hgk)
                    have hgo := wnI_go H hk4 hd4 hu hgk
                    have hkb := hks_bit put hp k hk4
                    simp only [oI, s_X10_wanted_66, s_X10_wanted_69, s_X10_wanted_70, s_X10_wanted_74, s_X10_wanted_76, s_X10_wanted_78, s_X10_wanted_81, s_X10_wanted_82, s_X10_wanted_85, s_X10_wanted_86, s_X10_wanted_87, s_X10_wanted_88, s_X10_wanted_90, s_X10_wanted_91, s_X10_wanted_92, s_X10_wanted_96, s_X10_wanted_98, s_X10_wanted_100, aq_gI, aq_gL, aq_gA, aq_isA, aq_s1, aq_s2, aq_kill, aq_ob, aq_sm, aq_arI, aq_arB, aq_isB, aq_arL, aq_arA, aq_arN, aq_sh, Value.category, List.getElem?_cons_zero, List.getElem?_cons_succ, List.length_cons, List.length_nil, Option.toList_some, Option.toList_none, List.cons_append, List.nil_append, true_and, and_true, List.set_cons_zero, List.set_cons_succ, aq_n1, aq_n2, aq_n3, aq_n4, aq_f1, aq_f2, aq_f3, aq_f4, aq_gs, aq_ty1, aq_ty2, aq_ty3, aq_ty4, aq_ty5, Nat.reduceAdd, Nat.reduceLT, Nat.reduceEqDiff, Nat.reduceSub, if_true, if_false, ne_eq, not_false_eq_true, not_true_eq_false, Option.map_some, Option.map_none, Nat.zero_add, reduceCtorEq, Nat.reduceLeDiff, one_ne_zero_a, zero_ne_one_a, aq_nb, aq_nb1, aq_nb0, aq_fb, aq_fb1, aq_fb0, aq_ofN, bB_t, bB_f, bB_v, vpn_b1, vpn_b0, nI_1, Bool.true_eq_false, Bool.false_eq_true, Bool.true_and, Bool.false_and, Bool.and_true, Bool.and_false, nI_ne_m1 (show k < 2 ^ 31 by omega), O1, A.2.2.2.2.1, nI_4c, vp_in_nI (show 4 * c + d < 576 by omega) (show 576 < 2 ^ 31 by decide), nI_clamp (show 4 * c + d < 2 ^ 31 by omega), r2, hgd, hgk]
                    by_cases hkl : k < l
                    · cases hb : put.testBit k with
                      | true =>
                        rw [hb] at hkb
                        have hz : ¬ (nI put >>> (nI k &&& 31)) &&& 1 = 0 := by unfold hks at hkb; exact of_decide_eq_true hkb
                        rw [if_neg (by rw [hb]; simp)] at hgo
                        simp only [s_X10_wanted_101, s_X10_wanted_104, s_X10_wanted_105, s_X10_wanted_107, s_X10_wanted_108, s_X10_wanted_109, s_X10_wanted_110, s_X10_wanted_118, s_X10_wanted_119, s_X10_wanted_120, s_X10_wanted_123, aq_gI, aq_gL, aq_gA, aq_isA, aq_s1, aq_s2, aq_kill, aq_ob, aq_sm, aq_arI, aq_arB, aq_isB, aq_arL, aq_arA, aq_arN, aq_sh, Value.category, List.getElem?_cons_zero, List.getElem?_cons_succ, List.length_cons, List.length_nil, Option.toList_some, Option.toList_none, List.cons_append, List.nil_append, true_and, and_true, List.set_cons_zero, List.set_cons_succ, aq_n1, aq_n2, aq_n3, aq_n4, aq_f1, aq_f2, aq_f3, aq_f4, aq_gs, aq_ty1, aq_ty2, aq_ty3, aq_ty4, aq_ty5, Nat.reduceAdd, Nat.reduceLT, Nat.reduceEqDiff, Nat.reduceSub, if_true, if_false, ne_eq, not_false_eq_true, not_true_eq_false, Option.map_some, Option.map_none, Nat.zero_add, reduceCtorEq, Nat.reduceLeDiff, one_ne_zero_a, zero_ne_one_a, aq_nb, aq_nb1, aq_nb0, aq_fb, aq_fb1, aq_fb0, aq_ofN, bB_t, bB_f, bB_v, vpn_b1, vpn_b0, nI_1, Bool.true_eq_false, Bool.false_eq_true, Bool.true_and, Bool.false_and, Bool.and_true, Bool.and_false, nI_ge hkl (show l < 2 ^ 31 by have := H.1; omega), hz]
                        exact ih2 (d + 1) l (by omega) hgo _ _
                      | false =>
                        rw [hb] at hkb
                        have hz : (nI put >>> (nI k &&& 31)) &&& 1 = 0 := by
                          unfold hks at hkb
                          exact Classical.byContradiction fun z => by rw [decide_eq_true z] at hkb; cases hkb
                        rw [if_pos ⟨hkl, hb⟩] at hgo
                        simp only [s_X10_wanted_101, s_X10_wanted_104, s_X10_wanted_105, s_X10_wanted_107, s_X10_wanted_108, s_X10_wanted_109, s_X10_wanted_110, s_X10_wanted_113, s_X10_wanted_115, s_X10_wanted_119, s_X10_wanted_120, s_X10_wanted_123, aq_gI, aq_gL, aq_gA, aq_isA, aq_s1, aq_s2, aq_kill, aq_ob, aq_sm, aq_arI, aq_arB, aq_isB, aq_arL, aq_arA, aq_arN, aq_sh, Value.category, List.getElem?_cons_zero, List.getElem?_cons_succ, List.length_cons, List.length_nil, Option.toList_some, Option.toList_none, List.cons_append, List.nil_append, true_and, and_true, List.set_cons_zero, List.set_cons_succ, aq_n1, aq_n2, aq_n3, aq_n4, aq_f1, aq_f2, aq_f3, aq_f4, aq_gs, aq_ty1, aq_ty2, aq_ty3, aq_ty4, aq_ty5, Nat.reduceAdd, Nat.reduceLT, Nat.reduceEqDiff, Nat.reduceSub, if_true, if_false, ne_eq, not_false_eq_true, not_true_eq_false, Option.map_some, Option.map_none, Nat.zero_add, reduceCtorEq, Nat.reduceLeDiff, one_ne_zero_a, zero_ne_one_a, aq_nb, aq_nb1, aq_nb0, aq_fb, aq_fb1, aq_fb0, aq_ofN, bB_t, bB_f, bB_v, vpn_b1, vpn_b0, nI_1, Bool.true_eq_false, Bool.false_eq_true, Bool.true_and, Bool.false_and, Bool.and_true, Bool.and_false, nI_ge hkl (show l < 2 ^ 31 by have := H.1; omega), hz]
                        exact ih2 (d + 1) k (by omega) hgo _ _
                    · rw [if_neg (fun z => hkl z.1)] at hgo
                      simp only [s_X10_wanted_101, s_X10_wanted_118, s_X10_wanted_119, s_X10_wanted_120, s_X10_wanted_123, aq_gI, aq_gL, aq_gA, aq_isA, aq_s1, aq_s2, aq_kill, aq_ob, aq_sm, aq_arI, aq_arB, aq_isB, aq_arL, aq_arA, aq_arN, aq_sh, Value.category, List.getElem?_cons_zero, List.getElem?_cons_succ, List.length_cons, List.length_nil, Option.toList_some, Option.toList_none, List.cons_append, List.nil_append, true_and, and_true, List.set_cons_zero, List.set_cons_succ, aq_n1, aq_n2, aq_n3, aq_n4, aq_f1, aq_f2, aq_f3, aq_f4, aq_gs, aq_ty1, aq_ty2, aq_ty3, aq_ty4, aq_ty5, Nat.reduceAdd, Nat.reduceLT, Nat.reduceEqDiff, Nat.reduceSub, if_true, if_false, ne_eq, not_false_eq_true, not_true_eq_false, Option.map_some, Option.map_none, Nat.zero_add, reduceCtorEq, Nat.reduceLeDiff, one_ne_zero_a, zero_ne_one_a, aq_nb, aq_nb1, aq_nb0, aq_fb, aq_fb1, aq_fb0, aq_ofN, bB_t, bB_f, bB_v, vpn_b1, vpn_b0, nI_1, Bool.true_eq_false, Bool.false_eq_true, Bool.true_and, Bool.false_and, Bool.and_true, Bool.and_false, nI_le (show l ≤ k by omega) (show k < 2 ^ 31 by omega)]
                      exact ih2 (d + 1) l (by omega) hgo _ _
      exact inn 4 0 l rfl H _ _
  simp only [s_X10_wanted_0, s_X10_wanted_1, s_X10_wanted_2, s_X10_wanted_3, aq_gI, aq_gL, aq_gA, aq_isA, aq_s1, aq_s2, aq_kill, aq_ob, aq_sm, aq_arI, aq_arB, aq_isB, aq_arL, aq_arA, aq_arN, aq_sh, Value.category, List.getElem?_cons_zero, List.getElem?_cons_succ, List.length_cons, List.length_nil, Option.toList_some, Option.toList_none, List.cons_append, List.nil_append, true_and, and_true, List.set_cons_zero, List.set_cons_succ, aq_n1, aq_n2, aq_n3, aq_n4, aq_f1, aq_f2, aq_f3, aq_f4, aq_gs, aq_ty1, aq_ty2, aq_ty3, aq_ty4, aq_ty5, Nat.reduceAdd, Nat.reduceLT, Nat.reduceEqDiff, Nat.reduceSub, if_true, if_false, ne_eq, not_false_eq_true, not_true_eq_false, Option.map_some, Option.map_none, Nat.zero_add, reduceCtorEq, Nat.reduceLeDiff, one_ne_zero_a, zero_ne_one_a, aq_nb, aq_nb1, aq_nb0, aq_fb, aq_fb1, aq_fb0, aq_ofN, bB_t, bB_f, bB_v, vpn_b1, vpn_b0, nI_1, Bool.true_eq_false, Bool.false_eq_true, Bool.true_and, Bool.false_and, Bool.and_true, Bool.and_false]
  refine out (w * ht) 0 4 (Nat.zero_add _) ⟨Nat.le_refl _, fun z => by omega, fun k c' d' hb => by omega⟩ none none none
end MPL
