/-! the model's shortest escape: its length -/
def sB (F : Nat → Option Nat) (s : Nat) : Bool := (F s).isSome
theorem sB_set (F : Nat → Option Nat) (v m : Nat) : sB (fs F v (some m)) = cbs (sB F) v true := by
  funext s
  unfold sB
  by_cases e : s = v
  · rw [e, fs_s, cbs_s]; rfl
  · rw [fs_n _ _ e, cbs_n _ _ e]
def gsI (F0 F : Nat → Option Nat) (gs : Bool) : Prop := (gs = true → frc (sB F) 2304 < frc (sB F0) 2304) ∧ (gs = false → F = F0)
theorem gsI_set {F0 F : Nat → Option Nat} {gs : Bool} (h : gsI F0 F gs) {v : Nat} (hv : v < 2304) (hn : F v = none) (m : Nat) : gsI F0 (fs F v (some m)) true := by
  refine ⟨fun _ => ?_, fun z => by cases z⟩
  rw [sB_set]
  have h1 := frc_cut (cb := sB F) 2304 hv (by unfold sB; rw [hn]; rfl)
  cases gs with
  | true => have := h.1 rfl; omega
  | false => rw [h.2 rfl] at h1 ⊢; omega
def FG (h : aq_H) (F : Nat → Option Nat) (gd : Nat → Bool) : Prop := ∃ fa go, h[59]? = some (.inl (.int, 2304, .inl fa)) ∧ h[60]? = some (.inl (.boolean, 2304, .inl go)) ∧ (∀ s, s < 2304 → fa s = oI (F s)) ∧ ∀ s, s < 2304 → go s = bB (gd s)
def mCx (h : aq_H) (w ht : Nat) (wx wy : Bool) (cb : Nat → Bool) (Z : mzT) (e : Nat) : Prop :=
  ∃ wr thr rt ci pl hd sg mc mo md mw mk, iMo h w ht wr thr 1 rt ci (nI Z.2.2.2.2.1) (nI e) pl hd sg ∧ gMb h w ht wx wy cb wr mc ∧ (h[52]? = some (.inl (.boolean, 576, .inl mo)) ∧ h[53]? = some (.inl (.byte, 576, .inl md)) ∧ h[54]? = some (.inl (.boolean, 576, .inl mw)) ∧ h[55]? = some (.inl (.int, 4, .inl mk))) ∧ gMm w ht wx wy cb Z.1 Z.2.1 Z.2.2.1 mo md mw ∧ (∀ k, k < 4 → mk k = oI (Z.2.2.2.1 k)) ∧ (∀ p k, p < w * ht * 2 → Z.2.1 p = some k → k < 4) ∧ Z.2.2.2.2.1 < w * ht ∧ e < w * ht ∧ Z.2.2.2.2.2 = some e
section MRT
variable {h h' : aq_H} {w ht e n k : Nat} {wx wy hm : Bool} {cb : Nat → Bool} {D : drT} {Z : mzT} {P : plT} {wr thr th rt ci st ex pl hd sg : Int32} {mc mx mt mp mo md mw mk mr pc fa go : Nat → Int32} {tb : Nat → Int64} {ky : Nat → Option Nat} {F0 F : Nat → Option Nat} {gd : Nat → Bool}
theorem mCx.sm (C : mCx h w ht wx wy cb Z e) (S : sm 59 60 h h') : mCx h' w ht wx wy cb Z e := by
  obtain ⟨wr, thr, rt, ci, pl, hd, sg, mc, mo, md, mw, mk, O, G, ⟨a1, a2, a3, a4⟩, c⟩ := C
  exact ⟨wr, thr, rt, ci, pl, hd, sg, mc, mo, md, mw, mk, (S 47 (by omega)).trans O, ⟨G.1, G.2.1, (S 48 (by omega)).trans G.2.2.1, G.2.2.2⟩, ⟨(S 52 (by omega)).trans a1, (S 53 (by omega)).trans a2, (S 54 (by omega)).trans a3, (S 55 (by omega)).trans a4⟩, c⟩
theorem mCx.n144 (C : mCx h w ht wx wy cb Z e) : w * ht ≤ 144 := by
  obtain ⟨wr, thr, rt, ci, pl, hd, sg, mc, mo, md, mw, mk, O, G, -⟩ := C
  have := wh_lt G.1
  omega
theorem mCx.bd (C : mCx h w ht wx wy cb Z e) : 0 < w ∧ w < 13 ∧ 0 < ht ∧ ht < 13 := by
  obtain ⟨wr, thr, rt, ci, pl, hd, sg, mc, mo, md, mw, mk, O, G, -⟩ := C
  exact G.1
theorem mCx.ob (C : mCx h w ht wx wy cb Z e) : ∃ wr thr rt ci pl hd sg, h[47]? = some (mOb w ht wr thr 1 rt ci (nI Z.2.2.2.2.1) (nI e) pl hd sg) := by
  obtain ⟨wr, thr, rt, ci, pl, hd, sg, mc, mo, md, mw, mk, O, G, -⟩ := C
  exact ⟨wr, thr, rt, ci, pl, hd, sg, O⟩
theorem mCx.ee (C : mCx h w ht wx wy cb Z e) : Z.2.2.2.2.1 < w * ht ∧ e < w * ht ∧ Z.2.2.2.2.2 = some e := by
  obtain ⟨wr, thr, rt, ci, pl, hd, sg, mc, mo, md, mw, mk, O, G, a, b, c, d, q⟩ := C
  exact q
theorem cx_step (C : mCx h w ht wx wy cb Z e) {s : Nat} (hs : s < w * ht * 16) (d : Int32) : aq_T e_X10_stepTo 5 0 0 [.ref 47, .int (nI (s / 16)), .int d, .int (nI (s % 16))] h (rd (if inC 4 d = true then oI (stf w ht wx wy cb Z.1 Z.2.1 Z.2.2.1 (s / 16) d.toNatClampNeg (nI (s % 16))) else -1) h) := by
  obtain ⟨wr, thr, rt, ci, pl, hd, sg, mc, mo, md, mw, mk, O, G, ⟨a1, a2, a3, a4⟩, R, hk, hD, q⟩ := C
  exact m_stepTo O G a1 a2 a3 R hD (show s / 16 < w * ht by omega) d (nI (s % 16))
theorem m_state (O : iMo h w ht wr thr th rt ci st ex pl hd sg) (a7 : h[55]? = some (.inl (.int, 4, .inl mk))) (hk : ∀ k, k < 4 → mk k = oI (ky k)) (c : Nat) {kb : Nat} (hkb : kb < 16) : aq_T e_X10_state 3 0 0 [.ref 47, .int (nI c), .int (nI kb)] h (rd (nI (16 * c + (kb ||| kmm ky c))) h) := by
  have O1 := O
  unfold iMo at O1
  refine ⟨Nat.le_of_ble_eq_true rfl, ?_⟩
  show aq_W _ _ 0 [some (.ref 47), some (.int (nI c)), some (.int (nI kb))] [] _ _ _
  simp only [s_X10_state_0, s_X10_state_2, s_X10_state_3, s_X10_state_4, s_X10_state_5, s_X10_state_6, s_X10_state_7, s_X10_state_10, s_X10_state_11, s_X10_state_12, aq_gI, aq_gL, aq_gA, aq_isA, aq_s1, aq_s2, aq_kill, aq_ob, aq_sm, aq_arI, aq_arB, aq_isB, aq_arL, aq_arA, aq_arN, aq_sh, Value.category, List.getElem?_cons_zero, List.getElem?_cons_succ, List.length_cons, List.length_nil, Option.toList_some, Option.toList_none, List.cons_append, List.nil_append, true_and, and_true, List.set_cons_zero, List.set_cons_succ, aq_n1, aq_n2, aq_n3, aq_n4, aq_f1, aq_f2, aq_f3, aq_f4, aq_gs, aq_ty1, aq_ty2, aq_ty3, aq_ty4, aq_ty5, Nat.reduceAdd, Nat.reduceLT, Nat.reduceEqDiff, Nat.reduceSub, if_true, if_false, ne_eq, not_false_eq_true, not_true_eq_false, Option.map_some, Option.map_none, Nat.zero_add, reduceCtorEq, Nat.reduceLeDiff, one_ne_zero_a, zero_ne_one_a, aq_nb, aq_nb1, aq_nb0, aq_fb, aq_fb1, aq_fb0, aq_ofN, bB_t, bB_f, bB_v, vpn_b1, vpn_b0, nI_1, Bool.true_eq_false, Bool.false_eq_true, Bool.true_and, Bool.false_and, Bool.and_true, Bool.and_false, O1]
  refine (m_keysAt O a7 (nI c)).use ?_
  rintro _ h ⟨rfl, rfl⟩
  rw [km_kmm hk]
  simp only [s_X10_state_0, s_X10_state_2, s_X10_state_3, s_X10_state_4, s_X10_state_5, s_X10_state_6, s_X10_state_7, s_X10_state_10, s_X10_state_11, s_X10_state_12, aq_gI, aq_gL, aq_gA, aq_isA, aq_s1, aq_s2, aq_kill, aq_ob, aq_sm, aq_arI, aq_arB, aq_isB, aq_arL, aq_arA, aq_arN, aq_sh, Value.category, List.getElem?_cons_zero, List.getElem?_cons_succ, List.length_cons, List.length_nil, Option.toList_some, Option.toList_none, List.cons_append, List.nil_append, true_and, and_true, List.set_cons_zero, List.set_cons_succ, aq_n1, aq_n2, aq_n3, aq_n4, aq_f1, aq_f2, aq_f3, aq_f4, aq_gs, aq_ty1, aq_ty2, aq_ty3, aq_ty4, aq_ty5, Nat.reduceAdd, Nat.reduceLT, Nat.reduceEqDiff, Nat.reduceSub, if_true, if_false, ne_eq, not_false_eq_true, not_true_eq_false, Option.map_some, Option.map_none, Nat.zero_add, reduceCtorEq, Nat.reduceLeDiff, one_ne_zero_a, zero_ne_one_a, aq_nb, aq_nb1, aq_nb0, aq_fb, aq_fb1, aq_fb0, aq_ofN, bB_t, bB_f, bB_v, vpn_b1, vpn_b0, nI_1, Bool.true_eq_false, Bool.false_eq_true, Bool.true_and, Bool.false_and, Bool.and_true, Bool.and_false, nI_or16 kb hkb _ (kmm_lt ky c), nI_16c]
  exact ⟨rfl, rfl⟩
theorem cx_state (C : mCx h w ht wx wy cb Z e) (c : Nat) {kb : Nat} (hkb : kb < 16) : aq_T e_X10_state 3 0 0 [.ref 47, .int (nI c), .int (nI kb)] h (rd (nI (16 * c + (kb ||| kmm Z.2.2.2.1 c))) h) := by
  obtain ⟨wr, thr, rt, ci, pl, hd, sg, mc, mo, md, mw, mk, O, G, ⟨a1, a2, a3, a4⟩, R, hk, hD, q⟩ := C
  exact m_state O a4 hk c hkb
def pEn (h : aq_H) (e : Nat) (F : Nat → Option Nat) (gd : Nat → Bool) (n : Nat) : Option Value → aq_H → Prop := fun r h' => sm 60 60 h h' ∧ ∃ b, r = some (.int (bB b)) ∧ FG h' F (fun s => gd s || decide (s / 16 = e ∧ F s = some n)) ∧ (b = true ↔ ∃ s, s / 16 = e ∧ F s = some n)
theorem cx_ends (C : mCx h w ht wx wy cb Z e) (hFG : FG h F gd) (hF2 : ∀ s m, F s = some m → m < 2 ^ 31) (hn2 : n < 2 ^ 31) : aq_T e_X10_ends 4 0 0 [.ref 47, .int (nI n)] h (pEn h e F gd n) := by
  have hn := C.n144
  obtain ⟨hst, he, hee⟩ := C.ee
  obtain ⟨wr, thr, rt, ci, pl, hd, sg, O⟩ := C.ob
  unfold mOb at O
  obtain ⟨fa, go, b1, b2, hF, hg⟩ := hFG
  refine ⟨Nat.le_of_ble_eq_true rfl, ?_⟩
  show aq_W _ _ 0 [some (.ref 47), some (.int (nI n)), none, none] [] _ _ _
  have one : ∀ (j k : Nat), k + j = 16 → ∀ (h2 : aq_H) (go' : Nat → Int32) (b : Bool), sm 60 60 h h2 → h2[60]? = some (.inl (.boolean, 2304, .inl go')) → (∀ s, s < 2304 → go' s = bB (gd s || decide (s / 16 = e ∧ s % 16 < k ∧ F s = some n))) → (b = true ↔ ∃ s, s / 16 = e ∧ s % 16 < k ∧ F s = some n) → aq_W e_X10_ends (pEn h e F gd n) 4 [some (.ref 47), some (.int (nI n)), some (.int (bB b)), some (.int (nI k))] [] h2 0 0 := by
    intro j
    induction j with
    | zero =>
      intro k hk h2 go' b S e2 q1 q2
      have ek : k = 16 := by omega
      subst ek
      have h16 : (16 : Int32) ≤ nI 16 := by decide
      have iff_ : ∀ s, (s / 16 = e ∧ s % 16 < 16 ∧ F s = some n) ↔ (s / 16 = e ∧ F s = some n) := fun s => ⟨fun ⟨x, _, y⟩ => ⟨x, y⟩, fun ⟨x, y⟩ => ⟨x, Nat.mod_lt _ (by decide), y⟩⟩
      rw [s_X10_ends_4]
      simp only [s_X10_ends_5, s_X10_ends_7, s_X10_ends_51, s_X10_ends_52, aq_gI, aq_gL, aq_gA, aq_isA, aq_s1, aq_s2, aq_kill, aq_ob, aq_sm, aq_arI, aq_arB, aq_isB, aq_arL, aq_arA, aq_arN, aq_sh, Value.category, List.getElem?_cons_zero, List.getElem?_cons_succ, List.length_cons, List.length_nil, Option.toList_some, Option.toList_none, List.cons_append, List.nil_append, true_and, and_true, List.set_cons_zero, List.set_cons_succ, aq_n1, aq_n2, aq_n3, aq_n4, aq_f1, aq_f2, aq_f3, aq_f4, aq_gs, aq_ty1, aq_ty2, aq_ty3, aq_ty4, aq_ty5, Nat.reduceAdd, Nat.reduceLT, Nat.reduceEqDiff, Nat.reduceSub, if_true, if_false, ne_eq, not_false_eq_true, not_true_eq_false, Option.map_some, Option.map_none, Nat.zero_add, reduceCtorEq, Nat.reduceLeDiff, one_ne_zero_a, zero_ne_one_a, aq_nb, aq_nb1, aq_nb0, aq_fb, aq_fb1, aq_fb0, aq_ofN, bB_t, bB_f, bB_v, vpn_b1, vpn_b0, nI_1, Bool.true_eq_false, Bool.false_eq_true, Bool.true_and, Bool.false_and, Bool.and_true, Bool.and_false, h16]
      refine ⟨S, b, rfl, ⟨fa, go', (S 59 (by omega)).trans b1, e2, hF, fun s hs => ?_⟩, ?_⟩
      · rw [q1 s hs, decide_eq_decide.mpr (iff_ s)]
      · rw [q2]; exact ⟨fun ⟨s, x⟩ => ⟨s, (iff_ s).mp x⟩, fun ⟨s, x⟩ => ⟨s, (iff_ s).mpr x⟩⟩
    | succ j ih =>
      intro k hk h2 go' b S e2 q1 q2
      have h16 : ¬ (16 : Int32) ≤ nI k := by rw [nI_16]; exact nI_ge (show k < 16 by omega) (by decide)
      have O2 := (S 47 (by omega)).trans O
      have c1 := (S 59 (by omega)).trans b1
      have hix : 16 * e + k < 2304 := by omega
      have hde : (16 * e + k) / 16 = e := by omega
      have hme : (16 * e + k) % 16 = k := by omega
      have hoi := oI_inj (a := F (16 * e + k)) (b := some n) (hF2 _) (fun m hm => by cases hm; exact hn2)
      rw [s_X10_ends_4]
      simp only [s_X10_ends_5, s_X10_ends_7, s_X10_ends_10, s_X10_ends_11, s_X10_ends_14, s_X10_ends_16, s_X10_ends_17, s_X10_ends_20, s_X10_ends_21, s_X10_ends_22, s_X10_ends_23, s_X10_ends_24, aq_gI, aq_gL, aq_gA, aq_isA, aq_s1, aq_s2, aq_kill, aq_ob, aq_sm, aq_arI, aq_arB, aq_isB, aq_arL, aq_arA, aq_arN, aq_sh, Value.category, List.getElem?_cons_zero, List.getElem?_cons_succ, List.length_cons, List.length_nil, Option.toList_some, Option.toList_none, List.cons_append, List.nil_append, true_and, and_true, List.set_cons_zero, List.set_cons_succ, aq_n1, aq_n2, aq_n3, aq_n4, aq_f1, aq_f2, aq_f3, aq_f4, aq_gs, aq_ty1, aq_ty2, aq_ty3, aq_ty4, aq_ty5, Nat.reduceAdd, Nat.reduceLT, Nat.reduceEqDiff, Nat.reduceSub, if_true, if_false, ne_eq, not_false_eq_true, not_true_eq_false, Option.map_some, Option.map_none, Nat.zero_add, reduceCtorEq, Nat.reduceLeDiff, one_ne_zero_a, zero_ne_one_a, aq_nb, aq_nb1, aq_nb0, aq_fb, aq_fb1, aq_fb0, aq_ofN, bB_t, bB_f, bB_v, vpn_b1, vpn_b0, nI_1, Bool.true_eq_false, Bool.false_eq_true, Bool.true_and, Bool.false_and, Bool.and_true, Bool.and_false, h16, O2, c1, nI_16c, vp_in_nI hix (show 2304 < 2 ^ 31 by decide), nI_clamp (show 16 * e + k < 2 ^ 31 by omega), hF _ hix]
      by_cases hf : F (16 * e + k) = some n
      · simp only [s_X10_ends_25, s_X10_ends_28, s_X10_ends_29, s_X10_ends_32, s_X10_ends_34, s_X10_ends_35, s_X10_ends_38, s_X10_ends_39, s_X10_ends_40, s_X10_ends_41, s_X10_ends_42, s_X10_ends_43, s_X10_ends_44, s_X10_ends_45, s_X10_ends_48, aq_gI, aq_gL, aq_gA, aq_isA, aq_s1, aq_s2, aq_kill, aq_ob, aq_sm, aq_arI, aq_arB, aq_isB, aq_arL, aq_arA, aq_arN, aq_sh, Value.category, List.getElem?_cons_zero, List.getElem?_cons_succ, List.length_cons, List.length_nil, Option.toList_some, Option.toList_none, List.cons_append, List.nil_append, true_and, and_true, List.set_cons_zero, List.set_cons_succ, aq_n1, aq_n2, aq_n3, aq_n4, aq_f1, aq_f2, aq_f3, aq_f4, aq_gs, aq_ty1, aq_ty2, aq_ty3, aq_ty4, aq_ty5, Nat.reduceAdd, Nat.reduceLT, Nat.reduceEqDiff, Nat.reduceSub, if_true, if_false, ne_eq, not_false_eq_true, not_true_eq_false, Option.map_some, Option.map_none, Nat.zero_add, reduceCtorEq, Nat.reduceLeDiff, one_ne_zero_a, zero_ne_one_a, aq_nb, aq_nb1, aq_nb0, aq_fb, aq_fb1, aq_fb0, aq_ofN, bB_t, bB_f, bB_v, vpn_b1, vpn_b0, nI_1, Bool.true_eq_false, Bool.false_eq_true, Bool.true_and, Bool.false_and, Bool.and_true, Bool.and_false, hf, oI, O2, e2, nI_16c, vp_in_nI hix (show 2304 < 2 ^ 31 by decide), nI_clamp (show 16 * e + k < 2 ^ 31 by omega)]
        refine ih (k + 1) (by omega) _ (upd go' (16 * e + k) 1) true (S.st (by decide) (by decide)) (by simp only [aq_gI, aq_gL, aq_gA, aq_isA, aq_s1, aq_s2, aq_kill, aq_ob, aq_sm, aq_arI, aq_arB, aq_isB, aq_arL, aq_arA, aq_arN, aq_sh, Value.category, List.getElem?_cons_zero, List.getElem?_cons_succ, List.length_cons, List.length_nil, Option.toList_some, Option.toList_none, List.cons_append, List.nil_append, true_and, and_true, List.set_cons_zero, List.set_cons_succ, aq_n1, aq_n2, aq_n3, aq_n4, aq_f1, aq_f2, aq_f3, aq_f4, aq_gs, aq_ty1, aq_ty2, aq_ty3, aq_ty4, aq_ty5, Nat.reduceAdd, Nat.reduceLT, Nat.reduceEqDiff, Nat.reduceSub, if_true, if_false, ne_eq, not_false_eq_true, not_true_eq_false, Option.map_some, Option.map_none, Nat.zero_add, reduceCtorEq, Nat.reduceLeDiff, one_ne_zero_a, zero_ne_one_a, e2]) (fun s hs => ?_) ?_
        · by_cases z : s = 16 * e + k
          · rw [z, upd_s, decide_eq_true (show (16 * e + k) / 16 = e ∧ (16 * e + k) % 16 < k + 1 ∧ F (16 * e + k) = some n from ⟨hde, by omega, hf⟩), Bool.or_true]; rfl
          · rw [upd_n _ _ z, q1 s hs, decide_eq_decide.mpr (show (s / 16 = e ∧ s % 16 < k ∧ F s = some n) ↔ (s / 16 = e ∧ s % 16 < k + 1 ∧ F s = some n) from ⟨fun ⟨x, y, u⟩ => ⟨x, by omega, u⟩, fun ⟨x, y, u⟩ => ⟨x, by omega, u⟩⟩)]
        · exact ⟨fun _ => ⟨16 * e + k, hde, by omega, hf⟩, fun _ => rfl⟩
      · have hf' : ¬ oI (F (16 * e + k)) = nI n := fun z => hf (hoi.mp z)
        simp only [s_X10_ends_25, s_X10_ends_45, s_X10_ends_48, aq_gI, aq_gL, aq_gA, aq_isA, aq_s1, aq_s2, aq_kill, aq_ob, aq_sm, aq_arI, aq_arB, aq_isB, aq_arL, aq_arA, aq_arN, aq_sh, Value.category, List.getElem?_cons_zero, List.getElem?_cons_succ, List.length_cons, List.length_nil, Option.toList_some, Option.toList_none, List.cons_append, List.nil_append, true_and, and_true, List.set_cons_zero, List.set_cons_succ, aq_n1, aq_n2, aq_n3, aq_n4, aq_f1, aq_f2, aq_f3, aq_f4, aq_gs, aq_ty1, aq_ty2, aq_ty3, aq_ty4, aq_ty5, Nat.reduceAdd, Nat.reduceLT, Nat.reduceEqDiff, Nat.reduceSub, if_true, if_false, ne_eq, not_false_eq_true, not_true_eq_false, Option.map_some, Option.map_none, Nat.zero_add, reduceCtorEq, Nat.reduceLeDiff, one_ne_zero_a, zero_ne_one_a, aq_nb, aq_nb1, aq_nb0, aq_fb, aq_fb1, aq_fb0, aq_ofN, bB_t, bB_f, bB_v, vpn_b1, vpn_b0, nI_1, Bool.true_eq_false, Bool.false_eq_true, Bool.true_and, Bool.false_and, Bool.and_true, Bool.and_false, hf']
        have iff_ : ∀ s, (s / 16 = e ∧ s % 16 < k ∧ F s = some n) ↔ (s / 16 = e ∧ s % 16 < k + 1 ∧ F s = some n) := by
          intro s
          refine ⟨fun ⟨x, y, u⟩ => ⟨x, by omega, u⟩, fun ⟨x, y, u⟩ => ⟨x, ?_, u⟩⟩
          by_cases z : s % 16 = k
          · have : s = 16 * e + k := by omega
            rw [this] at u; exact absurd u hf
          · omega
        refine ih (k + 1) (by omega) h2 go' b S e2 (fun s hs => ?_) ?_
        · rw [q1 s hs, decide_eq_decide.mpr (iff_ s)]
        · rw [q2]; exact ⟨fun ⟨s, x⟩ => ⟨s, (iff_ s).mp x⟩, fun ⟨s, x⟩ => ⟨s, (iff_ s).mpr x⟩⟩
  simp only [s_X10_ends_0, s_X10_ends_1, s_X10_ends_2, s_X10_ends_3, aq_gI, aq_gL, aq_gA, aq_isA, aq_s1, aq_s2, aq_kill, aq_ob, aq_sm, aq_arI, aq_arB, aq_isB, aq_arL, aq_arA, aq_arN, aq_sh, Value.category, List.getElem?_cons_zero, List.getElem?_cons_succ, List.length_cons, List.length_nil, Option.toList_some, Option.toList_none, List.cons_append, List.nil_append, true_and, and_true, List.set_cons_zero, List.set_cons_succ, aq_n1, aq_n2, aq_n3, aq_n4, aq_f1, aq_f2, aq_f3, aq_f4, aq_gs, aq_ty1, aq_ty2, aq_ty3, aq_ty4, aq_ty5, Nat.reduceAdd, Nat.reduceLT, Nat.reduceEqDiff, Nat.reduceSub, if_true, if_false, ne_eq, not_false_eq_true, not_true_eq_false, Option.map_some, Option.map_none, Nat.zero_add, reduceCtorEq, Nat.reduceLeDiff, one_ne_zero_a, zero_ne_one_a, aq_nb, aq_nb1, aq_nb0, aq_fb, aq_fb1, aq_fb0, aq_ofN, bB_t, bB_f, bB_v, vpn_b1, vpn_b0, nI_1, Bool.true_eq_false, Bool.false_eq_true, Bool.true_and, Bool.false_and, Bool.and_true, Bool.and_false]
  have := one 16 0 rfl h go false (sm.rf _ _ _) b2 (fun s hs => by rw [hg s hs, decide_eq_false (fun z => by have := z.2.1; omega), Bool.or_false]) ⟨fun z => (by cases z), fun ⟨s, z⟩ => (by have := z.2.1; omega)⟩
  exact this
theorem ln_d {Q : Option Value → aq_H → Prop} (C : mCx h w ht wx wy cb Z e) (L : LV (w * ht * 16) (sF w ht wx wy cb Z) (sS Z) F0 n) (hn2 : n < 2 ^ 30) (hk : k < 2304)
    (K : ∀ (h2 : aq_H) (F : Nat → Option Nat) (gs : Bool) (L4 L5 : Option Value), sm 59 59 h h2 → FG h2 F gd → LW (w * ht * 16) (sF w ht wx wy cb Z) (sS Z) F0 F n (k + 1) 0 → gsI F0 F gs → aq_W e_X10_length Q 174 [some (.ref 47), some (.int (nI n)), some (.int (bB gs)), some (.int (nI k)), L4, L5] [] h2 0 0) :
    ∀ (j d : Nat), d + j = 4 → ∀ (h2 : aq_H) (F : Nat → Option Nat) (gs : Bool) (L5 : Option Value), sm 59 59 h h2 → FG h2 F gd → LW (w * ht * 16) (sF w ht wx wy cb Z) (sS Z) F0 F n k d → gsI F0 F gs → aq_W e_X10_length Q 91 [some (.ref 47), some (.int (nI n)), some (.int (bB gs)), some (.int (nI k)), some (.int (nI d)), L5] [] h2 0 0 := by
  have hn := C.n144
  intro j
  induction j with
  | zero =>
    intro d hd h2 F gs L5 S hFG W hg
    have e4 : d = 4 := by omega
    subst e4
    have h4 : (4 : Int32) ≤ nI 4 := by decide
    rw [s_X10_length_91]
    simp only [s_X10_length_93, s_X10_length_94, aq_gI, aq_gL, aq_gA, aq_isA, aq_s1, aq_s2, aq_kill, aq_ob, aq_sm, aq_arI, aq_arB, aq_isB, aq_arL, aq_arA, aq_arN, aq_sh, Value.category, List.getElem?_cons_zero, List.getElem?_cons_succ, List.length_cons, List.length_nil, Option.toList_some, Option.toList_none, List.cons_append, List.nil_append, true_and, and_true, List.set_cons_zero, List.set_cons_succ, aq_n1, aq_n2, aq_n3, aq_n4, aq_f1, aq_f2, aq_f3, aq_f4, aq_gs, aq_ty1, aq_ty2, aq_ty3, aq_ty4, aq_ty5, Nat.reduceAdd, Nat.reduceLT, Nat.reduceEqDiff, Nat.reduceSub, if_true, if_false, ne_eq, not_false_eq_true, not_true_eq_false, Option.map_some, Option.map_none, Nat.zero_add, reduceCtorEq, Nat.reduceLeDiff, one_ne_zero_a, zero_ne_one_a, aq_nb, aq_nb1, aq_nb0, aq_fb, aq_fb1, aq_fb0, aq_ofN, bB_t, bB_f, bB_v, vpn_b1, vpn_b0, nI_1, Bool.true_eq_false, Bool.false_eq_true, Bool.true_and, Bool.false_and, Bool.and_true, Bool.and_false, h4]
    exact K h2 F gs _ _ S hFG (LW_nx W) hg
  | succ j ih =>
    intro d hd h2 F gs L5 S hFG W hg
    have hd4 : d < 4 := by omega
    have h4 : ¬ (4 : Int32) ≤ nI d := by rw [nI_4]; exact nI_ge hd4 (by omega)
    have C2 := C.sm (S.mo (by decide) (by decide))
    obtain ⟨wr, thr, rt, ci, pl, hd', sg, O⟩ := C2.ob
    unfold mOb at O
    have hFG0 := hFG
    obtain ⟨fa, go, b1, b2, hF, hgo⟩ := hFG
    have hF2 : ∀ s m, F s = some m → m < 2 ^ 31 := by
      intro s m hm
      cases e0 : F0 s with
      | some m' => have h3 := W.1 s m' e0; rw [hm] at h3; cases h3; have := (L.1 s m e0).2.1; omega
      | none =>
        rcases W.2.1 s e0 with q | ⟨q, -⟩
        · rw [q] at hm; cases hm
        · rw [q] at hm; cases hm; omega
    have hoi := oI_inj (a := F k) (b := some n) (hF2 _) (fun m hm => by cases hm; omega)
    rw [s_X10_length_91]
    simp only [s_X10_length_93, s_X10_length_94, s_X10_length_97, s_X10_length_98, s_X10_length_101, s_X10_length_102, s_X10_length_103, aq_gI, aq_gL, aq_gA, aq_isA, aq_s1, aq_s2, aq_kill, aq_ob, aq_sm, aq_arI, aq_arB, aq_isB, aq_arL, aq_arA, aq_arN, aq_sh, Value.category, List.getElem?_cons_zero, List.getElem?_cons_succ, List.length_cons, List.length_nil, Option.toList_some, Option.toList_none, List.cons_append, List.nil_append, true_and, and_true, List.set_cons_zero, List.set_cons_succ, aq_n1, aq_n2, aq_n3, aq_n4, aq_f1, aq_f2, aq_f3, aq_f4, aq_gs, aq_ty1, aq_ty2, aq_ty3, aq_ty4, aq_ty5, Nat.reduceAdd, Nat.reduceLT, Nat.reduceEqDiff, Nat.reduceSub, if_true, if_false, ne_eq, not_false_eq_true, not_true_eq_false, Option.map_some, Option.map_none, Nat.zero_add, reduceCtorEq, Nat.reduceLeDiff, one_ne_zero_a, zero_ne_one_a, aq_nb, aq_nb1, aq_nb0, aq_fb, aq_fb1, aq_fb0, aq_ofN, bB_t, bB_f, bB_v, vpn_b1, vpn_b0, nI_1, Bool.true_eq_false, Bool.false_eq_true, Bool.true_and, Bool.false_and, Bool.and_true, Bool.and_false, h4, O, b1, vp_in_nI hk (show 2304 < 2 ^ 31 by decide), nI_clamp (show k < 2 ^ 31 by omega), hF k hk]
    by_cases hf : F k = some n
    · have hf0 := (LW_n W k).mp hf
      have hkN := (L.1 k n hf0).1
      simp only [s_X10_length_104, s_X10_length_107, s_X10_length_108, s_X10_length_109, s_X10_length_111, s_X10_length_112, s_X10_length_114, s_X10_length_115, s_X10_length_117, s_X10_length_118, aq_gI, aq_gL, aq_gA, aq_isA, aq_s1, aq_s2, aq_kill, aq_ob, aq_sm, aq_arI, aq_arB, aq_isB, aq_arL, aq_arA, aq_arN, aq_sh, Value.category, List.getElem?_cons_zero, List.getElem?_cons_succ, List.length_cons, List.length_nil, Option.toList_some, Option.toList_none, List.cons_append, List.nil_append, true_and, and_true, List.set_cons_zero, List.set_cons_succ, aq_n1, aq_n2, aq_n3, aq_n4, aq_f1, aq_f2, aq_f3, aq_f4, aq_gs, aq_ty1, aq_ty2, aq_ty3, aq_ty4, aq_ty5, Nat.reduceAdd, Nat.reduceLT, Nat.reduceEqDiff, Nat.reduceSub, if_true, if_false, ne_eq, not_false_eq_true, not_true_eq_false, Option.map_some, Option.map_none, Nat.zero_add, reduceCtorEq, Nat.reduceLeDiff, one_ne_zero_a, zero_ne_one_a, aq_nb, aq_nb1, aq_nb0, aq_fb, aq_fb1, aq_fb0, aq_ofN, bB_t, bB_f, bB_v, vpn_b1, vpn_b0, nI_1, Bool.true_eq_false, Bool.false_eq_true, Bool.true_and, Bool.false_and, Bool.and_true, Bool.and_false, hf, oI, O, n16z, d16 (show k < 2 ^ 31 by omega), r16 (show k < 2 ^ 31 by omega)]
      refine (cx_step C2 hkN (nI d)).use ?_
      rintro _ h2 ⟨rfl, rfl⟩
      rw [inC_nI hd4 (by decide), if_pos rfl, nI_clamp (show d < 2 ^ 31 by omega)]
      have hsf : sF w ht wx wy cb Z k d = (stf w ht wx wy cb Z.1 Z.2.1 Z.2.2.1 (k / 16) d (nI (k % 16))).map (fun c => 16 * c + (k % 16 ||| kmm Z.2.2.2.1 c)) := rfl
      cases hx : stf w ht wx wy cb Z.1 Z.2.1 Z.2.2.1 (k / 16) d (nI (k % 16)) with
      | none =>
        rw [hx] at hsf
        simp only [oI, s_X10_length_121, s_X10_length_123, s_X10_length_125, s_X10_length_126, s_X10_length_168, s_X10_length_171, aq_gI, aq_gL, aq_gA, aq_isA, aq_s1, aq_s2, aq_kill, aq_ob, aq_sm, aq_arI, aq_arB, aq_isB, aq_arL, aq_arA, aq_arN, aq_sh, Value.category, List.getElem?_cons_zero, List.getElem?_cons_succ, List.length_cons, List.length_nil, Option.toList_some, Option.toList_none, List.cons_append, List.nil_append, true_and, and_true, List.set_cons_zero, List.set_cons_succ, aq_n1, aq_n2, aq_n3, aq_n4, aq_f1, aq_f2, aq_f3, aq_f4, aq_gs, aq_ty1, aq_ty2, aq_ty3, aq_ty4, aq_ty5, Nat.reduceAdd, Nat.reduceLT, Nat.reduceEqDiff, Nat.reduceSub, if_true, if_false, ne_eq, not_false_eq_true, not_true_eq_false, Option.map_some, Option.map_none, Nat.zero_add, reduceCtorEq, Nat.reduceLeDiff, one_ne_zero_a, zero_ne_one_a, aq_nb, aq_nb1, aq_nb0, aq_fb, aq_fb1, aq_fb0, aq_ofN, bB_t, bB_f, bB_v, vpn_b1, vpn_b0, nI_1, Bool.true_eq_false, Bool.false_eq_true, Bool.true_and, Bool.false_and, Bool.and_true, Bool.and_false]
        exact ih (d + 1) (by omega) h2 F gs _ S hFG0 (LW_no W (fun _ v hv => by rw [hsf] at hv; cases hv)) hg
      | some c =>
        rw [hx] at hsf
        have hc := stf_lt C2.bd (show k / 16 < w * ht by omega) hd4 hx
        have hor := or16 (k % 16) (by omega) _ (kmm_lt Z.2.2.2.1 c)
        have hvN : 16 * c + (k % 16 ||| kmm Z.2.2.2.1 c) < w * ht * 16 := by omega
        simp only [oI, s_X10_length_121, s_X10_length_123, s_X10_length_125, s_X10_length_126, s_X10_length_129, s_X10_length_130, s_X10_length_133, s_X10_length_134, s_X10_length_136, s_X10_length_137, s_X10_length_139, s_X10_length_140, aq_gI, aq_gL, aq_gA, aq_isA, aq_s1, aq_s2, aq_kill, aq_ob, aq_sm, aq_arI, aq_arB, aq_isB, aq_arL, aq_arA, aq_arN, aq_sh, Value.category, List.getElem?_cons_zero, List.getElem?_cons_succ, List.length_cons, List.length_nil, Option.toList_some, Option.toList_none, List.cons_append, List.nil_append, true_and, and_true, List.set_cons_zero, List.set_cons_succ, aq_n1, aq_n2, aq_n3, aq_n4, aq_f1, aq_f2, aq_f3, aq_f4, aq_gs, aq_ty1, aq_ty2, aq_ty3, aq_ty4, aq_ty5, Nat.reduceAdd, Nat.reduceLT, Nat.reduceEqDiff, Nat.reduceSub, if_true, if_false, ne_eq, not_false_eq_true, not_true_eq_false, Option.map_some, Option.map_none, Nat.zero_add, reduceCtorEq, Nat.reduceLeDiff, one_ne_zero_a, zero_ne_one_a, aq_nb, aq_nb1, aq_nb0, aq_fb, aq_fb1, aq_fb0, aq_ofN, bB_t, bB_f, bB_v, vpn_b1, vpn_b0, nI_1, Bool.true_eq_false, Bool.false_eq_true, Bool.true_and, Bool.false_and, Bool.and_true, Bool.and_false, O, nI_ne_m1 (show c < 2 ^ 31 by omega), n16z, d16 (show k < 2 ^ 31 by omega), r16 (show k < 2 ^ 31 by omega)]
        refine (cx_state C2 c (show k % 16 < 16 by omega)).use ?_
        rintro _ h2 ⟨rfl, rfl⟩
        generalize hV : 16 * c + (k % 16 ||| kmm Z.2.2.2.1 c) = v at hvN
        have hsf2 : sF w ht wx wy cb Z k d = some v := by rw [hsf, ← hV]; rfl
        have hv3 : v < 2304 := by omega
        simp only [s_X10_length_143, s_X10_length_144, aq_gI, aq_gL, aq_gA, aq_isA, aq_s1, aq_s2, aq_kill, aq_ob, aq_sm, aq_arI, aq_arB, aq_isB, aq_arL, aq_arA, aq_arN, aq_sh, Value.category, List.getElem?_cons_zero, List.getElem?_cons_succ, List.length_cons, List.length_nil, Option.toList_some, Option.toList_none, List.cons_append, List.nil_append, true_and, and_true, List.set_cons_zero, List.set_cons_succ, aq_n1, aq_n2, aq_n3, aq_n4, aq_f1, aq_f2, aq_f3, aq_f4, aq_gs, aq_ty1, aq_ty2, aq_ty3, aq_ty4, aq_ty5, Nat.reduceAdd, Nat.reduceLT, Nat.reduceEqDiff, Nat.reduceSub, if_true, if_false, ne_eq, not_false_eq_true, not_true_eq_false, Option.map_some, Option.map_none, Nat.zero_add, reduceCtorEq, Nat.reduceLeDiff, one_ne_zero_a, zero_ne_one_a, aq_nb, aq_nb1, aq_nb0, aq_fb, aq_fb1, aq_fb0, aq_ofN, bB_t, bB_f, bB_v, vpn_b1, vpn_b0, nI_1, Bool.true_eq_false, Bool.false_eq_true, Bool.true_and, Bool.false_and, Bool.and_true, Bool.and_false, b1, vp_in_nI hv3 (show 2304 < 2 ^ 31 by decide), nI_clamp (show v < 2 ^ 31 by omega), hF v hv3]
        cases hfv : F v with
        | some m =>
          simp only [oI, s_X10_length_145, s_X10_length_168, s_X10_length_171, aq_gI, aq_gL, aq_gA, aq_isA, aq_s1, aq_s2, aq_kill, aq_ob, aq_sm, aq_arI, aq_arB, aq_isB, aq_arL, aq_arA, aq_arN, aq_sh, Value.category, List.getElem?_cons_zero, List.getElem?_cons_succ, List.length_cons, List.length_nil, Option.toList_some, Option.toList_none, List.cons_append, List.nil_append, true_and, and_true, List.set_cons_zero, List.set_cons_succ, aq_n1, aq_n2, aq_n3, aq_n4, aq_f1, aq_f2, aq_f3, aq_f4, aq_gs, aq_ty1, aq_ty2, aq_ty3, aq_ty4, aq_ty5, Nat.reduceAdd, Nat.reduceLT, Nat.reduceEqDiff, Nat.reduceSub, if_true, if_false, ne_eq, not_false_eq_true, not_true_eq_false, Option.map_some, Option.map_none, Nat.zero_add, reduceCtorEq, Nat.reduceLeDiff, one_ne_zero_a, zero_ne_one_a, aq_nb, aq_nb1, aq_nb0, aq_fb, aq_fb1, aq_fb0, aq_ofN, bB_t, bB_f, bB_v, vpn_b1, vpn_b0, nI_1, Bool.true_eq_false, Bool.false_eq_true, Bool.true_and, Bool.false_and, Bool.and_true, Bool.and_false, nI_ne_m1 (hF2 v m hfv)]
          refine ih (d + 1) (by omega) h2 F gs _ S hFG0 (LW_no W (fun _ v' hv' => ?_)) hg
          rw [hsf2] at hv'
          cases hv'
          rw [hfv]
          exact fun z => by cases z
        | none =>
          simp only [oI, s_X10_length_145, s_X10_length_148, s_X10_length_149, s_X10_length_152, s_X10_length_153, s_X10_length_155, s_X10_length_156, s_X10_length_158, s_X10_length_159, aq_gI, aq_gL, aq_gA, aq_isA, aq_s1, aq_s2, aq_kill, aq_ob, aq_sm, aq_arI, aq_arB, aq_isB, aq_arL, aq_arA, aq_arN, aq_sh, Value.category, List.getElem?_cons_zero, List.getElem?_cons_succ, List.length_cons, List.length_nil, Option.toList_some, Option.toList_none, List.cons_append, List.nil_append, true_and, and_true, List.set_cons_zero, List.set_cons_succ, aq_n1, aq_n2, aq_n3, aq_n4, aq_f1, aq_f2, aq_f3, aq_f4, aq_gs, aq_ty1, aq_ty2, aq_ty3, aq_ty4, aq_ty5, Nat.reduceAdd, Nat.reduceLT, Nat.reduceEqDiff, Nat.reduceSub, if_true, if_false, ne_eq, not_false_eq_true, not_true_eq_false, Option.map_some, Option.map_none, Nat.zero_add, reduceCtorEq, Nat.reduceLeDiff, one_ne_zero_a, zero_ne_one_a, aq_nb, aq_nb1, aq_nb0, aq_fb, aq_fb1, aq_fb0, aq_ofN, bB_t, bB_f, bB_v, vpn_b1, vpn_b0, nI_1, Bool.true_eq_false, Bool.false_eq_true, Bool.true_and, Bool.false_and, Bool.and_true, Bool.and_false, O, n16z, d16 (show k < 2 ^ 31 by omega), r16 (show k < 2 ^ 31 by omega)]
          refine (cx_state C2 c (show k % 16 < 16 by omega)).use ?_
          rintro _ h2 ⟨rfl, rfl⟩
          rw [hV]
          simp only [s_X10_length_162, s_X10_length_163, s_X10_length_164, s_X10_length_165, s_X10_length_166, s_X10_length_167, s_X10_length_168, s_X10_length_171, aq_gI, aq_gL, aq_gA, aq_isA, aq_s1, aq_s2, aq_kill, aq_ob, aq_sm, aq_arI, aq_arB, aq_isB, aq_arL, aq_arA, aq_arN, aq_sh, Value.category, List.getElem?_cons_zero, List.getElem?_cons_succ, List.length_cons, List.length_nil, Option.toList_some, Option.toList_none, List.cons_append, List.nil_append, true_and, and_true, List.set_cons_zero, List.set_cons_succ, aq_n1, aq_n2, aq_n3, aq_n4, aq_f1, aq_f2, aq_f3, aq_f4, aq_gs, aq_ty1, aq_ty2, aq_ty3, aq_ty4, aq_ty5, Nat.reduceAdd, Nat.reduceLT, Nat.reduceEqDiff, Nat.reduceSub, if_true, if_false, ne_eq, not_false_eq_true, not_true_eq_false, Option.map_some, Option.map_none, Nat.zero_add, reduceCtorEq, Nat.reduceLeDiff, one_ne_zero_a, zero_ne_one_a, aq_nb, aq_nb1, aq_nb0, aq_fb, aq_fb1, aq_fb0, aq_ofN, bB_t, bB_f, bB_v, vpn_b1, vpn_b0, nI_1, Bool.true_eq_false, Bool.false_eq_true, Bool.true_and, Bool.false_and, Bool.and_true, Bool.and_false, b1, vp_in_nI hv3 (show 2304 < 2 ^ 31 by decide), nI_clamp (show v < 2 ^ 31 by omega)]
          refine ih (d + 1) (by omega) _ (fs F v (some (n + 1))) true _ (S.st (by decide) (by decide)) ⟨upd fa v (nI (n + 1)), go, by simp only [aq_gI, aq_gL, aq_gA, aq_isA, aq_s1, aq_s2, aq_kill, aq_ob, aq_sm, aq_arI, aq_arB, aq_isB, aq_arL, aq_arA, aq_arN, aq_sh, Value.category, List.getElem?_cons_zero, List.getElem?_cons_succ, List.length_cons, List.length_nil, Option.toList_some, Option.toList_none, List.cons_append, List.nil_append, true_and, and_true, List.set_cons_zero, List.set_cons_succ, aq_n1, aq_n2, aq_n3, aq_n4, aq_f1, aq_f2, aq_f3, aq_f4, aq_gs, aq_ty1, aq_ty2, aq_ty3, aq_ty4, aq_ty5, Nat.reduceAdd, Nat.reduceLT, Nat.reduceEqDiff, Nat.reduceSub, if_true, if_false, ne_eq, not_false_eq_true, not_true_eq_false, Option.map_some, Option.map_none, Nat.zero_add, reduceCtorEq, Nat.reduceLeDiff, one_ne_zero_a, zero_ne_one_a, b1], by simp only [aq_gI, aq_gL, aq_gA, aq_isA, aq_s1, aq_s2, aq_kill, aq_ob, aq_sm, aq_arI, aq_arB, aq_isB, aq_arL, aq_arA, aq_arN, aq_sh, Value.category, List.getElem?_cons_zero, List.getElem?_cons_succ, List.length_cons, List.length_nil, Option.toList_some, Option.toList_none, List.cons_append, List.nil_append, true_and, and_true, List.set_cons_zero, List.set_cons_succ, aq_n1, aq_n2, aq_n3, aq_n4, aq_f1, aq_f2, aq_f3, aq_f4, aq_gs, aq_ty1, aq_ty2, aq_ty3, aq_ty4, aq_ty5, Nat.reduceAdd, Nat.reduceLT, Nat.reduceEqDiff, Nat.reduceSub, if_true, if_false, ne_eq, not_false_eq_true, not_true_eq_false, Option.map_some, Option.map_none, Nat.zero_add, reduceCtorEq, Nat.reduceLeDiff, one_ne_zero_a, zero_ne_one_a, b2], fun s hs => ?_, hgo⟩ (LW_new L W hd4 hf0 hvN hsf2 hfv) (gsI_set hg hv3 hfv (n + 1))
          by_cases z : s = v
          · rw [z, upd_s, fs_s]; rfl
          · rw [upd_n _ _ z, fs_n _ _ z]; exact hF s hs
    · have hf' : ¬ oI (F k) = nI n := fun z => hf (hoi.mp z)
      simp only [s_X10_length_104, aq_gI, aq_gL, aq_gA, aq_isA, aq_s1, aq_s2, aq_kill, aq_ob, aq_sm, aq_arI, aq_arB, aq_isB, aq_arL, aq_arA, aq_arN, aq_sh, Value.category, List.getElem?_cons_zero, List.getElem?_cons_succ, List.length_cons, List.length_nil, Option.toList_some, Option.toList_none, List.cons_append, List.nil_append, true_and, and_true, List.set_cons_zero, List.set_cons_succ, aq_n1, aq_n2, aq_n3, aq_n4, aq_f1, aq_f2, aq_f3, aq_f4, aq_gs, aq_ty1, aq_ty2, aq_ty3, aq_ty4, aq_ty5, Nat.reduceAdd, Nat.reduceLT, Nat.reduceEqDiff, Nat.reduceSub, if_true, if_false, ne_eq, not_false_eq_true, not_true_eq_false, Option.map_some, Option.map_none, Nat.zero_add, reduceCtorEq, Nat.reduceLeDiff, one_ne_zero_a, zero_ne_one_a, aq_nb, aq_nb1, aq_nb0, aq_fb, aq_fb1, aq_fb0, aq_ofN, bB_t, bB_f, bB_v, vpn_b1, vpn_b0, nI_1, Bool.true_eq_false, Bool.false_eq_true, Bool.true_and, Bool.false_and, Bool.and_true, Bool.and_false, hf']
      exact K h2 F gs _ _ S hFG0 (LW_sk W (fun z => hf ((LW_n W k).mpr z))) hg
theorem ln_k {Q : Option Value → aq_H → Prop} (C : mCx h w ht wx wy cb Z e) (L : LV (w * ht * 16) (sF w ht wx wy cb Z) (sS Z) F0 n) (hn2 : n < 2 ^ 30)
    (K : ∀ (h2 : aq_H) (F : Nat → Option Nat) (gs : Bool) (L3 L4 L5 : Option Value), sm 59 59 h h2 → FG h2 F gd → LV (w * ht * 16) (sF w ht wx wy cb Z) (sS Z) F (n + 1) → gsI F0 F gs → aq_W e_X10_length Q 180 [some (.ref 47), some (.int (nI n)), some (.int (bB gs)), L3, L4, L5] [] h2 0 0) :
    ∀ (j k : Nat), k + j = 2304 → ∀ (h2 : aq_H) (F : Nat → Option Nat) (gs : Bool) (L4 L5 : Option Value), sm 59 59 h h2 → FG h2 F gd → LW (w * ht * 16) (sF w ht wx wy cb Z) (sS Z) F0 F n k 0 → gsI F0 F gs → aq_W e_X10_length Q 81 [some (.ref 47), some (.int (nI n)), some (.int (bB gs)), some (.int (nI k)), L4, L5] [] h2 0 0 := by
  have hn := C.n144
  intro j
  induction j with
  | zero =>
    intro k hk h2 F gs L4 L5 S hFG W hg
    have e4 : k = 2304 := by omega
    subst e4
    have h4 : (2304 : Int32) ≤ nI 2304 := by decide
    rw [s_X10_length_81]
    simp only [s_X10_length_82, s_X10_length_85, aq_gI, aq_gL, aq_gA, aq_isA, aq_s1, aq_s2, aq_kill, aq_ob, aq_sm, aq_arI, aq_arB, aq_isB, aq_arL, aq_arA, aq_arN, aq_sh, Value.category, List.getElem?_cons_zero, List.getElem?_cons_succ, List.length_cons, List.length_nil, Option.toList_some, Option.toList_none, List.cons_append, List.nil_append, true_and, and_true, List.set_cons_zero, List.set_cons_succ, aq_n1, aq_n2, aq_n3, aq_n4, aq_f1, aq_f2, aq_f3, aq_f4, aq_gs, aq_ty1, aq_ty2, aq_ty3, aq_ty4, aq_ty5, Nat.reduceAdd, Nat.reduceLT, Nat.reduceEqDiff, Nat.reduceSub, if_true, if_false, ne_eq, not_false_eq_true, not_true_eq_false, Option.map_some, Option.map_none, Nat.zero_add, reduceCtorEq, Nat.reduceLeDiff, one_ne_zero_a, zero_ne_one_a, aq_nb, aq_nb1, aq_nb0, aq_fb, aq_fb1, aq_fb0, aq_ofN, bB_t, bB_f, bB_v, vpn_b1, vpn_b0, nI_1, Bool.true_eq_false, Bool.false_eq_true, Bool.true_and, Bool.false_and, Bool.and_true, Bool.and_false, h4]
    exact K h2 F gs _ _ _ S hFG (LW_end L W (by omega)) hg
  | succ j ih =>
    intro k hk h2 F gs L4 L5 S hFG W hg
    have h4 : ¬ (2304 : Int32) ≤ nI k := by rw [show (2304 : Int32) = nI 2304 from rfl]; exact nI_ge (show k < 2304 by omega) (by decide)
    rw [s_X10_length_81]
    simp only [s_X10_length_82, s_X10_length_85, s_X10_length_88, s_X10_length_89, aq_gI, aq_gL, aq_gA, aq_isA, aq_s1, aq_s2, aq_kill, aq_ob, aq_sm, aq_arI, aq_arB, aq_isB, aq_arL, aq_arA, aq_arN, aq_sh, Value.category, List.getElem?_cons_zero, List.getElem?_cons_succ, List.length_cons, List.length_nil, Option.toList_some, Option.toList_none, List.cons_append, List.nil_append, true_and, and_true, List.set_cons_zero, List.set_cons_succ, aq_n1, aq_n2, aq_n3, aq_n4, aq_f1, aq_f2, aq_f3, aq_f4, aq_gs, aq_ty1, aq_ty2, aq_ty3, aq_ty4, aq_ty5, Nat.reduceAdd, Nat.reduceLT, Nat.reduceEqDiff, Nat.reduceSub, if_true, if_false, ne_eq, not_false_eq_true, not_true_eq_false, Option.map_some, Option.map_none, Nat.zero_add, reduceCtorEq, Nat.reduceLeDiff, one_ne_zero_a, zero_ne_one_a, aq_nb, aq_nb1, aq_nb0, aq_fb, aq_fb1, aq_fb0, aq_ofN, bB_t, bB_f, bB_v, vpn_b1, vpn_b0, nI_1, Bool.true_eq_false, Bool.false_eq_true, Bool.true_and, Bool.false_and, Bool.and_true, Bool.and_false, h4]
    rw [← nI_0]
    refine ln_d (gd := gd) (h := h) C L hn2 (show k < 2304 by omega) ?_ 4 0 rfl h2 F gs L5 S hFG W hg
    intro h3 F3 gs3 L4' L5' S3 hFG3 W3 hg3
    simp only [s_X10_length_174, s_X10_length_177, aq_gI, aq_gL, aq_gA, aq_isA, aq_s1, aq_s2, aq_kill, aq_ob, aq_sm, aq_arI, aq_arB, aq_isB, aq_arL, aq_arA, aq_arN, aq_sh, Value.category, List.getElem?_cons_zero, List.getElem?_cons_succ, List.length_cons, List.length_nil, Option.toList_some, Option.toList_none, List.cons_append, List.nil_append, true_and, and_true, List.set_cons_zero, List.set_cons_succ, aq_n1, aq_n2, aq_n3, aq_n4, aq_f1, aq_f2, aq_f3, aq_f4, aq_gs, aq_ty1, aq_ty2, aq_ty3, aq_ty4, aq_ty5, Nat.reduceAdd, Nat.reduceLT, Nat.reduceEqDiff, Nat.reduceSub, if_true, if_false, ne_eq, not_false_eq_true, not_true_eq_false, Option.map_some, Option.map_none, Nat.zero_add, reduceCtorEq, Nat.reduceLeDiff, one_ne_zero_a, zero_ne_one_a, aq_nb, aq_nb1, aq_nb0, aq_fb, aq_fb1, aq_fb0, aq_ofN, bB_t, bB_f, bB_v, vpn_b1, vpn_b0, nI_1, Bool.true_eq_false, Bool.false_eq_true, Bool.true_and, Bool.false_and, Bool.and_true, Bool.and_false]
    exact ih (k + 1) (by omega) h3 F3 gs3 _ _ S3 hFG3 W3 hg3
def pLn (h : aq_H) (w ht : Nat) (wx wy : Bool) (cb : Nat → Bool) (Z : mzT) (e : Nat) : Option Value → aq_H → Prop := fun r h' => sm 59 60 h h' ∧ ∃ o F gd, FG h' F gd ∧ ESC (sF w ht wx wy cb Z) (sS Z) (sG Z) o ∧ r = some (.int (aEs o)) ∧ ∀ c, o = some c → LV (w * ht * 16) (sF w ht wx wy cb Z) (sS Z) F (cl c) ∧ cl c < 2 ^ 30 ∧ ∀ s, gd s = true ↔ (s / 16 = e ∧ F s = some (cl c))
theorem ln_n (C : mCx h w ht wx wy cb Z e) :
    ∀ (t n : Nat), n + t = 2305 → ∀ (h2 : aq_H) (F : Nat → Option Nat) (gs : Bool) (L3 L4 L5 : Option Value), sm 59 60 h h2 → FG h2 F (fun _ => false) → LV (w * ht * 16) (sF w ht wx wy cb Z) (sS Z) F n → (∀ s m, F s = some m → m < n → ¬ sG Z s) → (gs = false → ∀ s, F s ≠ some n) → frc (sB F) 2304 + (if gs = true then 1 else 0) ≤ t → aq_W e_X10_length (pLn h w ht wx wy cb Z e) 65 [some (.ref 47), some (.int (nI n)), some (.int (bB gs)), L3, L4, L5] [] h2 0 0 := by
  have hsg : ∀ s, sG Z s ↔ s / 16 = e := fun s => by unfold sG; rw [C.ee.2.2]; exact ⟨fun z => by injection z with z; exact z.symm, fun z => by rw [z]⟩
  intro t
  induction t with
  | zero =>
    intro n hn h2 F gs L3 L4 L5 S hFG L hng hgs hfr
    have e0 : gs = false := by
      cases gs with
      | false => rfl
      | true => rw [if_pos rfl] at hfr; omega
    subst e0
    have C2 := C.sm S
    obtain ⟨wr, thr, rt, ci, pl, hd', sg, O⟩ := C2.ob
    unfold mOb at O
    rw [s_X10_length_65]
    simp only [s_X10_length_66, s_X10_length_186, s_X10_length_187, s_X10_length_188, aq_gI, aq_gL, aq_gA, aq_isA, aq_s1, aq_s2, aq_kill, aq_ob, aq_sm, aq_arI, aq_arB, aq_isB, aq_arL, aq_arA, aq_arN, aq_sh, Value.category, List.getElem?_cons_zero, List.getElem?_cons_succ, List.length_cons, List.length_nil, Option.toList_some, Option.toList_none, List.cons_append, List.nil_append, true_and, and_true, List.set_cons_zero, List.set_cons_succ, aq_n1, aq_n2, aq_n3, aq_n4, aq_f1, aq_f2, aq_f3, aq_f4, aq_gs, aq_ty1, aq_ty2, aq_ty3, aq_ty4, aq_ty5, Nat.reduceAdd, Nat.reduceLT, Nat.reduceEqDiff, Nat.reduceSub, if_true, if_false, ne_eq, not_false_eq_true, not_true_eq_false, Option.map_some, Option.map_none, Nat.zero_add, reduceCtorEq, Nat.reduceLeDiff, one_ne_zero_a, zero_ne_one_a, aq_nb, aq_nb1, aq_nb0, aq_fb, aq_fb1, aq_fb0, aq_ofN, bB_t, bB_f, bB_v, vpn_b1, vpn_b0, nI_1, Bool.true_eq_false, Bool.false_eq_true, Bool.true_and, Bool.false_and, Bool.and_true, Bool.and_false, O]
    refine (cx_ends C2 hFG (fun s m hm => by have := (L.1 s m hm).2.1; omega) (show n < 2 ^ 31 by omega)).use ?_
    rintro _ h3 ⟨S3, b, rfl, hFG3, hb⟩
    have eb : b = false := by
      cases b with
      | false => rfl
      | true => obtain ⟨s, x1, x2⟩ := hb.mp rfl; exact absurd x2 (hgs rfl s)
    subst eb
    simp only [s_X10_length_191, s_X10_length_198, s_X10_length_199, aq_gI, aq_gL, aq_gA, aq_isA, aq_s1, aq_s2, aq_kill, aq_ob, aq_sm, aq_arI, aq_arB, aq_isB, aq_arL, aq_arA, aq_arN, aq_sh, Value.category, List.getElem?_cons_zero, List.getElem?_cons_succ, List.length_cons, List.length_nil, Option.toList_some, Option.toList_none, List.cons_append, List.nil_append, true_and, and_true, List.set_cons_zero, List.set_cons_succ, aq_n1, aq_n2, aq_n3, aq_n4, aq_f1, aq_f2, aq_f3, aq_f4, aq_gs, aq_ty1, aq_ty2, aq_ty3, aq_ty4, aq_ty5, Nat.reduceAdd, Nat.reduceLT, Nat.reduceEqDiff, Nat.reduceSub, if_true, if_false, ne_eq, not_false_eq_true, not_true_eq_false, Option.map_some, Option.map_none, Nat.zero_add, reduceCtorEq, Nat.reduceLeDiff, one_ne_zero_a, zero_ne_one_a, aq_nb, aq_nb1, aq_nb0, aq_fb, aq_fb1, aq_fb0, aq_ofN, bB_t, bB_f, bB_v, vpn_b1, vpn_b0, nI_1, Bool.true_eq_false, Bool.false_eq_true, Bool.true_and, Bool.false_and, Bool.and_true, Bool.and_false]
    exact ⟨S.tr (S3.mo (by decide) (by decide)), none, F, _, hFG3, LV_dead L (hgs rfl) hng, rfl, fun c hc => by cases hc⟩
  | succ t ih =>
    intro n hn h2 F gs L3 L4 L5 S hFG L hng hgs hfr
    have C2 := C.sm S
    obtain ⟨wr, thr, rt, ci, pl, hd', sg, O⟩ := C2.ob
    unfold mOb at O
    have hF2 : ∀ s m, F s = some m → m < 2 ^ 31 := fun s m hm => by have := (L.1 s m hm).2.1; omega
    rw [s_X10_length_65]
    cases gs with
    | false =>
      simp only [s_X10_length_66, s_X10_length_186, s_X10_length_187, s_X10_length_188, aq_gI, aq_gL, aq_gA, aq_isA, aq_s1, aq_s2, aq_kill, aq_ob, aq_sm, aq_arI, aq_arB, aq_isB, aq_arL, aq_arA, aq_arN, aq_sh, Value.category, List.getElem?_cons_zero, List.getElem?_cons_succ, List.length_cons, List.length_nil, Option.toList_some, Option.toList_none, List.cons_append, List.nil_append, true_and, and_true, List.set_cons_zero, List.set_cons_succ, aq_n1, aq_n2, aq_n3, aq_n4, aq_f1, aq_f2, aq_f3, aq_f4, aq_gs, aq_ty1, aq_ty2, aq_ty3, aq_ty4, aq_ty5, Nat.reduceAdd, Nat.reduceLT, Nat.reduceEqDiff, Nat.reduceSub, if_true, if_false, ne_eq, not_false_eq_true, not_true_eq_false, Option.map_some, Option.map_none, Nat.zero_add, reduceCtorEq, Nat.reduceLeDiff, one_ne_zero_a, zero_ne_one_a, aq_nb, aq_nb1, aq_nb0, aq_fb, aq_fb1, aq_fb0, aq_ofN, bB_t, bB_f, bB_v, vpn_b1, vpn_b0, nI_1, Bool.true_eq_false, Bool.false_eq_true, Bool.true_and, Bool.false_and, Bool.and_true, Bool.and_false, O]
      refine (cx_ends C2 hFG hF2 (show n < 2 ^ 31 by omega)).use ?_
      rintro _ h3 ⟨S3, b, rfl, hFG3, hb⟩
      have eb : b = false := by
        cases b with
        | false => rfl
        | true => obtain ⟨s, x1, x2⟩ := hb.mp rfl; exact absurd x2 (hgs rfl s)
      subst eb
      simp only [s_X10_length_191, s_X10_length_198, s_X10_length_199, aq_gI, aq_gL, aq_gA, aq_isA, aq_s1, aq_s2, aq_kill, aq_ob, aq_sm, aq_arI, aq_arB, aq_isB, aq_arL, aq_arA, aq_arN, aq_sh, Value.category, List.getElem?_cons_zero, List.getElem?_cons_succ, List.length_cons, List.length_nil, Option.toList_some, Option.toList_none, List.cons_append, List.nil_append, true_and, and_true, List.set_cons_zero, List.set_cons_succ, aq_n1, aq_n2, aq_n3, aq_n4, aq_f1, aq_f2, aq_f3, aq_f4, aq_gs, aq_ty1, aq_ty2, aq_ty3, aq_ty4, aq_ty5, Nat.reduceAdd, Nat.reduceLT, Nat.reduceEqDiff, Nat.reduceSub, if_true, if_false, ne_eq, not_false_eq_true, not_true_eq_false, Option.map_some, Option.map_none, Nat.zero_add, reduceCtorEq, Nat.reduceLeDiff, one_ne_zero_a, zero_ne_one_a, aq_nb, aq_nb1, aq_nb0, aq_fb, aq_fb1, aq_fb0, aq_ofN, bB_t, bB_f, bB_v, vpn_b1, vpn_b0, nI_1, Bool.true_eq_false, Bool.false_eq_true, Bool.true_and, Bool.false_and, Bool.and_true, Bool.and_false]
      exact ⟨S.tr (S3.mo (by decide) (by decide)), none, F, _, hFG3, LV_dead L (hgs rfl) hng, rfl, fun c hc => by cases hc⟩
    | true =>
      simp only [s_X10_length_66, s_X10_length_69, s_X10_length_70, s_X10_length_71, aq_gI, aq_gL, aq_gA, aq_isA, aq_s1, aq_s2, aq_kill, aq_ob, aq_sm, aq_arI, aq_arB, aq_isB, aq_arL, aq_arA, aq_arN, aq_sh, Value.category, List.getElem?_cons_zero, List.getElem?_cons_succ, List.length_cons, List.length_nil, Option.toList_some, Option.toList_none, List.cons_append, List.nil_append, true_and, and_true, List.set_cons_zero, List.set_cons_succ, aq_n1, aq_n2, aq_n3, aq_n4, aq_f1, aq_f2, aq_f3, aq_f4, aq_gs, aq_ty1, aq_ty2, aq_ty3, aq_ty4, aq_ty5, Nat.reduceAdd, Nat.reduceLT, Nat.reduceEqDiff, Nat.reduceSub, if_true, if_false, ne_eq, not_false_eq_true, not_true_eq_false, Option.map_some, Option.map_none, Nat.zero_add, reduceCtorEq, Nat.reduceLeDiff, one_ne_zero_a, zero_ne_one_a, aq_nb, aq_nb1, aq_nb0, aq_fb, aq_fb1, aq_fb0, aq_ofN, bB_t, bB_f, bB_v, vpn_b1, vpn_b0, nI_1, Bool.true_eq_false, Bool.false_eq_true, Bool.true_and, Bool.false_and, Bool.and_true, Bool.and_false, O]
      refine (cx_ends C2 hFG hF2 (show n < 2 ^ 31 by omega)).use ?_
      rintro _ h3 ⟨S3, b, rfl, hFG3, hb⟩
      have S3' := S.tr (S3.mo (by decide) (by decide))
      have C3 := C.sm S3'
      cases b with
      | true =>
        obtain ⟨wr, thr, rt, ci, pl, hd', sg, O⟩ := C3.ob
        unfold mOb at O
        simp only [s_X10_length_74, s_X10_length_186, s_X10_length_187, s_X10_length_188, aq_gI, aq_gL, aq_gA, aq_isA, aq_s1, aq_s2, aq_kill, aq_ob, aq_sm, aq_arI, aq_arB, aq_isB, aq_arL, aq_arA, aq_arN, aq_sh, Value.category, List.getElem?_cons_zero, List.getElem?_cons_succ, List.length_cons, List.length_nil, Option.toList_some, Option.toList_none, List.cons_append, List.nil_append, true_and, and_true, List.set_cons_zero, List.set_cons_succ, aq_n1, aq_n2, aq_n3, aq_n4, aq_f1, aq_f2, aq_f3, aq_f4, aq_gs, aq_ty1, aq_ty2, aq_ty3, aq_ty4, aq_ty5, Nat.reduceAdd, Nat.reduceLT, Nat.reduceEqDiff, Nat.reduceSub, if_true, if_false, ne_eq, not_false_eq_true, not_true_eq_false, Option.map_some, Option.map_none, Nat.zero_add, reduceCtorEq, Nat.reduceLeDiff, one_ne_zero_a, zero_ne_one_a, aq_nb, aq_nb1, aq_nb0, aq_fb, aq_fb1, aq_fb0, aq_ofN, bB_t, bB_f, bB_v, vpn_b1, vpn_b0, nI_1, Bool.true_eq_false, Bool.false_eq_true, Bool.true_and, Bool.false_and, Bool.and_true, Bool.and_false, O]
        refine (cx_ends C3 hFG3 hF2 (show n < 2 ^ 31 by omega)).use ?_
        rintro _ h4 ⟨S4, b4, rfl, hFG4, hb4⟩
        have eb : b4 = true := hb4.mpr (hb.mp rfl)
        subst eb
        obtain ⟨s, x1, x2⟩ := hb.mp rfl
        obtain ⟨c, E, hcl⟩ := LV_goal L hng x2 ((hsg s).mpr x1)
        simp only [s_X10_length_191, s_X10_length_194, s_X10_length_195, s_X10_length_199, aq_gI, aq_gL, aq_gA, aq_isA, aq_s1, aq_s2, aq_kill, aq_ob, aq_sm, aq_arI, aq_arB, aq_isB, aq_arL, aq_arA, aq_arN, aq_sh, Value.category, List.getElem?_cons_zero, List.getElem?_cons_succ, List.length_cons, List.length_nil, Option.toList_some, Option.toList_none, List.cons_append, List.nil_append, true_and, and_true, List.set_cons_zero, List.set_cons_succ, aq_n1, aq_n2, aq_n3, aq_n4, aq_f1, aq_f2, aq_f3, aq_f4, aq_gs, aq_ty1, aq_ty2, aq_ty3, aq_ty4, aq_ty5, Nat.reduceAdd, Nat.reduceLT, Nat.reduceEqDiff, Nat.reduceSub, if_true, if_false, ne_eq, not_false_eq_true, not_true_eq_false, Option.map_some, Option.map_none, Nat.zero_add, reduceCtorEq, Nat.reduceLeDiff, one_ne_zero_a, zero_ne_one_a, aq_nb, aq_nb1, aq_nb0, aq_fb, aq_fb1, aq_fb0, aq_ofN, bB_t, bB_f, bB_v, vpn_b1, vpn_b0, nI_1, Bool.true_eq_false, Bool.false_eq_true, Bool.true_and, Bool.false_and, Bool.and_true, Bool.and_false]
        refine ⟨S3'.tr (S4.mo (by decide) (by decide)), some c, F, _, hFG4, E, by unfold aEs; rw [← hcl]; rfl, fun c' hc' => ?_⟩
        cases hc'
        rw [hcl]
        refine ⟨L, by omega, fun s => ?_⟩
        simp only [Bool.false_or, Bool.or_self, decide_eq_true_eq]
      | false =>
        have hno : ∀ s, ¬ (s / 16 = e ∧ F s = some n) := fun s z => by
          have : false = true := hb.mpr ⟨s, z⟩
          cases this
        have hFG3' : FG h3 F (fun _ => false) := by
          obtain ⟨fa, go, b1, b2, q1, q2⟩ := hFG3
          refine ⟨fa, go, b1, b2, q1, fun s hs => ?_⟩
          rw [q2 s hs]
          show bB (false || decide (s / 16 = e ∧ F s = some n)) = bB false
          rw [decide_eq_false (hno s)]
          rfl
        simp only [s_X10_length_74, s_X10_length_77, s_X10_length_78, s_X10_length_79, s_X10_length_80, aq_gI, aq_gL, aq_gA, aq_isA, aq_s1, aq_s2, aq_kill, aq_ob, aq_sm, aq_arI, aq_arB, aq_isB, aq_arL, aq_arA, aq_arN, aq_sh, Value.category, List.getElem?_cons_zero, List.getElem?_cons_succ, List.length_cons, List.length_nil, Option.toList_some, Option.toList_none, List.cons_append, List.nil_append, true_and, and_true, List.set_cons_zero, List.set_cons_succ, aq_n1, aq_n2, aq_n3, aq_n4, aq_f1, aq_f2, aq_f3, aq_f4, aq_gs, aq_ty1, aq_ty2, aq_ty3, aq_ty4, aq_ty5, Nat.reduceAdd, Nat.reduceLT, Nat.reduceEqDiff, Nat.reduceSub, if_true, if_false, ne_eq, not_false_eq_true, not_true_eq_false, Option.map_some, Option.map_none, Nat.zero_add, reduceCtorEq, Nat.reduceLeDiff, one_ne_zero_a, zero_ne_one_a, aq_nb, aq_nb1, aq_nb0, aq_fb, aq_fb1, aq_fb0, aq_ofN, bB_t, bB_f, bB_v, vpn_b1, vpn_b0, nI_1, Bool.true_eq_false, Bool.false_eq_true, Bool.true_and, Bool.false_and, Bool.and_true, Bool.and_false]
        rw [← nI_0]
        refine ln_k (gd := fun _ => false) (h := h3) C3 L (show n < 2 ^ 30 by omega) ?_ 2304 0 rfl h3 F false _ _ (sm.rf _ _ _) hFG3' LW_0 ⟨fun z => (by cases z), fun _ => rfl⟩
        intro h4 F4 gs4 L3' L4' L5' S4 hFG4 LV4 hg4
        simp only [s_X10_length_180, s_X10_length_183, aq_gI, aq_gL, aq_gA, aq_isA, aq_s1, aq_s2, aq_kill, aq_ob, aq_sm, aq_arI, aq_arB, aq_isB, aq_arL, aq_arA, aq_arN, aq_sh, Value.category, List.getElem?_cons_zero, List.getElem?_cons_succ, List.length_cons, List.length_nil, Option.toList_some, Option.toList_none, List.cons_append, List.nil_append, true_and, and_true, List.set_cons_zero, List.set_cons_succ, aq_n1, aq_n2, aq_n3, aq_n4, aq_f1, aq_f2, aq_f3, aq_f4, aq_gs, aq_ty1, aq_ty2, aq_ty3, aq_ty4, aq_ty5, Nat.reduceAdd, Nat.reduceLT, Nat.reduceEqDiff, Nat.reduceSub, if_true, if_false, ne_eq, not_false_eq_true, not_true_eq_false, Option.map_some, Option.map_none, Nat.zero_add, reduceCtorEq, Nat.reduceLeDiff, one_ne_zero_a, zero_ne_one_a, aq_nb, aq_nb1, aq_nb0, aq_fb, aq_fb1, aq_fb0, aq_ofN, bB_t, bB_f, bB_v, vpn_b1, vpn_b0, nI_1, Bool.true_eq_false, Bool.false_eq_true, Bool.true_and, Bool.false_and, Bool.and_true, Bool.and_false]
        refine ih (n + 1) (by omega) h4 F4 gs4 _ _ _ (S3'.tr (S4.mo (by decide) (by decide))) hFG4 LV4 ?_ ?_ ?_
        · intro s m hm hmn
          obtain ⟨y1, y2, y3, y4⟩ := LV4.1 s m hm
          obtain ⟨m', z1, z2⟩ := LV_some L (show m ≤ n by omega) y3
          have hmm : m' = m := by
            by_cases q : m' = m
            · exact q
            · exact absurd (L.1 s m' z2).2.2.1 (y4 m' (by omega))
          rw [hmm] at z2
          by_cases q : m = n
          · rw [q] at z2; exact fun z => hno s ⟨(hsg s).mp z, z2⟩
          · exact hng s m z2 (by omega)
        · intro z s hs
          rw [hg4.2 z] at hs
          have := (L.1 s (n + 1) hs).2.1
          omega
        · rw [if_pos rfl] at hfr
          cases gs4 with
          | true => rw [if_pos rfl]; have := hg4.1 rfl; omega
          | false => rw [if_neg (by decide), hg4.2 rfl]; omega
theorem m_length (C : mCx h w ht wx wy cb Z e) (b1 : h[59]? = some (.inl (.int, 2304, .inl fa))) (b2 : h[60]? = some (.inl (.boolean, 2304, .inl go))) : aq_T e_X10_length 6 0 0 [.ref 47] h (pLn h w ht wx wy cb Z e) := by
  have hn := C.n144
  obtain ⟨hst, he, hee⟩ := C.ee
  have C0 := C
  obtain ⟨wr, thr, rt, ci, pl, hd', sg, O⟩ := C.ob
  unfold mOb at O
  refine ⟨Nat.le_of_ble_eq_true rfl, ?_⟩
  show aq_W _ _ 0 [some (.ref 47), none, none, none, none, none] [] _ _ _
  have one : ∀ (j k : Nat), k + j = 2304 → ∀ (h2 : aq_H) (fa go : Nat → Int32), sm 59 60 h h2 → h2[59]? = some (.inl (.int, 2304, .inl fa)) → h2[60]? = some (.inl (.boolean, 2304, .inl go)) → (∀ s, s < k → fa s = -1 ∧ go s = 0) → aq_W e_X10_length (pLn h w ht wx wy cb Z e) 19 [some (.ref 47), some (.int (nI k)), none, none, none, none] [] h2 0 0 := by
    intro j
    induction j with
    | zero =>
      intro k hk h2 fa go S e1 e2 q
      have e4 : k = 2304 := by omega
      subst e4
      have h4 : (2304 : Int32) ≤ nI 2304 := by decide
      have C2 := C0.sm S
      have O2 := (S 47 (by omega)).trans O
      have hkl := kmm_lt Z.2.2.2.1 Z.2.2.2.2.1
      have hs0 : 16 * Z.2.2.2.2.1 + (0 ||| kmm Z.2.2.2.1 Z.2.2.2.2.1) = sS Z := by rw [Nat.zero_or]; rfl
      have hsN : sS Z < w * ht * 16 := by unfold sS; omega
      rw [s_X10_length_19]
      simp only [s_X10_length_20, s_X10_length_23, s_X10_length_46, s_X10_length_47, s_X10_length_50, s_X10_length_51, s_X10_length_52, s_X10_length_55, s_X10_length_56, aq_gI, aq_gL, aq_gA, aq_isA, aq_s1, aq_s2, aq_kill, aq_ob, aq_sm, aq_arI, aq_arB, aq_isB, aq_arL, aq_arA, aq_arN, aq_sh, Value.category, List.getElem?_cons_zero, List.getElem?_cons_succ, List.length_cons, List.length_nil, Option.toList_some, Option.toList_none, List.cons_append, List.nil_append, true_and, and_true, List.set_cons_zero, List.set_cons_succ, aq_n1, aq_n2, aq_n3, aq_n4, aq_f1, aq_f2, aq_f3, aq_f4, aq_gs, aq_ty1, aq_ty2, aq_ty3, aq_ty4, aq_ty5, Nat.reduceAdd, Nat.reduceLT, Nat.reduceEqDiff, Nat.reduceSub, if_true, if_false, ne_eq, not_false_eq_true, not_true_eq_false, Option.map_some, Option.map_none, Nat.zero_add, reduceCtorEq, Nat.reduceLeDiff, one_ne_zero_a, zero_ne_one_a, aq_nb, aq_nb1, aq_nb0, aq_fb, aq_fb1, aq_fb0, aq_ofN, bB_t, bB_f, bB_v, vpn_b1, vpn_b0, nI_1, Bool.true_eq_false, Bool.false_eq_true, Bool.true_and, Bool.false_and, Bool.and_true, Bool.and_false, h4, O2]
      rw [← nI_0]
      refine (cx_state C2 Z.2.2.2.2.1 (show 0 < 16 by decide)).use ?_
      rintro _ h2 ⟨rfl, rfl⟩
      rw [hs0]
      simp only [s_X10_length_59, s_X10_length_60, s_X10_length_61, s_X10_length_62, s_X10_length_63, s_X10_length_64, aq_gI, aq_gL, aq_gA, aq_isA, aq_s1, aq_s2, aq_kill, aq_ob, aq_sm, aq_arI, aq_arB, aq_isB, aq_arL, aq_arA, aq_arN, aq_sh, Value.category, List.getElem?_cons_zero, List.getElem?_cons_succ, List.length_cons, List.length_nil, Option.toList_some, Option.toList_none, List.cons_append, List.nil_append, true_and, and_true, List.set_cons_zero, List.set_cons_succ, aq_n1, aq_n2, aq_n3, aq_n4, aq_f1, aq_f2, aq_f3, aq_f4, aq_gs, aq_ty1, aq_ty2, aq_ty3, aq_ty4, aq_ty5, Nat.reduceAdd, Nat.reduceLT, Nat.reduceEqDiff, Nat.reduceSub, if_true, if_false, ne_eq, not_false_eq_true, not_true_eq_false, Option.map_some, Option.map_none, Nat.zero_add, reduceCtorEq, Nat.reduceLeDiff, one_ne_zero_a, zero_ne_one_a, aq_nb, aq_nb1, aq_nb0, aq_fb, aq_fb1, aq_fb0, aq_ofN, bB_t, bB_f, bB_v, vpn_b1, vpn_b0, nI_1, Bool.true_eq_false, Bool.false_eq_true, Bool.true_and, Bool.false_and, Bool.and_true, Bool.and_false, e1, vp_in_nI (show sS Z < 2304 by omega) (show 2304 < 2 ^ 31 by decide), nI_clamp (show sS Z < 2 ^ 31 by omega)]
      rw [← nI_0]
      have hfr := frc_le (sB (fs (fun _ => none) (sS Z) (some 0))) 2304
      refine ln_n C0 2305 0 rfl _ (fs (fun _ => none) (sS Z) (some 0)) true none none none (S.st (by decide) (by decide)) ⟨upd fa (sS Z) (nI 0), go, by simp only [aq_gI, aq_gL, aq_gA, aq_isA, aq_s1, aq_s2, aq_kill, aq_ob, aq_sm, aq_arI, aq_arB, aq_isB, aq_arL, aq_arA, aq_arN, aq_sh, Value.category, List.getElem?_cons_zero, List.getElem?_cons_succ, List.length_cons, List.length_nil, Option.toList_some, Option.toList_none, List.cons_append, List.nil_append, true_and, and_true, List.set_cons_zero, List.set_cons_succ, aq_n1, aq_n2, aq_n3, aq_n4, aq_f1, aq_f2, aq_f3, aq_f4, aq_gs, aq_ty1, aq_ty2, aq_ty3, aq_ty4, aq_ty5, Nat.reduceAdd, Nat.reduceLT, Nat.reduceEqDiff, Nat.reduceSub, if_true, if_false, ne_eq, not_false_eq_true, not_true_eq_false, Option.map_some, Option.map_none, Nat.zero_add, reduceCtorEq, Nat.reduceLeDiff, one_ne_zero_a, zero_ne_one_a, e1], by simp only [aq_gI, aq_gL, aq_gA, aq_isA, aq_s1, aq_s2, aq_kill, aq_ob, aq_sm, aq_arI, aq_arB, aq_isB, aq_arL, aq_arA, aq_arN, aq_sh, Value.category, List.getElem?_cons_zero, List.getElem?_cons_succ, List.length_cons, List.length_nil, Option.toList_some, Option.toList_none, List.cons_append, List.nil_append, true_and, and_true, List.set_cons_zero, List.set_cons_succ, aq_n1, aq_n2, aq_n3, aq_n4, aq_f1, aq_f2, aq_f3, aq_f4, aq_gs, aq_ty1, aq_ty2, aq_ty3, aq_ty4, aq_ty5, Nat.reduceAdd, Nat.reduceLT, Nat.reduceEqDiff, Nat.reduceSub, if_true, if_false, ne_eq, not_false_eq_true, not_true_eq_false, Option.map_some, Option.map_none, Nat.zero_add, reduceCtorEq, Nat.reduceLeDiff, one_ne_zero_a, zero_ne_one_a, e2], fun s hs => ?_, fun s hs => (q s hs).2⟩ (LV_0 hsN) (fun s m _ hm => by omega) (fun z => by cases z) (by rw [if_pos rfl]; omega)
      by_cases z : s = sS Z
      · rw [z, upd_s, fs_s]; rfl
      · rw [upd_n _ _ z, fs_n _ _ z]; exact (q s hs).1
    | succ j ih =>
      intro k hk h2 fa go S e1 e2 q
      have hk3 : k < 2304 := by omega
      have h4 : ¬ (2304 : Int32) ≤ nI k := by rw [show (2304 : Int32) = nI 2304 from rfl]; exact nI_ge hk3 (by decide)
      have O2 := (S 47 (by omega)).trans O
      rw [s_X10_length_19]
      simp only [s_X10_length_20, s_X10_length_23, s_X10_length_26, s_X10_length_27, s_X10_length_30, s_X10_length_31, s_X10_length_32, s_X10_length_33, s_X10_length_34, s_X10_length_37, s_X10_length_38, s_X10_length_39, s_X10_length_40, s_X10_length_43, aq_gI, aq_gL, aq_gA, aq_isA, aq_s1, aq_s2, aq_kill, aq_ob, aq_sm, aq_arI, aq_arB, aq_isB, aq_arL, aq_arA, aq_arN, aq_sh, Value.category, List.getElem?_cons_zero, List.getElem?_cons_succ, List.length_cons, List.length_nil, Option.toList_some, Option.toList_none, List.cons_append, List.nil_append, true_and, and_true, List.set_cons_zero, List.set_cons_succ, aq_n1, aq_n2, aq_n3, aq_n4, aq_f1, aq_f2, aq_f3, aq_f4, aq_gs, aq_ty1, aq_ty2, aq_ty3, aq_ty4, aq_ty5, Nat.reduceAdd, Nat.reduceLT, Nat.reduceEqDiff, Nat.reduceSub, if_true, if_false, ne_eq, not_false_eq_true, not_true_eq_false, Option.map_some, Option.map_none, Nat.zero_add, reduceCtorEq, Nat.reduceLeDiff, one_ne_zero_a, zero_ne_one_a, aq_nb, aq_nb1, aq_nb0, aq_fb, aq_fb1, aq_fb0, aq_ofN, bB_t, bB_f, bB_v, vpn_b1, vpn_b0, nI_1, Bool.true_eq_false, Bool.false_eq_true, Bool.true_and, Bool.false_and, Bool.and_true, Bool.and_false, h4, O2, e1, e2, vp_in_nI hk3 (show 2304 < 2 ^ 31 by decide), nI_clamp (show k < 2 ^ 31 by omega)]
      refine ih (k + 1) (by omega) _ (upd fa k (-1)) (upd go k 0) ((S.st (by decide) (by decide)).st (by decide) (by decide)) (by simp only [aq_gI, aq_gL, aq_gA, aq_isA, aq_s1, aq_s2, aq_kill, aq_ob, aq_sm, aq_arI, aq_arB, aq_isB, aq_arL, aq_arA, aq_arN, aq_sh, Value.category, List.getElem?_cons_zero, List.getElem?_cons_succ, List.length_cons, List.length_nil, Option.toList_some, Option.toList_none, List.cons_append, List.nil_append, true_and, and_true, List.set_cons_zero, List.set_cons_succ, aq_n1, aq_n2, aq_n3, aq_n4, aq_f1, aq_f2, aq_f3, aq_f4, aq_gs, aq_ty1, aq_ty2, aq_ty3, aq_ty4, aq_ty5, Nat.reduceAdd, Nat.reduceLT, Nat.reduceEqDiff, Nat.reduceSub, if_true, if_false, ne_eq, not_false_eq_true, not_true_eq_false, Option.map_some, Option.map_none, Nat.zero_add, reduceCtorEq, Nat.reduceLeDiff, one_ne_zero_a, zero_ne_one_a, e1]) (by simp only [aq_gI, aq_gL, aq_gA, aq_isA, aq_s1, aq_s2, aq_kill, aq_ob, aq_sm, aq_arI, aq_arB, aq_isB, aq_arL, aq_arA, aq_arN, aq_sh, Value.category, List.getElem?_cons_zero, List.getElem?_cons_succ, List.length_cons, List.length_nil, Option.toList_some, Option.toList_none, List.cons_append, List.nil_append, true_and, and_true, List.set_cons_zero, List.set_cons_succ, aq_n1, aq_n2, aq_n3, aq_n4, aq_f1, aq_f2, aq_f3, aq_f4, aq_gs, aq_ty1, aq_ty2, aq_ty3, aq_ty4, aq_ty5, Nat.reduceAdd, Nat.reduceLT, Nat.reduceEqDiff, Nat.reduceSub, if_true, if_false, ne_eq, not_false_eq_true, not_true_eq_false, Option.map_some, Option.map_none, Nat.zero_add, reduceCtorEq, Nat.reduceLeDiff, one_ne_zero_a, zero_ne_one_a, e2]) (fun s hs => ?_)
      by_cases z : s = k
      · rw [z, upd_s, upd_s]; exact ⟨rfl, rfl⟩
      · rw [upd_n _ _ z, upd_n _ _ z]; exact q s (by omega)
  simp only [s_X10_length_0, s_X10_length_1, s_X10_length_4, s_X10_length_7, s_X10_length_8, s_X10_length_11, s_X10_length_12, s_X10_length_17, s_X10_length_18, aq_gI, aq_gL, aq_gA, aq_isA, aq_s1, aq_s2, aq_kill, aq_ob, aq_sm, aq_arI, aq_arB, aq_isB, aq_arL, aq_arA, aq_arN, aq_sh, Value.category, List.getElem?_cons_zero, List.getElem?_cons_succ, List.length_cons, List.length_nil, Option.toList_some, Option.toList_none, List.cons_append, List.nil_append, true_and, and_true, List.set_cons_zero, List.set_cons_succ, aq_n1, aq_n2, aq_n3, aq_n4, aq_f1, aq_f2, aq_f3, aq_f4, aq_gs, aq_ty1, aq_ty2, aq_ty3, aq_ty4, aq_ty5, Nat.reduceAdd, Nat.reduceLT, Nat.reduceEqDiff, Nat.reduceSub, if_true, if_false, ne_eq, not_false_eq_true, not_true_eq_false, Option.map_some, Option.map_none, Nat.zero_add, reduceCtorEq, Nat.reduceLeDiff, one_ne_zero_a, zero_ne_one_a, aq_nb, aq_nb1, aq_nb0, aq_fb, aq_fb1, aq_fb0, aq_ofN, bB_t, bB_f, bB_v, vpn_b1, vpn_b0, nI_1, Bool.true_eq_false, Bool.false_eq_true, Bool.true_and, Bool.false_and, Bool.and_true, Bool.and_false, O, nI_ne_m1 (show e < 2 ^ 31 by omega)]
  rw [← nI_0]
  exact one 2304 0 rfl h fa go (sm.rf _ _ _) b1 b2 (fun s hs => by omega)
theorem m_length0 (O : iMo h w ht wr thr th rt ci st ex pl hd sg) (h0 : th = 0 ∨ (¬ th = 0 ∧ ex = -1)) : aq_T e_X10_length 6 0 0 [.ref 47] h (rd (-1) h) := by
  unfold iMo at O
  refine ⟨Nat.le_of_ble_eq_true rfl, ?_⟩
  show aq_W _ _ 0 [some (.ref 47), none, none, none, none, none] [] _ _ _
  rcases h0 with h0 | ⟨h0, h1⟩
  · simp only [s_X10_length_0, s_X10_length_1, s_X10_length_4, s_X10_length_7, s_X10_length_8, s_X10_length_11, s_X10_length_12, s_X10_length_15, s_X10_length_16, aq_gI, aq_gL, aq_gA, aq_isA, aq_s1, aq_s2, aq_kill, aq_ob, aq_sm, aq_arI, aq_arB, aq_isB, aq_arL, aq_arA, aq_arN, aq_sh, Value.category, List.getElem?_cons_zero, List.getElem?_cons_succ, List.length_cons, List.length_nil, Option.toList_some, Option.toList_none, List.cons_append, List.nil_append, true_and, and_true, List.set_cons_zero, List.set_cons_succ, aq_n1, aq_n2, aq_n3, aq_n4, aq_f1, aq_f2, aq_f3, aq_f4, aq_gs, aq_ty1, aq_ty2, aq_ty3, aq_ty4, aq_ty5, Nat.reduceAdd, Nat.reduceLT, Nat.reduceEqDiff, Nat.reduceSub, if_true, if_false, ne_eq, not_false_eq_true, not_true_eq_false, Option.map_some, Option.map_none, Nat.zero_add, reduceCtorEq, Nat.reduceLeDiff, one_ne_zero_a, zero_ne_one_a, aq_nb, aq_nb1, aq_nb0, aq_fb, aq_fb1, aq_fb0, aq_ofN, bB_t, bB_f, bB_v, vpn_b1, vpn_b0, nI_1, Bool.true_eq_false, Bool.false_eq_true, Bool.true_and, Bool.false_and, Bool.and_true, Bool.and_false, O, h0]
    exact ⟨rfl, rfl⟩
  · simp only [s_X10_length_0, s_X10_length_1, s_X10_length_4, s_X10_length_7, s_X10_length_8, s_X10_length_11, s_X10_length_12, s_X10_length_15, s_X10_length_16, aq_gI, aq_gL, aq_gA, aq_isA, aq_s1, aq_s2, aq_kill, aq_ob, aq_sm, aq_arI, aq_arB, aq_isB, aq_arL, aq_arA, aq_arN, aq_sh, Value.category, List.getElem?_cons_zero, List.getElem?_cons_succ, List.length_cons, List.length_nil, Option.toList_some, Option.toList_none, List.cons_append, List.nil_append, true_and, and_true, List.set_cons_zero, List.set_cons_succ, aq_n1, aq_n2, aq_n3, aq_n4, aq_f1, aq_f2, aq_f3, aq_f4, aq_gs, aq_ty1, aq_ty2, aq_ty3, aq_ty4, aq_ty5, Nat.reduceAdd, Nat.reduceLT, Nat.reduceEqDiff, Nat.reduceSub, if_true, if_false, ne_eq, not_false_eq_true, not_true_eq_false, Option.map_some, Option.map_none, Nat.zero_add, reduceCtorEq, Nat.reduceLeDiff, one_ne_zero_a, zero_ne_one_a, aq_nb, aq_nb1, aq_nb0, aq_fb, aq_fb1, aq_fb0, aq_ofN, bB_t, bB_f, bB_v, vpn_b1, vpn_b0, nI_1, Bool.true_eq_false, Bool.false_eq_true, Bool.true_and, Bool.false_and, Bool.and_true, Bool.and_false, O, h0, h1]
    exact ⟨rfl, rfl⟩
end MRT
