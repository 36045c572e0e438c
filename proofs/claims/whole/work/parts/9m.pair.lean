/-! desk and model side by side: they answer alike, and stay alike -/
def BO (w ht : Nat) (wx wy : Bool) (cb : Nat → Bool) (ch : Nat) (hm : Bool) (D : drT) (Z : mzT) (P : plT) (h : aq_H) : Prop := CLS (VV w ht wx wy cb) h w ht wx wy cb ch hm D Z P ∧ MDL h w ht wx wy cb hm D Z P
def BOTH (ch : Nat) (h : aq_H) : Prop := ∃ w ht wx wy cb ch' hm D Z P, ch' ≤ ch ∧ BO w ht wx wy cb ch' hm D Z P h
def ANS (em : aq_Env) (n : Nat) (args : List Value) (v : Value) (ch : Nat) (h1 : aq_H) : Prop := (∃ o, h1[47]? = some (.inr (10, o))) ∧ aq_T em n 0 0 args h1 (fun r' h2 => r' = some v ∧ BOTH ch h2)
section PAR
variable {h h' h2 : aq_H} {w ht ch ch' ch0 : Nat} {wx wy hm : Bool} {cb : Nat → Bool} {D : drT} {Z : mzT} {P : plT}
theorem MDL_fr (T : MDL h w ht wx wy cb hm D Z P) {a b : Nat} (S : sm a b h h') (hab : b < 47) : MDL h' w ht wx wy cb hm D Z P := by
  obtain ⟨wr, thr, rt, ci, st, ex, pl, hd, sg, mc, mx, mt, mp, mo, md, mw, mk, mr, tb, pc, fa, go, O, G, A, g⟩ := T
  exact MDL_mk (O.sm S (by omega)) (G.sm S (by omega)) (A.sm S (by omega)) g
theorem ob48 (T : MDL h w ht wx wy cb hm D Z P) : ∃ o, h[47]? = some (.inr (10, o)) := by
  obtain ⟨wr, thr, rt, ci, st, ex, pl, hd, sg, mc, mx, mt, mp, mo, md, mw, mk, mr, tb, pc, fa, go, O, G, A, g⟩ := T
  exact ⟨_, O⟩
theorem BOTH.ob (B : BOTH ch h) : ∃ o, h[0]? = some (.inr (9, o)) := by
  obtain ⟨w, ht, wx, wy, cb, ch', hm, D, Z, P, -, C, -⟩ := B
  exact ⟨_, C.2.1⟩
theorem BOTH.mo (B : BOTH ch h) (hc : ch ≤ ch') : BOTH ch' h := by
  obtain ⟨w, ht, wx, wy, cb, c, hm, D, Z, P, q, C⟩ := B
  exact ⟨w, ht, wx, wy, cb, c, hm, D, Z, P, by omega, C⟩
theorem both_mk (C : CLS (VV w ht wx wy cb) h w ht wx wy cb ch hm D Z P) (S : sm 47 60 h h2) (M : MDL h2 w ht wx wy cb hm D Z P) (hc : ch ≤ ch') : BOTH ch' h2 := ⟨w, ht, wx, wy, cb, ch, hm, D, Z, P, hc, CLS_fr C S (by decide), M⟩
theorem p_top (B : BOTH ch0 h) (c : Int32) (hlt : ch0 < 2 ^ 31) : aq_T e_X9_top 2 0 0 [.ref 0, .int c] h (fun r h1 => ∃ vv : Int32, r = some (.int vv) ∧ ANS e_X10_top 2 [.ref 47, .int c] (.int vv) (ch0 + 300) h1) := by
  obtain ⟨w, ht, wx, wy, cb, ch, hm, D, Z, P, hc, C, M⟩ := B
  refine (x_top C c).mo ?_
  rintro _ h ⟨rfl, rfl⟩
  refine ⟨_, rfl, ob48 M, (m_top M c).mo ?_⟩
  rintro _ h2 ⟨rfl, S, M2⟩
  exact ⟨rfl, both_mk C S M2 (by omega)⟩
theorem p_popped (B : BOTH ch0 h) (c : Int32) (hlt : ch0 < 2 ^ 31) : aq_T e_X9_popped 2 0 0 [.ref 0, .int c] h (fun r h1 => ∃ vv : Int32, r = some (.int vv) ∧ ANS e_X10_popped 2 [.ref 47, .int c] (.int vv) (ch0 + 300) h1) := by
  obtain ⟨w, ht, wx, wy, cb, ch, hm, D, Z, P, hc, C, M⟩ := B
  refine (x_popped C c).mo ?_
  rintro _ h ⟨rfl, rfl⟩
  refine ⟨_, rfl, ob48 M, (m_popped M c).mo ?_⟩
  rintro _ h2 ⟨rfl, S, M2⟩
  exact ⟨rfl, both_mk C S M2 (by omega)⟩
theorem p_circles (B : BOTH ch0 h) (hlt : ch0 < 2 ^ 31) : aq_T e_X9_circles 1 0 0 [.ref 0] h (fun r h1 => ∃ vv : Int32, r = some (.int vv) ∧ ANS e_X10_circles 1 [.ref 47] (.int vv) (ch0 + 300) h1) := by
  obtain ⟨w, ht, wx, wy, cb, ch, hm, D, Z, P, hc, C, M⟩ := B
  refine (x_circles C ).mo ?_
  rintro _ h ⟨rfl, rfl⟩
  refine ⟨_, rfl, ob48 M, (m_circles M ).mo ?_⟩
  rintro _ h2 ⟨rfl, S, M2⟩
  exact ⟨rfl, both_mk C S M2 (by omega)⟩
theorem p_passage (B : BOTH ch0 h) (c d : Int32) (hlt : ch0 < 2 ^ 31) : aq_T e_X9_passage 4 0 0 [.ref 0, .int c, .int d] h (fun r h1 => ∃ vv : Int32, r = some (.int vv) ∧ ANS e_X10_passage 3 [.ref 47, .int c, .int d] (.int vv) (ch0 + 300) h1) := by
  obtain ⟨w, ht, wx, wy, cb, ch, hm, D, Z, P, hc, C, M⟩ := B
  refine (x_passage C c d).mo ?_
  rintro _ h ⟨rfl, rfl⟩
  refine ⟨_, rfl, ob48 M, (m_passage M c d).mo ?_⟩
  rintro _ h2 ⟨rfl, S, M2⟩
  exact ⟨rfl, both_mk C S M2 (by omega)⟩
theorem p_deadEnds (B : BOTH ch0 h) (hlt : ch0 < 2 ^ 31) : aq_T e_X9_deadEnds 1 0 0 [.ref 0] h (fun r h1 => ∃ vv : Int32, r = some (.int vv) ∧ ANS e_X10_deadEnds 3 [.ref 47] (.int vv) (ch0 + 300) h1) := by
  obtain ⟨w, ht, wx, wy, cb, ch, hm, D, Z, P, hc, C, M⟩ := B
  refine (x_deadEnds C ).mo ?_
  rintro _ h ⟨rfl, rfl⟩
  refine ⟨_, rfl, ob48 M, (m_deadEnds M ).mo ?_⟩
  rintro _ h2 ⟨rfl, S, M2⟩
  exact ⟨rfl, both_mk C S M2 (by omega)⟩
theorem p_player (B : BOTH ch0 h) (c : Int32) (hlt : ch0 < 2 ^ 31) : aq_T e_X9_player 2 0 0 [.ref 0, .int c] h (fun r h1 => ∃ vv : Int32, r = some (.int vv) ∧ ANS e_X10_player 2 [.ref 47, .int c] (.int vv) (ch0 + 300) h1) := by
  obtain ⟨w, ht, wx, wy, cb, ch, hm, D, Z, P, hc, C, M⟩ := B
  refine (x_player C c).mo ?_
  rintro _ h ⟨rfl, rfl⟩
  refine ⟨_, rfl, ob48 M, (m_player M c).mo ?_⟩
  rintro _ h2 ⟨rfl, S, M2⟩
  exact ⟨rfl, both_mk C S M2 (by omega)⟩
theorem p_drawing (B : BOTH ch0 h) (c : Int32) (hlt : ch0 < 2 ^ 31) : aq_T e_X9_drawing 2 0 0 [.ref 0, .int c] h (fun r h1 => ∃ vv : Int32, r = some (.int vv) ∧ ANS e_X10_drawing 5 [.ref 47, .int c] (.int vv) (ch0 + 300) h1) := by
  obtain ⟨w, ht, wx, wy, cb, ch, hm, D, Z, P, hc, C, M⟩ := B
  refine (x_drawing C c).mo ?_
  rintro _ h ⟨rfl, rfl⟩
  refine ⟨_, rfl, ob48 M, (m_drawing M c).mo ?_⟩
  rintro _ h2 ⟨rfl, S, M2⟩
  exact ⟨rfl, both_mk C S M2 (by omega)⟩
theorem p_trees (B : BOTH ch0 h) (hlt : ch0 < 2 ^ 31) : aq_T e_X9_trees 1 0 0 [.ref 0] h (fun r h1 => ∃ vv : Int64, r = some (.long vv) ∧ ANS e_X10_trees 3 [.ref 47] (.long vv) (ch0 + 300) h1) := by
  obtain ⟨w, ht, wx, wy, cb, ch, hm, D, Z, P, hc, C, M⟩ := B
  refine (x_trees C).mo ?_
  rintro _ h1 ⟨rfl, S1, C1⟩
  have M1 := MDL_fr M S1 (by decide)
  refine ⟨_, rfl, ob48 M1, (m_trees M1).mo ?_⟩
  rintro _ h2 ⟨rfl, S, M2⟩
  exact ⟨rfl, both_mk C1 S M2 (by omega)⟩
theorem p_start (B : BOTH ch0 h) (c : Int32) (hlt : ch0 < 2 ^ 31) : aq_T e_X9_start 2 0 0 [.ref 0, .int c] h (fun r h1 => ∃ vv : Int32, r = some (.int vv) ∧ ANS e_X10_start 2 [.ref 47, .int c] (.int vv) (ch0 + 300) h1) := by
  obtain ⟨w, ht, wx, wy, cb, ch, hm, D, Z, P, hc, C, M⟩ := B
  refine (x_start C c).mo ?_
  rintro r h1 hx
  by_cases e : (hm && (inC (w * ht) c && !cb c.toNatClampNeg)) = false
  · rw [if_pos e] at hx
    obtain ⟨rfl, rfl⟩ := hx
    refine ⟨_, rfl, ob48 M, (m_start M c).mo ?_⟩
    rintro r2 h2 hm2
    rw [if_pos e] at hm2
    obtain ⟨rfl, S, M2⟩ := hm2
    exact ⟨rfl, both_mk C S M2 (by omega)⟩
  · rw [if_neg e] at hx
    obtain ⟨rfl, S1, C1⟩ := hx
    have M1 := MDL_fr M S1 (by decide)
    refine ⟨_, rfl, ob48 M1, (m_start M1 c).mo ?_⟩
    rintro r2 h2 hm2
    rw [if_neg e] at hm2
    obtain ⟨rfl, S, M2⟩ := hm2
    exact ⟨rfl, both_mk C1 S M2 (by omega)⟩
theorem p_key (B : BOTH ch0 h) (k c : Int32) (hlt : ch0 < 2 ^ 31) : aq_T e_X9_key 3 0 0 [.ref 0, .int k, .int c] h (fun r h1 => ∃ vv : Int32, r = some (.int vv) ∧ ANS e_X10_key 3 [.ref 47, .int k, .int c] (.int vv) (ch0 + 300) h1) := by
  obtain ⟨w, ht, wx, wy, cb, ch, hm, D, Z, P, hc, C, M⟩ := B
  refine (x_key C k c).mo ?_
  rintro r h1 hx
  by_cases e : (hm && (inC 4 k && (decide (c = -1) || (inC (w * ht) c && !cb c.toNatClampNeg)))) = false
  · rw [if_pos e] at hx
    obtain ⟨rfl, rfl⟩ := hx
    refine ⟨_, rfl, ob48 M, (m_key M k c).mo ?_⟩
    rintro r2 h2 hm2
    rw [if_pos e] at hm2
    obtain ⟨rfl, S, M2⟩ := hm2
    exact ⟨rfl, both_mk C S M2 (by omega)⟩
  · rw [if_neg e] at hx
    obtain ⟨rfl, S1, C1⟩ := hx
    have M1 := MDL_fr M S1 (by decide)
    refine ⟨_, rfl, ob48 M1, (m_key M1 k c).mo ?_⟩
    rintro r2 h2 hm2
    rw [if_neg e] at hm2
    obtain ⟨rfl, S, M2⟩ := hm2
    exact ⟨rfl, both_mk C1 S M2 (by omega)⟩
theorem p_exit (B : BOTH ch0 h) (c : Int32) (hlt : ch0 < 2 ^ 31) : aq_T e_X9_exit 2 0 0 [.ref 0, .int c] h (fun r h1 => ∃ vv : Int32, r = some (.int vv) ∧ ANS e_X10_exit 2 [.ref 47, .int c] (.int vv) (ch0 + 300) h1) := by
  obtain ⟨w, ht, wx, wy, cb, ch, hm, D, Z, P, hc, C, M⟩ := B
  refine (x_exit C c).mo ?_
  rintro r h1 hx
  by_cases e : (hm && (decide (c = -1) || (inC (w * ht) c && !cb c.toNatClampNeg))) = false
  · rw [if_pos e] at hx
    obtain ⟨rfl, rfl⟩ := hx
    refine ⟨_, rfl, ob48 M, (m_exit M c).mo ?_⟩
    rintro r2 h2 hm2
    rw [if_pos e] at hm2
    obtain ⟨rfl, S, M2⟩ := hm2
    exact ⟨rfl, both_mk C S M2 (by omega)⟩
  · rw [if_neg e] at hx
    obtain ⟨rfl, S1, C1⟩ := hx
    have M1 := MDL_fr M S1 (by decide)
    refine ⟨_, rfl, ob48 M1, (m_exit M1 c).mo ?_⟩
    rintro r2 h2 hm2
    rw [if_neg e] at hm2
    obtain ⟨rfl, S, M2⟩ := hm2
    exact ⟨rfl, both_mk C1 S M2 (by omega)⟩
theorem p_again (B : BOTH ch0 h) (hlt : ch0 < 2 ^ 31) : aq_T e_X9_again 1 0 0 [.ref 0] h (fun r h1 => ∃ vv : Int32, r = some (.int vv) ∧ ANS e_X10_again 1 [.ref 47] (.int vv) (ch0 + 300) h1) := by
  obtain ⟨w, ht, wx, wy, cb, ch, hm, D, Z, P, hc, C, M⟩ := B
  refine (x_again C ).mo ?_
  rintro r h1 hx
  by_cases e : hm = false
  · rw [if_pos e] at hx
    obtain ⟨rfl, rfl⟩ := hx
    refine ⟨_, rfl, ob48 M, (m_again M ).mo ?_⟩
    rintro r2 h2 hm2
    rw [if_pos e] at hm2
    obtain ⟨rfl, S, M2⟩ := hm2
    exact ⟨rfl, both_mk C S M2 (by omega)⟩
  · rw [if_neg e] at hx
    obtain ⟨rfl, S1, C1⟩ := hx
    have M1 := MDL_fr M S1 (by decide)
    refine ⟨_, rfl, ob48 M1, (m_again M1 ).mo ?_⟩
    rintro r2 h2 hm2
    rw [if_neg e] at hm2
    obtain ⟨rfl, S, M2⟩ := hm2
    exact ⟨rfl, both_mk C1 S M2 (by omega)⟩
theorem p_cut (B : BOTH ch0 h) (c : Int32) (v : Bool) (hlt : ch0 < 2 ^ 31) : aq_T e_X9_cut 3 0 0 [.ref 0, .int c, .int (bB v)] h (fun r h1 => ∃ vv : Int32, r = some (.int vv) ∧ ANS e_X10_cut 3 [.ref 47, .int c, .int (bB v)] (.int vv) (ch0 + 300) h1) := by
  obtain ⟨w, ht, wx, wy, cb, ch, hm, D, Z, P, hc, C, M⟩ := B
  refine (x_cut C c v).mo ?_
  rintro r h1 hx
  by_cases e : (inC (w * ht) c && cb c.toNatClampNeg != v) = false
  · rw [if_pos e] at hx
    obtain ⟨rfl, rfl⟩ := hx
    refine ⟨_, rfl, ob48 M, (m_cut M c v).mo ?_⟩
    rintro r2 h2 hm2
    rw [if_pos e] at hm2
    obtain ⟨rfl, S, M2⟩ := hm2
    exact ⟨rfl, both_mk C S M2 (by omega)⟩
  · rw [if_neg e] at hx
    obtain ⟨rfl, S1, C1⟩ := hx
    have M1 := MDL_fr M S1 (by decide)
    refine ⟨_, rfl, ob48 M1, (m_cut M1 c v).mo ?_⟩
    rintro r2 h2 hm2
    rw [if_neg e] at hm2
    obtain ⟨rfl, S, M2⟩ := hm2
    exact ⟨rfl, both_mk (C1 _) S M2 (by omega)⟩
theorem p_braid (B : BOTH ch0 h) (c : Int32) (hlt : ch0 < 2 ^ 31) : aq_T e_X9_braid 2 0 0 [.ref 0, .int c] h (fun r h1 => ∃ vv : Int32, r = some (.int vv) ∧ ANS e_X10_braid 5 [.ref 47, .int c] (.int vv) (ch0 + 300) h1) := by
  obtain ⟨w, ht, wx, wy, cb, ch, hm, D, Z, P, hc, C, M⟩ := B
  refine (x_braid C c).mo ?_
  rintro r h1 hx
  by_cases e : hm = false
  · rw [if_pos e] at hx
    obtain ⟨rfl, rfl⟩ := hx
    refine ⟨_, rfl, ob48 M, (m_braid M c).mo ?_⟩
    rintro r2 h2 hm2
    rw [if_pos e] at hm2
    obtain ⟨rfl, S, M2⟩ := hm2
    exact ⟨rfl, both_mk C S M2 (by omega)⟩
  · rw [if_neg e] at hx
    obtain ⟨rfl, S1, ch1, q1, q2, C1⟩ := hx
    have M1 := MDL_fr M S1 (by decide)
    refine ⟨_, rfl, ob48 M1, (m_braid M1 c).mo ?_⟩
    rintro r2 h2 hm2
    rw [if_neg e] at hm2
    obtain ⟨rfl, S, M2⟩ := hm2
    exact ⟨rfl, both_mk C1 S M2 (by omega)⟩
theorem p_open (B : BOTH ch0 h) (c d : Int32) (v : Bool) (hlt : ch0 < 2 ^ 31) : aq_T e_X9_open 5 0 0 [.ref 0, .int c, .int d, .int (bB v)] h (fun r h1 => ∃ vv : Int32, r = some (.int vv) ∧ ANS e_X10_open 4 [.ref 47, .int c, .int d, .int (bB v)] (.int vv) (ch0 + 300) h1) := by
  obtain ⟨w, ht, wx, wy, cb, ch, hm, D, Z, P, hc, C, M⟩ := B
  refine (x_open C c d v).mo ?_
  rintro r h1 hx
  cases e : (if hm = true then PO w ht wx wy cb c d else none) with
  | none =>
    rw [e] at hx
    obtain ⟨rfl, rfl⟩ := hx
    refine ⟨_, rfl, ob48 M, (m_open M c d v).mo ?_⟩
    rintro r2 h2 hm2
    rw [e] at hm2
    obtain ⟨rfl, S, M2⟩ := hm2
    exact ⟨rfl, both_mk C S M2 (by omega)⟩
  | some p =>
    rw [e] at hx
    by_cases e2 : Z.1 p = v
    · replace hx := by simpa only [e2, if_true] using hx
      obtain ⟨rfl, rfl⟩ := hx
      refine ⟨_, rfl, ob48 M, (m_open M c d v).mo ?_⟩
      rintro r2 h2 hm2
      rw [e] at hm2
      replace hm2 := by simpa only [e2, if_true] using hm2
      obtain ⟨rfl, S, M2⟩ := hm2
      exact ⟨rfl, both_mk C S M2 (by omega)⟩
    · replace hx := by simpa only [e2, if_false] using hx
      obtain ⟨rfl, S1, C1⟩ := hx
      have M1 := MDL_fr M S1 (by decide)
      refine ⟨_, rfl, ob48 M1, (m_open M1 c d v).mo ?_⟩
      rintro r2 h2 hm2
      rw [e] at hm2
      replace hm2 := by simpa only [e2, if_false] using hm2
      obtain ⟨rfl, S, M2⟩ := hm2
      exact ⟨rfl, both_mk C1 S M2 (by omega)⟩
theorem p_door (B : BOTH ch0 h) (k c d : Int32) (hlt : ch0 < 2 ^ 31) : aq_T e_X9_door 5 0 0 [.ref 0, .int k, .int c, .int d] h (fun r h1 => ∃ vv : Int32, r = some (.int vv) ∧ ANS e_X10_door 4 [.ref 47, .int k, .int c, .int d] (.int vv) (ch0 + 300) h1) := by
  obtain ⟨w, ht, wx, wy, cb, ch, hm, D, Z, P, hc, C, M⟩ := B
  refine (x_door C k c d).mo ?_
  rintro r h1 hx
  cases e : (if hm = true then PO w ht wx wy cb c d else none) with
  | none =>
    rw [e] at hx
    obtain ⟨rfl, rfl⟩ := hx
    refine ⟨_, rfl, ob48 M, (m_door M k c d).mo ?_⟩
    rintro r2 h2 hm2
    rw [e] at hm2
    obtain ⟨rfl, S, M2⟩ := hm2
    exact ⟨rfl, both_mk C S M2 (by omega)⟩
  | some p =>
    rw [e] at hx
    by_cases e2 : (isK k && Z.1 p) = false
    · replace hx := by simpa only [e2, if_true] using hx
      obtain ⟨rfl, rfl⟩ := hx
      refine ⟨_, rfl, ob48 M, (m_door M k c d).mo ?_⟩
      rintro r2 h2 hm2
      rw [e] at hm2
      replace hm2 := by simpa only [e2, if_true] using hm2
      obtain ⟨rfl, S, M2⟩ := hm2
      exact ⟨rfl, both_mk C S M2 (by omega)⟩
    · replace hx := by simpa only [e2, if_false] using hx
      obtain ⟨rfl, S1, C1⟩ := hx
      have M1 := MDL_fr M S1 (by decide)
      refine ⟨_, rfl, ob48 M1, (m_door M1 k c d).mo ?_⟩
      rintro r2 h2 hm2
      rw [e] at hm2
      replace hm2 := by simpa only [e2, if_false] using hm2
      obtain ⟨rfl, S, M2⟩ := hm2
      exact ⟨rfl, both_mk C1 S M2 (by omega)⟩
theorem p_oneWay (B : BOTH ch0 h) (c d : Int32) (hlt : ch0 < 2 ^ 31) : aq_T e_X9_oneWay 4 0 0 [.ref 0, .int c, .int d] h (fun r h1 => ∃ vv : Int32, r = some (.int vv) ∧ ANS e_X10_oneWay 4 [.ref 47, .int c, .int d] (.int vv) (ch0 + 300) h1) := by
  obtain ⟨w, ht, wx, wy, cb, ch, hm, D, Z, P, hc, C, M⟩ := B
  refine (x_oneWay C c d).mo ?_
  rintro r h1 hx
  cases e : (if hm = true then PO w ht wx wy cb c d else none) with
  | none =>
    rw [e] at hx
    obtain ⟨rfl, rfl⟩ := hx
    refine ⟨_, rfl, ob48 M, (m_oneWay M c d).mo ?_⟩
    rintro r2 h2 hm2
    rw [e] at hm2
    obtain ⟨rfl, S, M2⟩ := hm2
    exact ⟨rfl, both_mk C S M2 (by omega)⟩
  | some p =>
    rw [e] at hx
    by_cases e2 : Z.1 p = false
    · replace hx := by simpa only [e2, if_true] using hx
      obtain ⟨rfl, rfl⟩ := hx
      refine ⟨_, rfl, ob48 M, (m_oneWay M c d).mo ?_⟩
      rintro r2 h2 hm2
      rw [e] at hm2
      replace hm2 := by simpa only [e2, if_true] using hm2
      obtain ⟨rfl, S, M2⟩ := hm2
      exact ⟨rfl, both_mk C S M2 (by omega)⟩
    · replace hx := by simpa only [e2, if_false] using hx
      obtain ⟨rfl, S1, C1⟩ := hx
      have M1 := MDL_fr M S1 (by decide)
      refine ⟨_, rfl, ob48 M1, (m_oneWay M1 c d).mo ?_⟩
      rintro r2 h2 hm2
      rw [e] at hm2
      replace hm2 := by simpa only [e2, if_false] using hm2
      obtain ⟨rfl, S, M2⟩ := hm2
      exact ⟨rfl, both_mk C1 S M2 (by omega)⟩
theorem p_walk (B : BOTH ch0 h) (d : Int32) (hlt : ch0 < 2 ^ 31) : aq_T e_X9_walk 2 0 0 [.ref 0, .int d] h (fun r h1 => ∃ vv : Int32, r = some (.int vv) ∧ ANS e_X10_walk 3 [.ref 47, .int d] (.int vv) (ch0 + 300) h1) := by
  obtain ⟨w, ht, wx, wy, cb, ch, hm, D, Z, P, hc, C, M⟩ := B
  refine (x_walk C d).mo ?_
  rintro r h1 hx
  cases e : (if (hm && inC 4 d) = true then stf w ht wx wy cb Z.1 Z.2.1 Z.2.2.1 P.1 d.toNatClampNeg (nI P.2.1) else none) with
  | none =>
    rw [e] at hx
    obtain ⟨rfl, rfl⟩ := hx
    refine ⟨_, rfl, ob48 M, (m_walk M d).mo ?_⟩
    rintro r2 h2 hm2
    rw [e] at hm2
    obtain ⟨rfl, S, M2⟩ := hm2
    exact ⟨rfl, both_mk C S M2 (by omega)⟩
  | some p =>
    rw [e] at hx
    obtain ⟨rfl, S1, C1⟩ := hx
    have M1 := MDL_fr M S1 (by decide)
    refine ⟨_, rfl, ob48 M1, (m_walk M1 d).mo ?_⟩
    rintro r2 h2 hm2
    rw [e] at hm2
    obtain ⟨rfl, S, M2⟩ := hm2
    exact ⟨rfl, both_mk C1 S M2 (by omega)⟩
theorem p_placeKeys (B : BOTH ch0 h) (c : Int32) (hlt : ch0 < 2 ^ 31) : aq_T e_X9_placeKeys 2 0 0 [.ref 0, .int c] h (fun r h1 => ∃ vv : Int32, r = some (.int vv) ∧ ANS e_X10_placeKeys 9 [.ref 47, .int c] (.int vv) (ch0 + 300) h1) := by
  obtain ⟨w, ht, wx, wy, cb, ch, hm, D, Z, P, hc, C, M⟩ := B
  refine (x_placeKeys C c).mo ?_
  rintro r h1 hx
  cases e : (if hm = true then Z.2.2.2.2.2 else none) with
  | none =>
    rw [e] at hx
    obtain ⟨rfl, rfl⟩ := hx
    refine ⟨_, rfl, ob48 M, (m_placeKeys M c).mo ?_⟩
    rintro r2 h2 hm2
    rw [e] at hm2
    obtain ⟨rfl, S, M2⟩ := hm2
    exact ⟨rfl, both_mk C S M2 (by omega)⟩
  | some p =>
    rw [e] at hx
    obtain ⟨rfl, S1, ch1, q1, q2, C1⟩ := hx
    have M1 := MDL_fr M S1 (by decide)
    refine ⟨_, rfl, ob48 M1, (m_placeKeys M1 c).mo ?_⟩
    rintro r2 h2 hm2
    rw [e] at hm2
    obtain ⟨rfl, S, M2⟩ := hm2
    exact ⟨rfl, both_mk C1 S M2 (by omega)⟩
theorem p_escape (B : BOTH ch0 h) (hlt : ch0 < 2 ^ 31) : aq_T e_X9_escape 1 0 0 [.ref 0] h (fun r h1 => ∃ vv : Int32, r = some (.int vv) ∧ ANS e_X10_escape 1 [.ref 47] (.int vv) (ch0 + 300) h1) := by
  obtain ⟨w, ht, wx, wy, cb, ch, hm, D, Z, P, hc, C, M⟩ := B
  refine (x_escape C (by omega) ).mo ?_
  rintro r h1 ⟨S1, C1, hf, ht_⟩
  have M1 := MDL_fr M S1 (by decide)
  cases hm with
  | false =>
    refine ⟨_, hf rfl, ob48 M1, (m_escape M1 ).mo ?_⟩
    rintro r2 h2 ⟨k1, -⟩
    obtain ⟨rfl, S, M2⟩ := k1 rfl
    exact ⟨rfl, both_mk C1 S M2 (by omega)⟩
  | true =>
    obtain ⟨o, E, rfl⟩ := ht_ rfl
    refine ⟨_, rfl, ob48 M1, (m_escape M1 ).mo ?_⟩
    rintro r2 h2 ⟨-, k2⟩
    obtain ⟨o2, E2, rfl, S, M2⟩ := k2 rfl
    rw [ESC_uniq E2 E]
    exact ⟨rfl, both_mk C1 S M2 (by omega)⟩
theorem p_step (B : BOTH ch0 h) (c : Int32) (hlt : ch0 < 2 ^ 31) : aq_T e_X9_step 2 0 0 [.ref 0, .int c] h (fun r h1 => ∃ vv : Int32, r = some (.int vv) ∧ ANS e_X10_step 8 [.ref 47, .int c] (.int vv) (ch0 + 300) h1) := by
  obtain ⟨w, ht, wx, wy, cb, ch, hm, D, Z, P, hc, C, M⟩ := B
  refine (x_step C (by omega) c).mo ?_
  rintro r h1 ⟨S1, C1, hf, ht_⟩
  have M1 := MDL_fr M S1 (by decide)
  cases hm with
  | false =>
    refine ⟨_, hf rfl, ob48 M1, (m_step M1 c).mo ?_⟩
    rintro r2 h2 ⟨k1, -⟩
    obtain ⟨rfl, S, M2⟩ := k1 rfl
    exact ⟨rfl, both_mk C1 S M2 (by omega)⟩
  | true =>
    obtain ⟨o, E, rfl⟩ := ht_ rfl
    refine ⟨_, rfl, ob48 M1, (m_step M1 c).mo ?_⟩
    rintro r2 h2 ⟨-, k2⟩
    obtain ⟨o2, E2, rfl, S, M2⟩ := k2 rfl
    rw [ESC_uniq E2 E]
    exact ⟨rfl, both_mk C1 S M2 (by omega)⟩
theorem p_make (B : BOTH ch0 h) (c d : Int32) (hlt : ch0 < 2 ^ 31) : aq_T e_X9_make 3 0 0 [.ref 0, .int c, .int d] h (fun r h1 => ∃ vv : Int32, r = some (.int vv) ∧ ANS e_X10_make 7 [.ref 47, .int c, .int d] (.int vv) (ch0 + 300) h1) := by
  obtain ⟨w, ht, wx, wy, cb, ch, hm, D, Z, P, hc, C, M⟩ := B
  refine (x_make C c d).mo ?_
  rintro r h1 hx
  by_cases e : (inC (w * ht) d && !cb d.toNatClampNeg) = false
  · rw [if_pos e] at hx
    obtain ⟨rfl, rfl⟩ := hx
    refine ⟨_, rfl, ob48 M, (m_make M c d).mo ?_⟩
    rintro r2 h2 hm2
    rw [if_pos e] at hm2
    obtain ⟨rfl, S, M2⟩ := hm2
    exact ⟨rfl, both_mk C S M2 (by omega)⟩
  · rw [if_neg e] at hx
    obtain ⟨S1, hx⟩ := hx
    have M1 := MDL_fr M S1 (by decide)
    rcases hx with ⟨rfl, nA, C1⟩ | ⟨A, ⟨rfl, ov, C1⟩ | ⟨rfl, p, k, en, ch1, q1, q2, C1⟩⟩
    · refine ⟨_, rfl, ob48 M1, (m_make M1 c d).mo ?_⟩
      rintro r2 h2 hm2
      rw [if_neg e] at hm2
      obtain ⟨S, hm2⟩ := hm2
      rcases hm2 with ⟨rfl, -, M2⟩ | ⟨A, -⟩
      · exact ⟨rfl, both_mk C1 S M2 (by omega)⟩
      · exact absurd A nA
    · refine ⟨_, rfl, ob48 M1, (m_make M1 c d).mo ?_⟩
      rintro r2 h2 hm2
      rw [if_neg e] at hm2
      obtain ⟨S, hm2⟩ := hm2
      rcases hm2 with ⟨rfl, nA, M2⟩ | ⟨-, ⟨rfl, -, M2⟩ | ⟨rfl, p', k', en', M2⟩⟩
      · exact absurd A nA
      · exact ⟨rfl, both_mk C1 S M2 (by omega)⟩
      · exact absurd en' (fun z => gOv_no ov z)
    · refine ⟨_, rfl, ob48 M1, (m_make M1 c d).mo ?_⟩
      rintro r2 h2 hm2
      rw [if_neg e] at hm2
      obtain ⟨S, hm2⟩ := hm2
      rcases hm2 with ⟨rfl, nA, M2⟩ | ⟨-, ⟨rfl, ov, M2⟩ | ⟨rfl, p', k', en', M2⟩⟩
      · exact absurd A nA
      · exact absurd en (fun z => gOv_no ov z)
      · obtain ⟨rfl, rfl⟩ := gEn_uniq en en'
        exact ⟨rfl, both_mk C1 S M2 (by omega)⟩
end PAR
