-- dep 62.base2 63.ops 65.num2 66.flood
/-! placing keys -/
def kwa (g : Nat → Option Nat) : Nat → Nat
  | 0 => 0
  | d + 1 => match g d with
    | none => kwa g d
    | some k => kwa g d ||| 1 <<< k
def mwa (b : Nat → Bool) (g : Nat → Nat → Option Nat) : Nat → Nat
  | 0 => 0
  | c + 1 => if b c = true then mwa b g c ||| kwa (g c) 4 else mwa b g c
theorem kwa_lt {g : Nat → Option Nat} (hg : ∀ d k, d < 4 → g d = some k → k < 4) : ∀ d, d ≤ 4 → kwa g d < 16
  | 0, _ => (by decide : 0 < 16)
  | d + 1, h => by
    have ih := kwa_lt hg d (by omega)
    unfold kwa
    cases e : g d with
    | none => exact ih
    | some k => exact or16 _ ih _ (bit_lt k (hg d k (by omega) e))
theorem kwa_bit {g : Nat → Option Nat} (hg : ∀ d k, d < 4 → g d = some k → k < 4) : ∀ d, d ≤ 4 → ∀ k, k < 4 → ((kwa g d).testBit k = true ↔ ∃ d', d' < d ∧ g d' = some k)
  | 0, _, k, _ => by
    unfold kwa
    rw [Nat.zero_testBit]
    exact ⟨fun h => absurd h (by decide), fun ⟨d', h, _⟩ => absurd h (by omega)⟩
  | d + 1, h, k, hk => by
    have ih := kwa_bit hg d (by omega) k hk
    unfold kwa
    cases e : g d with
    | none =>
      rw [show (match (none : Option Nat) with | none => kwa g d | some k => kwa g d ||| 1 <<< k) = kwa g d from rfl, ih]
      constructor
      · rintro ⟨d', h1, h2⟩; exact ⟨d', by omega, h2⟩
      · rintro ⟨d', h1, h2⟩
        refine ⟨d', ?_, h2⟩
        by_cases z : d' = d
        · rw [z, e] at h2; cases h2
        · omega
    | some j =>
      have hj := hg d j (by omega) e
      rw [show (match (some j : Option Nat) with | none => kwa g d | some k => kwa g d ||| 1 <<< k) = kwa g d ||| 1 <<< j from rfl, Nat.testBit_or, bit_eq j hj k hk, Bool.or_eq_true, ih]
      constructor
      · rintro (⟨d', h1, h2⟩ | h1)
        · exact ⟨d', by omega, h2⟩
        · exact ⟨d, by omega, by rw [of_decide_eq_true h1]; exact e⟩
      · rintro ⟨d', h1, h2⟩
        by_cases z : d' = d
        · rw [z, e] at h2; cases h2; exact Or.inr (decide_eq_true rfl)
        · exact Or.inl ⟨d', by omega, h2⟩
theorem mwa_lt {b : Nat → Bool} {g : Nat → Nat → Option Nat} {n : Nat} (hg : ∀ c d k, c < n → d < 4 → g c d = some k → k < 4) : ∀ c, c ≤ n → mwa b g c < 16
  | 0, _ => (by decide : 0 < 16)
  | c + 1, h => by
    have ih := mwa_lt (b := b) hg c (by omega)
    unfold mwa
    split
    · exact or16 _ ih _ (kwa_lt (fun d k => hg c d k (by omega)) 4 (Nat.le_refl _))
    · exact ih
theorem mwa_bit {b : Nat → Bool} {g : Nat → Nat → Option Nat} {n : Nat} (hg : ∀ c d k, c < n → d < 4 → g c d = some k → k < 4) : ∀ c, c ≤ n → ∀ k, k < 4 → ((mwa b g c).testBit k = true ↔ ∃ c', c' < c ∧ b c' = true ∧ ∃ d, d < 4 ∧ g c' d = some k)
  | 0, _, k, _ => by
    unfold mwa
    rw [Nat.zero_testBit]
    exact ⟨fun h => absurd h (by decide), fun ⟨d', h, _⟩ => absurd h (by omega)⟩
  | c + 1, h, k, hk => by
    have ih := mwa_bit (b := b) hg c (by omega) k hk
    unfold mwa
    by_cases e : b c = true
    · rw [if_pos e, Nat.testBit_or, Bool.or_eq_true, ih, kwa_bit (fun d k => hg c d k (by omega)) 4 (Nat.le_refl _) k hk]
      constructor
      · rintro (⟨c', h1, h2⟩ | h1)
        · exact ⟨c', by omega, h2⟩
        · exact ⟨c, by omega, e, h1⟩
      · rintro ⟨c', h1, h2, h3⟩
        by_cases z : c' = c
        · rw [z] at h3; exact Or.inr h3
        · exact Or.inl ⟨c', by omega, h2, h3⟩
    · rw [if_neg e, ih]
      constructor
      · rintro ⟨c', h1, h2⟩; exact ⟨c', by omega, h2⟩
      · rintro ⟨c', h1, h2, h3⟩
        refine ⟨c', ?_, h2, h3⟩
        by_cases z : c' = c
        · rw [z] at h2; exact absurd h2 e
        · omega
noncomputable def rB (f : Nat → Nat → Option Nat) (s : Nat) : Nat → Bool := fun c => @decide (Rc f s c) (Classical.propDecidable _)
theorem rB_iff {f : Nat → Nat → Option Nat} {s c : Nat} : rB f s c = true ↔ Rc f s c := by
  unfold rB
  exact @decide_eq_true_iff (Rc f s c) (Classical.propDecidable _)
theorem rB_u {f : Nat → Nat → Option Nat} {s : Nat} {u : Nat → Bool} (h : ∀ c, u c = false ↔ Rc f s c) : u = fun c => !rB f s c := by
  funext c
  cases e : u c with
  | false => rw [rB_iff.mpr ((h c).mp e)]; rfl
  | true =>
    cases q : rB f s c with
    | false => rfl
    | true => have := (h c).mpr (rB_iff.mp q); rw [e] at this; cases this
/-- the cell with a number among those of a set -/
def nthc (b : Nat → Bool) : Nat → Nat → Nat → Option Nat
  | 0, _, _ => none
  | k + 1, c, l => if b c = true then (if l = 0 then some c else nthc b k (c + 1) (l - 1)) else nthc b k (c + 1) l
theorem nthc_ok {b : Nat → Bool} : ∀ (k c l : Nat) {m : Nat}, nthc b k c l = some m → m < c + k ∧ b m = true
  | 0, c, l, m, h => by cases h
  | k + 1, c, l, m, h => by
    unfold nthc at h
    split at h
    · rename_i e
      split at h
      · cases h; exact ⟨by omega, e⟩
      · have := nthc_ok k (c + 1) _ h; exact ⟨by omega, this.2⟩
    · have := nthc_ok k (c + 1) _ h; exact ⟨by omega, this.2⟩
/-- the least number of which something holds -/
def lop (p : Nat → Bool) : Nat → Nat → Option Nat
  | 0, _ => none
  | n + 1, k => if p k = true then some k else lop p n (k + 1)
theorem lob_lop {a : Nat} {p : Nat → Bool} : ∀ (n k : Nat), (∀ j, k ≤ j → j < k + n → a.testBit j = p j) → lob a n k = lop p n k
  | 0, _, _ => rfl
  | n + 1, k, h => by
    unfold lob lop
    rw [h k (Nat.le_refl k) (by omega), lob_lop n (k + 1) (fun j h1 h2 => h j (by omega) (by omega))]
theorem lop_ok {p : Nat → Bool} : ∀ (n k : Nat) {m : Nat}, lop p n k = some m → k ≤ m ∧ m < k + n ∧ p m = true
  | 0, _, _, h => by cases h
  | n + 1, k, m, h => by
    unfold lop at h
    split at h
    · rename_i e; cases h; exact ⟨Nat.le_refl _, by omega, e⟩
    · have := lop_ok n (k + 1) h; exact ⟨by omega, by omega, this.2.2⟩
noncomputable def wkB (n : Nat) (b : Nat → Bool) (g : Nat → Nat → Option Nat) (k : Nat) : Bool := @decide (∃ c, c < n ∧ b c = true ∧ ∃ d, d < 4 ∧ g c d = some k) (Classical.propDecidable _)
theorem wkB_iff {n : Nat} {b : Nat → Bool} {g : Nat → Nat → Option Nat} {k : Nat} : wkB n b g k = true ↔ ∃ c, c < n ∧ b c = true ∧ ∃ d, d < 4 ∧ g c d = some k := by
  unfold wkB
  exact @decide_eq_true_iff _ (Classical.propDecidable _)
/-- what placeKeys does: rounds left, keys, mask of keys put, the random number; f: steps with a mask, g: doors ahead -/
noncomputable def pkf (n : Nat) (f : Nat → Nat → Nat → Option Nat) (g : Nat → Nat → Option Nat) (s e : Nat) : Nat → (Nat → Option Nat) → Nat → Int32 → Bool × (Nat → Option Nat)
  | 0, ky, _, _ => (false, ky)
  | t + 1, ky, put, x => if rB (f put) s e = true then (true, ky) else match lop (fun k => wkB n (rB (f put) s) g k && !put.testBit k) 4 0 with
    | none => (false, ky)
    | some k => pkf n f g s e t (fs ky k (nthc (rB (f put) s) n 0 (chs (nxt x) (frc (fun c => !rB (f put) s c) n)))) (put ||| 1 <<< k) (nxt x)
section KPS
variable {V : mzT → Int32 → (Nat → Int32) → (Nat → Int32) → Int32 → Prop} {h : aq_H} {w ht n : Nat} {cut bes lead pas : Nat → Int32} {fr : Int32} {wx wy : Bool} {cb : Nat → Bool} {op dk od kc : Nat → Int32} {st ex ch : Int32} {ob : Nat → Bool} {dr on ky : Nat → Option Nat} {u : Nat → Bool} {q : Nat → Nat} {re qu : Nat → Int32} {ct : Int32} {D : drT} {Z : mzT} {P : plT}
theorem t_flHas (F : iFl h (w * ht) re qu ct) (g : gFl (w * ht) u q re qu ct) (B : iBd h w ht cut bes lead pas fr) (G : gBd w ht wx wy cb cut bes lead pas fr) {c : Nat} (hc : c < w * ht) : aq_T e_X1_has 2 0 0 [.ref 37, .int (nI c)] h (rd (bB (!u c)) h) := by
  have hn := wh_lt G.1
  obtain ⟨f1, f2, f3⟩ := F
  refine ⟨Nat.le_of_ble_eq_true rfl, ?_⟩
  show aq_W _ _ 0 [some (.ref 37), some (.int (nI c))] [] _ _ _
  simp only [s_X1_has_0, s_X1_has_1, s_X1_has_4, s_X1_has_5, s_X1_has_8, s_X1_has_11, s_X1_has_12, s_X1_has_15, s_X1_has_16, s_X1_has_17, s_X1_has_20, s_X1_has_21, s_X1_has_24, s_X1_has_25, aq_gI, aq_gL, aq_gA, aq_isA, aq_s1, aq_s2, aq_kill, aq_ob, aq_sm, aq_arI, aq_arB, aq_isB, aq_arL, aq_arA, aq_arN, aq_sh, Value.category, List.getElem?_cons_zero, List.getElem?_cons_succ, List.length_cons, List.length_nil, Option.toList_some, Option.toList_none, List.cons_append, List.nil_append, true_and, and_true, List.set_cons_zero, List.set_cons_succ, aq_n1, aq_n2, aq_n3, aq_n4, aq_f1, aq_f2, aq_f3, aq_f4, aq_gs, aq_ty1, aq_ty2, aq_ty3, aq_ty4, aq_ty5, Nat.reduceAdd, Nat.reduceLT, Nat.reduceEqDiff, Nat.reduceSub, if_true, if_false, ne_eq, not_false_eq_true, not_true_eq_false, Option.map_some, Option.map_none, Nat.zero_add, reduceCtorEq, Nat.reduceLeDiff, one_ne_zero_a, zero_ne_one_a, aq_nb, aq_nb1, aq_nb0, aq_fb, aq_fb1, aq_fb0, aq_ofN, bB_t, bB_f, bB_v, vpn_b1, vpn_b0, nI_1, Bool.true_eq_false, Bool.false_eq_true, Bool.true_and, Bool.false_and, Bool.and_true, Bool.and_false, f1, B.1]
  refine (t_has B G (nI c)).use ?_
  rintro _ h ⟨rfl, rfl⟩
  rw [inC_nI hc (by omega)]
  simp only [s_X1_has_0, s_X1_has_1, s_X1_has_4, s_X1_has_5, s_X1_has_8, s_X1_has_11, s_X1_has_12, s_X1_has_15, s_X1_has_16, s_X1_has_17, s_X1_has_20, s_X1_has_21, s_X1_has_24, s_X1_has_25, aq_gI, aq_gL, aq_gA, aq_isA, aq_s1, aq_s2, aq_kill, aq_ob, aq_sm, aq_arI, aq_arB, aq_isB, aq_arL, aq_arA, aq_arN, aq_sh, Value.category, List.getElem?_cons_zero, List.getElem?_cons_succ, List.length_cons, List.length_nil, Option.toList_some, Option.toList_none, List.cons_append, List.nil_append, true_and, and_true, List.set_cons_zero, List.set_cons_succ, aq_n1, aq_n2, aq_n3, aq_n4, aq_f1, aq_f2, aq_f3, aq_f4, aq_gs, aq_ty1, aq_ty2, aq_ty3, aq_ty4, aq_ty5, Nat.reduceAdd, Nat.reduceLT, Nat.reduceEqDiff, Nat.reduceSub, if_true, if_false, ne_eq, not_false_eq_true, not_true_eq_false, Option.map_some, Option.map_none, Nat.zero_add, reduceCtorEq, Nat.reduceLeDiff, one_ne_zero_a, zero_ne_one_a, aq_nb, aq_nb1, aq_nb0, aq_fb, aq_fb1, aq_fb0, aq_ofN, bB_t, bB_f, bB_v, vpn_b1, vpn_b0, nI_1, Bool.true_eq_false, Bool.false_eq_true, Bool.true_and, Bool.false_and, Bool.and_true, Bool.and_false, f1, f2, vp_in_nI hc (show w * ht < 2 ^ 31 by omega), nI_clamp (show c < 2 ^ 31 by omega), g.1 c hc]
  cases u c with
  | false => simp only [s_X1_has_0, s_X1_has_1, s_X1_has_4, s_X1_has_5, s_X1_has_8, s_X1_has_11, s_X1_has_12, s_X1_has_15, s_X1_has_16, s_X1_has_17, s_X1_has_20, s_X1_has_21, s_X1_has_24, s_X1_has_25, aq_gI, aq_gL, aq_gA, aq_isA, aq_s1, aq_s2, aq_kill, aq_ob, aq_sm, aq_arI, aq_arB, aq_isB, aq_arL, aq_arA, aq_arN, aq_sh, Value.category, List.getElem?_cons_zero, List.getElem?_cons_succ, List.length_cons, List.length_nil, Option.toList_some, Option.toList_none, List.cons_append, List.nil_append, true_and, and_true, List.set_cons_zero, List.set_cons_succ, aq_n1, aq_n2, aq_n3, aq_n4, aq_f1, aq_f2, aq_f3, aq_f4, aq_gs, aq_ty1, aq_ty2, aq_ty3, aq_ty4, aq_ty5, Nat.reduceAdd, Nat.reduceLT, Nat.reduceEqDiff, Nat.reduceSub, if_true, if_false, ne_eq, not_false_eq_true, not_true_eq_false, Option.map_some, Option.map_none, Nat.zero_add, reduceCtorEq, Nat.reduceLeDiff, one_ne_zero_a, zero_ne_one_a, aq_nb, aq_nb1, aq_nb0, aq_fb, aq_fb1, aq_fb0, aq_ofN, bB_t, bB_f, bB_v, vpn_b1, vpn_b0, nI_1, Bool.true_eq_false, Bool.false_eq_true, Bool.true_and, Bool.false_and, Bool.and_true, Bool.and_false, Bool.not_false, rd]
  | true => simp only [s_X1_has_0, s_X1_has_1, s_X1_has_4, s_X1_has_5, s_X1_has_8, s_X1_has_11, s_X1_has_12, s_X1_has_15, s_X1_has_16, s_X1_has_17, s_X1_has_20, s_X1_has_21, s_X1_has_24, s_X1_has_25, aq_gI, aq_gL, aq_gA, aq_isA, aq_s1, aq_s2, aq_kill, aq_ob, aq_sm, aq_arI, aq_arB, aq_isB, aq_arL, aq_arA, aq_arN, aq_sh, Value.category, List.getElem?_cons_zero, List.getElem?_cons_succ, List.length_cons, List.length_nil, Option.toList_some, Option.toList_none, List.cons_append, List.nil_append, true_and, and_true, List.set_cons_zero, List.set_cons_succ, aq_n1, aq_n2, aq_n3, aq_n4, aq_f1, aq_f2, aq_f3, aq_f4, aq_gs, aq_ty1, aq_ty2, aq_ty3, aq_ty4, aq_ty5, Nat.reduceAdd, Nat.reduceLT, Nat.reduceEqDiff, Nat.reduceSub, if_true, if_false, ne_eq, not_false_eq_true, not_true_eq_false, Option.map_some, Option.map_none, Nat.zero_add, reduceCtorEq, Nat.reduceLeDiff, one_ne_zero_a, zero_ne_one_a, aq_nb, aq_nb1, aq_nb0, aq_fb, aq_fb1, aq_fb0, aq_ofN, bB_t, bB_f, bB_v, vpn_b1, vpn_b0, nI_1, Bool.true_eq_false, Bool.false_eq_true, Bool.true_and, Bool.false_and, Bool.and_true, Bool.and_false, Bool.not_true, rd]
theorem t_flSize (F : iFl h n re qu ct) : aq_T e_X1_size 1 0 0 [.ref 37] h (rd ct h) := by
  refine ⟨Nat.le_of_ble_eq_true rfl, ?_⟩
  show aq_W _ _ 0 [some (.ref 37)] [] _ _ _
  simp only [s_X1_size_0, s_X1_size_1, s_X1_size_4, aq_gI, aq_gL, aq_gA, aq_isA, aq_s1, aq_s2, aq_kill, aq_ob, aq_sm, aq_arI, aq_arB, aq_isB, aq_arL, aq_arA, aq_arN, aq_sh, Value.category, List.getElem?_cons_zero, List.getElem?_cons_succ, List.length_cons, List.length_nil, Option.toList_some, Option.toList_none, List.cons_append, List.nil_append, true_and, and_true, List.set_cons_zero, List.set_cons_succ, aq_n1, aq_n2, aq_n3, aq_n4, aq_f1, aq_f2, aq_f3, aq_f4, aq_gs, aq_ty1, aq_ty2, aq_ty3, aq_ty4, aq_ty5, Nat.reduceAdd, Nat.reduceLT, Nat.reduceEqDiff, Nat.reduceSub, if_true, if_false, ne_eq, not_false_eq_true, not_true_eq_false, Option.map_some, Option.map_none, Nat.zero_add, reduceCtorEq, Nat.reduceLeDiff, one_ne_zero_a, zero_ne_one_a, aq_nb, aq_nb1, aq_nb0, aq_fb, aq_fb1, aq_fb0, aq_ofN, bB_t, bB_f, bB_v, vpn_b1, vpn_b0, nI_1, Bool.true_eq_false, Bool.false_eq_true, Bool.true_and, Bool.false_and, Bool.and_true, Bool.and_false, F.1, rd]
theorem t_cellNumber (F : iFl h n re qu ct) (g : gFl n u q re qu ct) (hn : n < 2 ^ 31) {l : Nat} (hl : l < 2 ^ 31) : aq_T e_X1_cellNumber 4 0 0 [.ref 37, .int (nI l)] h (rd (oI (nthc (fun c => !u c) n 0 l)) h) := by
  obtain ⟨f1, f2, f3⟩ := F
  refine ⟨Nat.le_of_ble_eq_true rfl, ?_⟩
  show aq_W _ _ 0 [some (.ref 37), some (.int (nI l)), none, none] [] _ _ _
  have one : ∀ (k c l' : Nat), c + k = n → l' < 2 ^ 31 → aq_W e_X1_cellNumber (rd (oI (nthc (fun c => !u c) k c l')) h) 4 [some (.ref 37), some (.int (nI l)), some (.int (nI l')), some (.int (nI c))] [] h 0 0 := by
    intro k
    induction k with
    | zero =>
      intro c l' hc hl'
      have e : c = n := by omega
      subst e
      rw [s_X1_cellNumber_4]
      simp only [s_X1_cellNumber_0, s_X1_cellNumber_1, s_X1_cellNumber_2, s_X1_cellNumber_3, s_X1_cellNumber_5, s_X1_cellNumber_6, s_X1_cellNumber_9, s_X1_cellNumber_10, s_X1_cellNumber_13, s_X1_cellNumber_14, s_X1_cellNumber_17, s_X1_cellNumber_18, s_X1_cellNumber_19, s_X1_cellNumber_22, s_X1_cellNumber_23, s_X1_cellNumber_26, s_X1_cellNumber_27, s_X1_cellNumber_28, s_X1_cellNumber_31, s_X1_cellNumber_34, s_X1_cellNumber_37, s_X1_cellNumber_38, aq_gI, aq_gL, aq_gA, aq_isA, aq_s1, aq_s2, aq_kill, aq_ob, aq_sm, aq_arI, aq_arB, aq_isB, aq_arL, aq_arA, aq_arN, aq_sh, Value.category, List.getElem?_cons_zero, List.getElem?_cons_succ, List.length_cons, List.length_nil, Option.toList_some, Option.toList_none, List.cons_append, List.nil_append, true_and, and_true, List.set_cons_zero, List.set_cons_succ, aq_n1, aq_n2, aq_n3, aq_n4, aq_f1, aq_f2, aq_f3, aq_f4, aq_gs, aq_ty1, aq_ty2, aq_ty3, aq_ty4, aq_ty5, Nat.reduceAdd, Nat.reduceLT, Nat.reduceEqDiff, Nat.reduceSub, if_true, if_false, ne_eq, not_false_eq_true, not_true_eq_false, Option.map_some, Option.map_none, Nat.zero_add, reduceCtorEq, Nat.reduceLeDiff, one_ne_zero_a, zero_ne_one_a, aq_nb, aq_nb1, aq_nb0, aq_fb, aq_fb1, aq_fb0, aq_ofN, bB_t, bB_f, bB_v, vpn_b1, vpn_b0, nI_1, Bool.true_eq_false, Bool.false_eq_true, Bool.true_and, Bool.false_and, Bool.and_true, Bool.and_false, f1, f2, nI_le (Nat.le_refl c) hn, rd, nthc, oI]
    | succ k ih =>
      intro c l' hc hl'
      have hc2 : c < n := by omega
      rw [s_X1_cellNumber_4]
      simp only [s_X1_cellNumber_0, s_X1_cellNumber_1, s_X1_cellNumber_2, s_X1_cellNumber_3, s_X1_cellNumber_5, s_X1_cellNumber_6, s_X1_cellNumber_9, s_X1_cellNumber_10, s_X1_cellNumber_13, s_X1_cellNumber_14, s_X1_cellNumber_17, s_X1_cellNumber_18, s_X1_cellNumber_19, s_X1_cellNumber_22, s_X1_cellNumber_23, s_X1_cellNumber_26, s_X1_cellNumber_27, s_X1_cellNumber_28, s_X1_cellNumber_31, s_X1_cellNumber_34, s_X1_cellNumber_37, s_X1_cellNumber_38, aq_gI, aq_gL, aq_gA, aq_isA, aq_s1, aq_s2, aq_kill, aq_ob, aq_sm, aq_arI, aq_arB, aq_isB, aq_arL, aq_arA, aq_arN, aq_sh, Value.category, List.getElem?_cons_zero, List.getElem?_cons_succ, List.length_cons, List.length_nil, Option.toList_some, Option.toList_none, List.cons_append, List.nil_append, true_and, and_true, List.set_cons_zero, List.set_cons_succ, aq_n1, aq_n2, aq_n3, aq_n4, aq_f1, aq_f2, aq_f3, aq_f4, aq_gs, aq_ty1, aq_ty2, aq_ty3, aq_ty4, aq_ty5, Nat.reduceAdd, Nat.reduceLT, Nat.reduceEqDiff, Nat.reduceSub, if_true, if_false, ne_eq, not_false_eq_true, not_true_eq_false, Option.map_some, Option.map_none, Nat.zero_add, reduceCtorEq, Nat.reduceLeDiff, one_ne_zero_a, zero_ne_one_a, aq_nb, aq_nb1, aq_nb0, aq_fb, aq_fb1, aq_fb0, aq_ofN, bB_t, bB_f, bB_v, vpn_b1, vpn_b0, nI_1, Bool.true_eq_false, Bool.false_eq_true, Bool.true_and, Bool.false_and, Bool.and_true, Bool.and_false, f1, f2, nI_ge hc2 hn, vp_in_nI hc2 hn, nI_clamp (show c < 2 ^ 31 by omega), g.1 c hc2]
      unfold nthc
      cases e : u c with
      | false =>
        by_cases z : l' = 0
        · subst z
          simp only [s_X1_cellNumber_0, s_X1_cellNumber_1, s_X1_cellNumber_2, s_X1_cellNumber_3, s_X1_cellNumber_5, s_X1_cellNumber_6, s_X1_cellNumber_9, s_X1_cellNumber_10, s_X1_cellNumber_13, s_X1_cellNumber_14, s_X1_cellNumber_17, s_X1_cellNumber_18, s_X1_cellNumber_19, s_X1_cellNumber_22, s_X1_cellNumber_23, s_X1_cellNumber_26, s_X1_cellNumber_27, s_X1_cellNumber_28, s_X1_cellNumber_31, s_X1_cellNumber_34, s_X1_cellNumber_37, s_X1_cellNumber_38, aq_gI, aq_gL, aq_gA, aq_isA, aq_s1, aq_s2, aq_kill, aq_ob, aq_sm, aq_arI, aq_arB, aq_isB, aq_arL, aq_arA, aq_arN, aq_sh, Value.category, List.getElem?_cons_zero, List.getElem?_cons_succ, List.length_cons, List.length_nil, Option.toList_some, Option.toList_none, List.cons_append, List.nil_append, true_and, and_true, List.set_cons_zero, List.set_cons_succ, aq_n1, aq_n2, aq_n3, aq_n4, aq_f1, aq_f2, aq_f3, aq_f4, aq_gs, aq_ty1, aq_ty2, aq_ty3, aq_ty4, aq_ty5, Nat.reduceAdd, Nat.reduceLT, Nat.reduceEqDiff, Nat.reduceSub, if_true, if_false, ne_eq, not_false_eq_true, not_true_eq_false, Option.map_some, Option.map_none, Nat.zero_add, reduceCtorEq, Nat.reduceLeDiff, one_ne_zero_a, zero_ne_one_a, aq_nb, aq_nb1, aq_nb0, aq_fb, aq_fb1, aq_fb0, aq_ofN, bB_t, bB_f, bB_v, vpn_b1, vpn_b0, nI_1, Bool.true_eq_false, Bool.false_eq_true, Bool.true_and, Bool.false_and, Bool.and_true, Bool.and_false, Bool.not_false, nI_0, oI, rd]
        · simp only [s_X1_cellNumber_0, s_X1_cellNumber_1, s_X1_cellNumber_2, s_X1_cellNumber_3, s_X1_cellNumber_5, s_X1_cellNumber_6, s_X1_cellNumber_9, s_X1_cellNumber_10, s_X1_cellNumber_13, s_X1_cellNumber_14, s_X1_cellNumber_17, s_X1_cellNumber_18, s_X1_cellNumber_19, s_X1_cellNumber_22, s_X1_cellNumber_23, s_X1_cellNumber_26, s_X1_cellNumber_27, s_X1_cellNumber_28, s_X1_cellNumber_31, s_X1_cellNumber_34, s_X1_cellNumber_37, s_X1_cellNumber_38, aq_gI, aq_gL, aq_gA, aq_isA, aq_s1, aq_s2, aq_kill, aq_ob, aq_sm, aq_arI, aq_arB, aq_isB, aq_arL, aq_arA, aq_arN, aq_sh, Value.category, List.getElem?_cons_zero, List.getElem?_cons_succ, List.length_cons, List.length_nil, Option.toList_some, Option.toList_none, List.cons_append, List.nil_append, true_and, and_true, List.set_cons_zero, List.set_cons_succ, aq_n1, aq_n2, aq_n3, aq_n4, aq_f1, aq_f2, aq_f3, aq_f4, aq_gs, aq_ty1, aq_ty2, aq_ty3, aq_ty4, aq_ty5, Nat.reduceAdd, Nat.reduceLT, Nat.reduceEqDiff, Nat.reduceSub, if_true, if_false, ne_eq, not_false_eq_true, not_true_eq_false, Option.map_some, Option.map_none, Nat.zero_add, reduceCtorEq, Nat.reduceLeDiff, one_ne_zero_a, zero_ne_one_a, aq_nb, aq_nb1, aq_nb0, aq_fb, aq_fb1, aq_fb0, aq_ofN, bB_t, bB_f, bB_v, vpn_b1, vpn_b0, nI_1, Bool.true_eq_false, Bool.false_eq_true, Bool.true_and, Bool.false_and, Bool.and_true, Bool.and_false, Bool.not_false, nI_ne0 (show 0 < l' by omega) hl', z]
          have := ih (c + 1) (l' - 1) (by omega) (by omega)
          rw [show nI l' + -1 = nI (l' - 1) from by rw [show l' = l' - 1 + 1 by omega]; exact pk_m1 (l' - 1)]
          exact this
      | true =>
        simp only [s_X1_cellNumber_0, s_X1_cellNumber_1, s_X1_cellNumber_2, s_X1_cellNumber_3, s_X1_cellNumber_5, s_X1_cellNumber_6, s_X1_cellNumber_9, s_X1_cellNumber_10, s_X1_cellNumber_13, s_X1_cellNumber_14, s_X1_cellNumber_17, s_X1_cellNumber_18, s_X1_cellNumber_19, s_X1_cellNumber_22, s_X1_cellNumber_23, s_X1_cellNumber_26, s_X1_cellNumber_27, s_X1_cellNumber_28, s_X1_cellNumber_31, s_X1_cellNumber_34, s_X1_cellNumber_37, s_X1_cellNumber_38, aq_gI, aq_gL, aq_gA, aq_isA, aq_s1, aq_s2, aq_kill, aq_ob, aq_sm, aq_arI, aq_arB, aq_isB, aq_arL, aq_arA, aq_arN, aq_sh, Value.category, List.getElem?_cons_zero, List.getElem?_cons_succ, List.length_cons, List.length_nil, Option.toList_some, Option.toList_none, List.cons_append, List.nil_append, true_and, and_true, List.set_cons_zero, List.set_cons_succ, aq_n1, aq_n2, aq_n3, aq_n4, aq_f1, aq_f2, aq_f3, aq_f4, aq_gs, aq_ty1, aq_ty2, aq_ty3, aq_ty4, aq_ty5, Nat.reduceAdd, Nat.reduceLT, Nat.reduceEqDiff, Nat.reduceSub, if_true, if_false, ne_eq, not_false_eq_true, not_true_eq_false, Option.map_some, Option.map_none, Nat.zero_add, reduceCtorEq, Nat.reduceLeDiff, one_ne_zero_a, zero_ne_one_a, aq_nb, aq_nb1, aq_nb0, aq_fb, aq_fb1, aq_fb0, aq_ofN, bB_t, bB_f, bB_v, vpn_b1, vpn_b0, nI_1, Bool.true_eq_false, Bool.false_eq_true, Bool.true_and, Bool.false_and, Bool.and_true, Bool.and_false, Bool.not_true]
        exact ih (c + 1) l' (by omega) hl'
  simp only [s_X1_cellNumber_0, s_X1_cellNumber_1, s_X1_cellNumber_2, s_X1_cellNumber_3, s_X1_cellNumber_5, s_X1_cellNumber_6, s_X1_cellNumber_9, s_X1_cellNumber_10, s_X1_cellNumber_13, s_X1_cellNumber_14, s_X1_cellNumber_17, s_X1_cellNumber_18, s_X1_cellNumber_19, s_X1_cellNumber_22, s_X1_cellNumber_23, s_X1_cellNumber_26, s_X1_cellNumber_27, s_X1_cellNumber_28, s_X1_cellNumber_31, s_X1_cellNumber_34, s_X1_cellNumber_37, s_X1_cellNumber_38, aq_gI, aq_gL, aq_gA, aq_isA, aq_s1, aq_s2, aq_kill, aq_ob, aq_sm, aq_arI, aq_arB, aq_isB, aq_arL, aq_arA, aq_arN, aq_sh, Value.category, List.getElem?_cons_zero, List.getElem?_cons_succ, List.length_cons, List.length_nil, Option.toList_some, Option.toList_none, List.cons_append, List.nil_append, true_and, and_true, List.set_cons_zero, List.set_cons_succ, aq_n1, aq_n2, aq_n3, aq_n4, aq_f1, aq_f2, aq_f3, aq_f4, aq_gs, aq_ty1, aq_ty2, aq_ty3, aq_ty4, aq_ty5, Nat.reduceAdd, Nat.reduceLT, Nat.reduceEqDiff, Nat.reduceSub, if_true, if_false, ne_eq, not_false_eq_true, not_true_eq_false, Option.map_some, Option.map_none, Nat.zero_add, reduceCtorEq, Nat.reduceLeDiff, one_ne_zero_a, zero_ne_one_a, aq_nb, aq_nb1, aq_nb0, aq_fb, aq_fb1, aq_fb0, aq_ofN, bB_t, bB_f, bB_v, vpn_b1, vpn_b0, nI_1, Bool.true_eq_false, Bool.false_eq_true, Bool.true_and, Bool.false_and, Bool.and_true, Bool.and_false]
  exact one n 0 l (Nat.zero_add _) hl
theorem t_keysWantedAt (K : iKp h) (B : iBd h w ht cut bes lead pas fr) (G : gBd w ht wx wy cb cut bes lead pas fr) (M : iMz h (w * ht * 2) op dk od kc st ex ch) (H : gMz (w * ht * 2) ob dr on ky op dk od kc) {c : Nat} (hc : c < w * ht) : aq_T e_X2_keysWantedAt 5 0 0 [.ref 40, .int (nI c)] h (rd (nI (kwa (fun d => (wkp w ht wx wy cb ob on c d).bind dr) 4)) h) := by
  have hn := wh_lt G.1
  have hg : ∀ d k, d < 4 → (wkp w ht wx wy cb ob on c d).bind dr = some k → k < 4 := by
    intro d k hd e
    cases hp : wkp w ht wx wy cb ob on c d with
    | none => rw [hp] at e; cases e
    | some p => rw [hp] at e; exact (H.2.1 p (wkp_lt G.1 hc hd hp)).2 k e
  unfold iKp at K
  refine ⟨Nat.le_of_ble_eq_true rfl, ?_⟩
  show aq_W _ _ 0 [some (.ref 40), some (.int (nI c)), none, none, none] [] _ _ _
  generalize hgg : (fun d => (wkp w ht wx wy cb ob on c d).bind dr) = gg at *
  have hgv : ∀ d, (wkp w ht wx wy cb ob on c d).bind dr = gg d := fun d => by rw [← hgg]
  simp only [hgv] at hg
  have one : ∀ (k d : Nat), d + k = 4 → ∀ L, aq_W e_X2_keysWantedAt (rd (nI (kwa gg 4)) h) 4 [some (.ref 40), some (.int (nI c)), some (.int (nI (kwa gg d))), some (.int (nI d)), L] [] h 0 0 := by
    intro k
    induction k with
    | zero =>
      intro d hd L
      have e : d = 4 := by omega
      subst e
      have h4 : (4 : Int32) ≤ nI 4 := by decide
      rw [s_X2_keysWantedAt_4]
      simp only [s_X2_keysWantedAt_0, s_X2_keysWantedAt_1, s_X2_keysWantedAt_2, s_X2_keysWantedAt_3, s_X2_keysWantedAt_5, s_X2_keysWantedAt_6, s_X2_keysWantedAt_9, s_X2_keysWantedAt_10, s_X2_keysWantedAt_13, s_X2_keysWantedAt_14, s_X2_keysWantedAt_15, s_X2_keysWantedAt_18, s_X2_keysWantedAt_20, s_X2_keysWantedAt_22, s_X2_keysWantedAt_23, s_X2_keysWantedAt_26, s_X2_keysWantedAt_27, s_X2_keysWantedAt_28, s_X2_keysWantedAt_30, s_X2_keysWantedAt_31, s_X2_keysWantedAt_32, s_X2_keysWantedAt_33, s_X2_keysWantedAt_36, s_X2_keysWantedAt_39, s_X2_keysWantedAt_40, aq_gI, aq_gL, aq_gA, aq_isA, aq_s1, aq_s2, aq_kill, aq_ob, aq_sm, aq_arI, aq_arB, aq_isB, aq_arL, aq_arA, aq_arN, aq_sh, Value.category, List.getElem?_cons_zero, List.getElem?_cons_succ, List.length_cons, List.length_nil, Option.toList_some, Option.toList_none, List.cons_append, List.nil_append, true_and, and_true, List.set_cons_zero, List.set_cons_succ, aq_n1, aq_n2, aq_n3, aq_n4, aq_f1, aq_f2, aq_f3, aq_f4, aq_gs, aq_ty1, aq_ty2, aq_ty3, aq_ty4, aq_ty5, Nat.reduceAdd, Nat.reduceLT, Nat.reduceEqDiff, Nat.reduceSub, if_true, if_false, ne_eq, not_false_eq_true, not_true_eq_false, Option.map_some, Option.map_none, Nat.zero_add, reduceCtorEq, Nat.reduceLeDiff, one_ne_zero_a, zero_ne_one_a, aq_nb, aq_nb1, aq_nb0, aq_fb, aq_fb1, aq_fb0, aq_ofN, bB_t, bB_f, bB_v, vpn_b1, vpn_b0, nI_1, Bool.true_eq_false, Bool.false_eq_true, Bool.true_and, Bool.false_and, Bool.and_true, Bool.and_false, h4, rd]
    | succ k ih =>
      intro d hd L
      have hd4 : d < 4 := by omega
      have h4 : ¬ (4 : Int32) ≤ nI d := by rw [nI_4]; exact nI_ge hd4 (by omega)
      have hnext := ih (d + 1) (by omega)
      rw [s_X2_keysWantedAt_4]
      simp only [s_X2_keysWantedAt_0, s_X2_keysWantedAt_1, s_X2_keysWantedAt_2, s_X2_keysWantedAt_3, s_X2_keysWantedAt_5, s_X2_keysWantedAt_6, s_X2_keysWantedAt_9, s_X2_keysWantedAt_10, s_X2_keysWantedAt_13, s_X2_keysWantedAt_14, s_X2_keysWantedAt_15, s_X2_keysWantedAt_18, s_X2_keysWantedAt_20, s_X2_keysWantedAt_22, s_X2_keysWantedAt_23, s_X2_keysWantedAt_26, s_X2_keysWantedAt_27, s_X2_keysWantedAt_28, s_X2_keysWantedAt_30, s_X2_keysWantedAt_31, s_X2_keysWantedAt_32, s_X2_keysWantedAt_33, s_X2_keysWantedAt_36, s_X2_keysWantedAt_39, s_X2_keysWantedAt_40, aq_gI, aq_gL, aq_gA, aq_isA, aq_s1, aq_s2, aq_kill, aq_ob, aq_sm, aq_arI, aq_arB, aq_isB, aq_arL, aq_arA, aq_arN, aq_sh, Value.category, List.getElem?_cons_zero, List.getElem?_cons_succ, List.length_cons, List.length_nil, Option.toList_some, Option.toList_none, List.cons_append, List.nil_append, true_and, and_true, List.set_cons_zero, List.set_cons_succ, aq_n1, aq_n2, aq_n3, aq_n4, aq_f1, aq_f2, aq_f3, aq_f4, aq_gs, aq_ty1, aq_ty2, aq_ty3, aq_ty4, aq_ty5, Nat.reduceAdd, Nat.reduceLT, Nat.reduceEqDiff, Nat.reduceSub, if_true, if_false, ne_eq, not_false_eq_true, not_true_eq_false, Option.map_some, Option.map_none, Nat.zero_add, reduceCtorEq, Nat.reduceLeDiff, one_ne_zero_a, zero_ne_one_a, aq_nb, aq_nb1, aq_nb0, aq_fb, aq_fb1, aq_fb0, aq_ofN, bB_t, bB_f, bB_v, vpn_b1, vpn_b0, nI_1, Bool.true_eq_false, Bool.false_eq_true, Bool.true_and, Bool.false_and, Bool.and_true, Bool.and_false, h4, K, M.1]
      refine (t_doorAhead B G M H hc hd4).use ?_
      rintro _ h ⟨rfl, rfl⟩
      rw [hgv]
      rw [show kwa gg (d + 1) = (match gg d with | none => kwa gg d | some k => kwa gg d ||| 1 <<< k) from rfl] at hnext
      cases e : gg d with
      | none =>
        simp only [e] at hnext
        simp only [s_X2_keysWantedAt_0, s_X2_keysWantedAt_1, s_X2_keysWantedAt_2, s_X2_keysWantedAt_3, s_X2_keysWantedAt_5, s_X2_keysWantedAt_6, s_X2_keysWantedAt_9, s_X2_keysWantedAt_10, s_X2_keysWantedAt_13, s_X2_keysWantedAt_14, s_X2_keysWantedAt_15, s_X2_keysWantedAt_18, s_X2_keysWantedAt_20, s_X2_keysWantedAt_22, s_X2_keysWantedAt_23, s_X2_keysWantedAt_26, s_X2_keysWantedAt_27, s_X2_keysWantedAt_28, s_X2_keysWantedAt_30, s_X2_keysWantedAt_31, s_X2_keysWantedAt_32, s_X2_keysWantedAt_33, s_X2_keysWantedAt_36, s_X2_keysWantedAt_39, s_X2_keysWantedAt_40, aq_gI, aq_gL, aq_gA, aq_isA, aq_s1, aq_s2, aq_kill, aq_ob, aq_sm, aq_arI, aq_arB, aq_isB, aq_arL, aq_arA, aq_arN, aq_sh, Value.category, List.getElem?_cons_zero, List.getElem?_cons_succ, List.length_cons, List.length_nil, Option.toList_some, Option.toList_none, List.cons_append, List.nil_append, true_and, and_true, List.set_cons_zero, List.set_cons_succ, aq_n1, aq_n2, aq_n3, aq_n4, aq_f1, aq_f2, aq_f3, aq_f4, aq_gs, aq_ty1, aq_ty2, aq_ty3, aq_ty4, aq_ty5, Nat.reduceAdd, Nat.reduceLT, Nat.reduceEqDiff, Nat.reduceSub, if_true, if_false, ne_eq, not_false_eq_true, not_true_eq_false, Option.map_some, Option.map_none, Nat.zero_add, reduceCtorEq, Nat.reduceLeDiff, one_ne_zero_a, zero_ne_one_a, aq_nb, aq_nb1, aq_nb0, aq_fb, aq_fb1, aq_fb0, aq_ofN, bB_t, bB_f, bB_v, vpn_b1, vpn_b0, nI_1, Bool.true_eq_false, Bool.false_eq_true, Bool.true_and, Bool.false_and, Bool.and_true, Bool.and_false, oI]
        exact hnext _
      | some j =>
        have hj := hg d j hd4 e
        simp only [e] at hnext
        simp only [s_X2_keysWantedAt_0, s_X2_keysWantedAt_1, s_X2_keysWantedAt_2, s_X2_keysWantedAt_3, s_X2_keysWantedAt_5, s_X2_keysWantedAt_6, s_X2_keysWantedAt_9, s_X2_keysWantedAt_10, s_X2_keysWantedAt_13, s_X2_keysWantedAt_14, s_X2_keysWantedAt_15, s_X2_keysWantedAt_18, s_X2_keysWantedAt_20, s_X2_keysWantedAt_22, s_X2_keysWantedAt_23, s_X2_keysWantedAt_26, s_X2_keysWantedAt_27, s_X2_keysWantedAt_28, s_X2_keysWantedAt_30, s_X2_keysWantedAt_31, s_X2_keysWantedAt_32, s_X2_keysWantedAt_33, s_X2_keysWantedAt_36, s_X2_keysWantedAt_39, s_X2_keysWantedAt_40, aq_gI, aq_gL, aq_gA, aq_isA, aq_s1, aq_s2, aq_kill, aq_ob, aq_sm, aq_arI, aq_arB, aq_isB, aq_arL, aq_arA, aq_arN, aq_sh, Value.category, List.getElem?_cons_zero, List.getElem?_cons_succ, List.length_cons, List.length_nil, Option.toList_some, Option.toList_none, List.cons_append, List.nil_append, true_and, and_true, List.set_cons_zero, List.set_cons_succ, aq_n1, aq_n2, aq_n3, aq_n4, aq_f1, aq_f2, aq_f3, aq_f4, aq_gs, aq_ty1, aq_ty2, aq_ty3, aq_ty4, aq_ty5, Nat.reduceAdd, Nat.reduceLT, Nat.reduceEqDiff, Nat.reduceSub, if_true, if_false, ne_eq, not_false_eq_true, not_true_eq_false, Option.map_some, Option.map_none, Nat.zero_add, reduceCtorEq, Nat.reduceLeDiff, one_ne_zero_a, zero_ne_one_a, aq_nb, aq_nb1, aq_nb0, aq_fb, aq_fb1, aq_fb0, aq_ofN, bB_t, bB_f, bB_v, vpn_b1, vpn_b0, nI_1, Bool.true_eq_false, Bool.false_eq_true, Bool.true_and, Bool.false_and, Bool.and_true, Bool.and_false, oI, nI_ne_m1 (show j < 2 ^ 31 by omega), shl_bit j hj, nI_or16 _ (kwa_lt hg d (by omega)) _ (bit_lt j hj)]
        exact hnext _
  simp only [s_X2_keysWantedAt_0, s_X2_keysWantedAt_1, s_X2_keysWantedAt_2, s_X2_keysWantedAt_3, s_X2_keysWantedAt_5, s_X2_keysWantedAt_6, s_X2_keysWantedAt_9, s_X2_keysWantedAt_10, s_X2_keysWantedAt_13, s_X2_keysWantedAt_14, s_X2_keysWantedAt_15, s_X2_keysWantedAt_18, s_X2_keysWantedAt_20, s_X2_keysWantedAt_22, s_X2_keysWantedAt_23, s_X2_keysWantedAt_26, s_X2_keysWantedAt_27, s_X2_keysWantedAt_28, s_X2_keysWantedAt_30, s_X2_keysWantedAt_31, s_X2_keysWantedAt_32, s_X2_keysWantedAt_33, s_X2_keysWantedAt_36, s_X2_keysWantedAt_39, s_X2_keysWantedAt_40, aq_gI, aq_gL, aq_gA, aq_isA, aq_s1, aq_s2, aq_kill, aq_ob, aq_sm, aq_arI, aq_arB, aq_isB, aq_arL, aq_arA, aq_arN, aq_sh, Value.category, List.getElem?_cons_zero, List.getElem?_cons_succ, List.length_cons, List.length_nil, Option.toList_some, Option.toList_none, List.cons_append, List.nil_append, true_and, and_true, List.set_cons_zero, List.set_cons_succ, aq_n1, aq_n2, aq_n3, aq_n4, aq_f1, aq_f2, aq_f3, aq_f4, aq_gs, aq_ty1, aq_ty2, aq_ty3, aq_ty4, aq_ty5, Nat.reduceAdd, Nat.reduceLT, Nat.reduceEqDiff, Nat.reduceSub, if_true, if_false, ne_eq, not_false_eq_true, not_true_eq_false, Option.map_some, Option.map_none, Nat.zero_add, reduceCtorEq, Nat.reduceLeDiff, one_ne_zero_a, zero_ne_one_a, aq_nb, aq_nb1, aq_nb0, aq_fb, aq_fb1, aq_fb0, aq_ofN, bB_t, bB_f, bB_v, vpn_b1, vpn_b0, nI_1, Bool.true_eq_false, Bool.false_eq_true, Bool.true_and, Bool.false_and, Bool.and_true, Bool.and_false]
  exact one 4 0 rfl _
theorem t_leastKeyWanted (K : iKp h) (F : iFl h (w * ht) re qu ct) (g : gFl (w * ht) u q re qu ct) (B : iBd h w ht cut bes lead pas fr) (G : gBd w ht wx wy cb cut bes lead pas fr) (M : iMz h (w * ht * 2) op dk od kc st ex ch) (H : gMz (w * ht * 2) ob dr on ky op dk od kc) {put : Nat} (hp : put < 16) : aq_T e_X2_leastKeyWanted 4 0 0 [.ref 40, .int (nI put)] h (rd (oI (lop (fun k => wkB (w * ht) (fun c => !u c) (fun c d => (wkp w ht wx wy cb ob on c d).bind dr) k && !put.testBit k) 4 0)) h) := by
  have hn := wh_lt G.1
  have hg : ∀ c d k, c < w * ht → d < 4 → (wkp w ht wx wy cb ob on c d).bind dr = some k → k < 4 := by
    intro c d k hc hd e
    cases hp : wkp w ht wx wy cb ob on c d with
    | none => rw [hp] at e; cases e
    | some p => rw [hp] at e; exact (H.2.1 p (wkp_lt G.1 hc hd hp)).2 k e
  have k0 := K
  unfold iKp at K
  generalize hgg : (fun c d => (wkp w ht wx wy cb ob on c d).bind dr) = gg at *
  have hgv : ∀ c, (fun d => (wkp w ht wx wy cb ob on c d).bind dr) = gg c := fun c => by rw [← hgg]
  have hgv2 : ∀ c d, (wkp w ht wx wy cb ob on c d).bind dr = gg c d := fun c d => by rw [← hgg]
  simp only [hgv2] at hg
  have hml := mwa_lt (b := fun c => !u c) hg (w * ht) (Nat.le_refl _)
  have e1 : lop (fun k => wkB (w * ht) (fun c => !u c) gg k && !put.testBit k) 4 0 = lob (anb (mwa (fun c => !u c) gg (w * ht)) put) 4 0 := by
    refine (lob_lop 4 0 (fun j h1 h2 => ?_)).symm
    rw [anb_b _ hml put hp j (by omega)]
    congr 1
    rw [Bool.eq_iff_iff, mwa_bit hg (w * ht) (Nat.le_refl _) j (by omega), wkB_iff]
  rw [e1]
  refine ⟨Nat.le_of_ble_eq_true rfl, ?_⟩
  show aq_W _ _ 0 [some (.ref 40), some (.int (nI put)), none, none] [] _ _ _
  have one : ∀ (k c : Nat), c + k = w * ht → aq_W e_X2_leastKeyWanted (rd (oI (lob (anb (mwa (fun c => !u c) gg (w * ht)) put) 4 0)) h) 4 [some (.ref 40), some (.int (nI put)), some (.int (nI (mwa (fun c => !u c) gg c))), some (.int (nI c))] [] h 0 0 := by
    intro k
    induction k with
    | zero =>
      intro c hc
      have e : c = w * ht := by omega
      subst e
      rw [s_X2_leastKeyWanted_4]
      simp only [s_X2_leastKeyWanted_0, s_X2_leastKeyWanted_1, s_X2_leastKeyWanted_2, s_X2_leastKeyWanted_3, s_X2_leastKeyWanted_5, s_X2_leastKeyWanted_6, s_X2_leastKeyWanted_9, s_X2_leastKeyWanted_12, s_X2_leastKeyWanted_15, s_X2_leastKeyWanted_16, s_X2_leastKeyWanted_19, s_X2_leastKeyWanted_20, s_X2_leastKeyWanted_23, s_X2_leastKeyWanted_26, s_X2_leastKeyWanted_27, s_X2_leastKeyWanted_28, s_X2_leastKeyWanted_29, s_X2_leastKeyWanted_32, s_X2_leastKeyWanted_33, s_X2_leastKeyWanted_34, s_X2_leastKeyWanted_37, s_X2_leastKeyWanted_40, s_X2_leastKeyWanted_41, s_X2_leastKeyWanted_42, s_X2_leastKeyWanted_43, s_X2_leastKeyWanted_44, s_X2_leastKeyWanted_45, s_X2_leastKeyWanted_48, aq_gI, aq_gL, aq_gA, aq_isA, aq_s1, aq_s2, aq_kill, aq_ob, aq_sm, aq_arI, aq_arB, aq_isB, aq_arL, aq_arA, aq_arN, aq_sh, Value.category, List.getElem?_cons_zero, List.getElem?_cons_succ, List.length_cons, List.length_nil, Option.toList_some, Option.toList_none, List.cons_append, List.nil_append, true_and, and_true, List.set_cons_zero, List.set_cons_succ, aq_n1, aq_n2, aq_n3, aq_n4, aq_f1, aq_f2, aq_f3, aq_f4, aq_gs, aq_ty1, aq_ty2, aq_ty3, aq_ty4, aq_ty5, Nat.reduceAdd, Nat.reduceLT, Nat.reduceEqDiff, Nat.reduceSub, if_true, if_false, ne_eq, not_false_eq_true, not_true_eq_false, Option.map_some, Option.map_none, Nat.zero_add, reduceCtorEq, Nat.reduceLeDiff, one_ne_zero_a, zero_ne_one_a, aq_nb, aq_nb1, aq_nb0, aq_fb, aq_fb1, aq_fb0, aq_ofN, bB_t, bB_f, bB_v, vpn_b1, vpn_b0, nI_1, Bool.true_eq_false, Bool.false_eq_true, Bool.true_and, Bool.false_and, Bool.and_true, Bool.and_false, K, B.1]
      refine (t_cells B).use ?_
      rintro _ h ⟨rfl, rfl⟩
      simp only [s_X2_leastKeyWanted_0, s_X2_leastKeyWanted_1, s_X2_leastKeyWanted_2, s_X2_leastKeyWanted_3, s_X2_leastKeyWanted_5, s_X2_leastKeyWanted_6, s_X2_leastKeyWanted_9, s_X2_leastKeyWanted_12, s_X2_leastKeyWanted_15, s_X2_leastKeyWanted_16, s_X2_leastKeyWanted_19, s_X2_leastKeyWanted_20, s_X2_leastKeyWanted_23, s_X2_leastKeyWanted_26, s_X2_leastKeyWanted_27, s_X2_leastKeyWanted_28, s_X2_leastKeyWanted_29, s_X2_leastKeyWanted_32, s_X2_leastKeyWanted_33, s_X2_leastKeyWanted_34, s_X2_leastKeyWanted_37, s_X2_leastKeyWanted_40, s_X2_leastKeyWanted_41, s_X2_leastKeyWanted_42, s_X2_leastKeyWanted_43, s_X2_leastKeyWanted_44, s_X2_leastKeyWanted_45, s_X2_leastKeyWanted_48, aq_gI, aq_gL, aq_gA, aq_isA, aq_s1, aq_s2, aq_kill, aq_ob, aq_sm, aq_arI, aq_arB, aq_isB, aq_arL, aq_arA, aq_arN, aq_sh, Value.category, List.getElem?_cons_zero, List.getElem?_cons_succ, List.length_cons, List.length_nil, Option.toList_some, Option.toList_none, List.cons_append, List.nil_append, true_and, and_true, List.set_cons_zero, List.set_cons_succ, aq_n1, aq_n2, aq_n3, aq_n4, aq_f1, aq_f2, aq_f3, aq_f4, aq_gs, aq_ty1, aq_ty2, aq_ty3, aq_ty4, aq_ty5, Nat.reduceAdd, Nat.reduceLT, Nat.reduceEqDiff, Nat.reduceSub, if_true, if_false, ne_eq, not_false_eq_true, not_true_eq_false, Option.map_some, Option.map_none, Nat.zero_add, reduceCtorEq, Nat.reduceLeDiff, one_ne_zero_a, zero_ne_one_a, aq_nb, aq_nb1, aq_nb0, aq_fb, aq_fb1, aq_fb0, aq_ofN, bB_t, bB_f, bB_v, vpn_b1, vpn_b0, nI_1, Bool.true_eq_false, Bool.false_eq_true, Bool.true_and, Bool.false_and, Bool.and_true, Bool.and_false, nI_le (Nat.le_refl (w * ht)) (show w * ht < 2 ^ 31 by omega), anb_I _ hml put hp]
      refine (t_lowestKey (anb_lt _ hml put hp)).use ?_
      rintro _ h ⟨rfl, rfl⟩
      simp only [s_X2_leastKeyWanted_0, s_X2_leastKeyWanted_1, s_X2_leastKeyWanted_2, s_X2_leastKeyWanted_3, s_X2_leastKeyWanted_5, s_X2_leastKeyWanted_6, s_X2_leastKeyWanted_9, s_X2_leastKeyWanted_12, s_X2_leastKeyWanted_15, s_X2_leastKeyWanted_16, s_X2_leastKeyWanted_19, s_X2_leastKeyWanted_20, s_X2_leastKeyWanted_23, s_X2_leastKeyWanted_26, s_X2_leastKeyWanted_27, s_X2_leastKeyWanted_28, s_X2_leastKeyWanted_29, s_X2_leastKeyWanted_32, s_X2_leastKeyWanted_33, s_X2_leastKeyWanted_34, s_X2_leastKeyWanted_37, s_X2_leastKeyWanted_40, s_X2_leastKeyWanted_41, s_X2_leastKeyWanted_42, s_X2_leastKeyWanted_43, s_X2_leastKeyWanted_44, s_X2_leastKeyWanted_45, s_X2_leastKeyWanted_48, aq_gI, aq_gL, aq_gA, aq_isA, aq_s1, aq_s2, aq_kill, aq_ob, aq_sm, aq_arI, aq_arB, aq_isB, aq_arL, aq_arA, aq_arN, aq_sh, Value.category, List.getElem?_cons_zero, List.getElem?_cons_succ, List.length_cons, List.length_nil, Option.toList_some, Option.toList_none, List.cons_append, List.nil_append, true_and, and_true, List.set_cons_zero, List.set_cons_succ, aq_n1, aq_n2, aq_n3, aq_n4, aq_f1, aq_f2, aq_f3, aq_f4, aq_gs, aq_ty1, aq_ty2, aq_ty3, aq_ty4, aq_ty5, Nat.reduceAdd, Nat.reduceLT, Nat.reduceEqDiff, Nat.reduceSub, if_true, if_false, ne_eq, not_false_eq_true, not_true_eq_false, Option.map_some, Option.map_none, Nat.zero_add, reduceCtorEq, Nat.reduceLeDiff, one_ne_zero_a, zero_ne_one_a, aq_nb, aq_nb1, aq_nb0, aq_fb, aq_fb1, aq_fb0, aq_ofN, bB_t, bB_f, bB_v, vpn_b1, vpn_b0, nI_1, Bool.true_eq_false, Bool.false_eq_true, Bool.true_and, Bool.false_and, Bool.and_true, Bool.and_false, rd]
    | succ k ih =>
      intro c hc
      have hc2 : c < w * ht := by omega
      have hnext := ih (c + 1) (by omega)
      rw [s_X2_leastKeyWanted_4]
      simp only [s_X2_leastKeyWanted_0, s_X2_leastKeyWanted_1, s_X2_leastKeyWanted_2, s_X2_leastKeyWanted_3, s_X2_leastKeyWanted_5, s_X2_leastKeyWanted_6, s_X2_leastKeyWanted_9, s_X2_leastKeyWanted_12, s_X2_leastKeyWanted_15, s_X2_leastKeyWanted_16, s_X2_leastKeyWanted_19, s_X2_leastKeyWanted_20, s_X2_leastKeyWanted_23, s_X2_leastKeyWanted_26, s_X2_leastKeyWanted_27, s_X2_leastKeyWanted_28, s_X2_leastKeyWanted_29, s_X2_leastKeyWanted_32, s_X2_leastKeyWanted_33, s_X2_leastKeyWanted_34, s_X2_leastKeyWanted_37, s_X2_leastKeyWanted_40, s_X2_leastKeyWanted_41, s_X2_leastKeyWanted_42, s_X2_leastKeyWanted_43, s_X2_leastKeyWanted_44, s_X2_leastKeyWanted_45, s_X2_leastKeyWanted_48, aq_gI, aq_gL, aq_gA, aq_isA, aq_s1, aq_s2, aq_kill, aq_ob, aq_sm, aq_arI, aq_arB, aq_isB, aq_arL, aq_arA, aq_arN, aq_sh, Value.category, List.getElem?_cons_zero, List.getElem?_cons_succ, List.length_cons, List.length_nil, Option.toList_some, Option.toList_none, List.cons_append, List.nil_append, true_and, and_true, List.set_cons_zero, List.set_cons_succ, aq_n1, aq_n2, aq_n3, aq_n4, aq_f1, aq_f2, aq_f3, aq_f4, aq_gs, aq_ty1, aq_ty2, aq_ty3, aq_ty4, aq_ty5, Nat.reduceAdd, Nat.reduceLT, Nat.reduceEqDiff, Nat.reduceSub, if_true, if_false, ne_eq, not_false_eq_true, not_true_eq_false, Option.map_some, Option.map_none, Nat.zero_add, reduceCtorEq, Nat.reduceLeDiff, one_ne_zero_a, zero_ne_one_a, aq_nb, aq_nb1, aq_nb0, aq_fb, aq_fb1, aq_fb0, aq_ofN, bB_t, bB_f, bB_v, vpn_b1, vpn_b0, nI_1, Bool.true_eq_false, Bool.false_eq_true, Bool.true_and, Bool.false_and, Bool.and_true, Bool.and_false, K, B.1]
      refine (t_cells B).use ?_
      rintro _ h ⟨rfl, rfl⟩
      simp only [s_X2_leastKeyWanted_0, s_X2_leastKeyWanted_1, s_X2_leastKeyWanted_2, s_X2_leastKeyWanted_3, s_X2_leastKeyWanted_5, s_X2_leastKeyWanted_6, s_X2_leastKeyWanted_9, s_X2_leastKeyWanted_12, s_X2_leastKeyWanted_15, s_X2_leastKeyWanted_16, s_X2_leastKeyWanted_19, s_X2_leastKeyWanted_20, s_X2_leastKeyWanted_23, s_X2_leastKeyWanted_26, s_X2_leastKeyWanted_27, s_X2_leastKeyWanted_28, s_X2_leastKeyWanted_29, s_X2_leastKeyWanted_32, s_X2_leastKeyWanted_33, s_X2_leastKeyWanted_34, s_X2_leastKeyWanted_37, s_X2_leastKeyWanted_40, s_X2_leastKeyWanted_41, s_X2_leastKeyWanted_42, s_X2_leastKeyWanted_43, s_X2_leastKeyWanted_44, s_X2_leastKeyWanted_45, s_X2_leastKeyWanted_48, aq_gI, aq_gL, aq_gA, aq_isA, aq_s1, aq_s2, aq_kill, aq_ob, aq_sm, aq_arI, aq_arB, aq_isB, aq_arL, aq_arA, aq_arN, aq_sh, Value.category, List.getElem?_cons_zero, List.getElem?_cons_succ, List.length_cons, List.length_nil, Option.toList_some, Option.toList_none, List.cons_append, List.nil_append, true_and, and_true, List.set_cons_zero, List.set_cons_succ, aq_n1, aq_n2, aq_n3, aq_n4, aq_f1, aq_f2, aq_f3, aq_f4, aq_gs, aq_ty1, aq_ty2, aq_ty3, aq_ty4, aq_ty5, Nat.reduceAdd, Nat.reduceLT, Nat.reduceEqDiff, Nat.reduceSub, if_true, if_false, ne_eq, not_false_eq_true, not_true_eq_false, Option.map_some, Option.map_none, Nat.zero_add, reduceCtorEq, Nat.reduceLeDiff, one_ne_zero_a, zero_ne_one_a, aq_nb, aq_nb1, aq_nb0, aq_fb, aq_fb1, aq_fb0, aq_ofN, bB_t, bB_f, bB_v, vpn_b1, vpn_b0, nI_1, Bool.true_eq_false, Bool.false_eq_true, Bool.true_and, Bool.false_and, Bool.and_true, Bool.and_false, nI_ge hc2 (show w * ht < 2 ^ 31 by omega), K, F.1]
      refine (t_flHas F g B G hc2).use ?_
      rintro _ h ⟨rfl, rfl⟩
      rw [show mwa (fun c => !u c) gg (c + 1) = (if (!u c) = true then mwa (fun c => !u c) gg c ||| kwa (gg c) 4 else mwa (fun c => !u c) gg c) from rfl] at hnext
      cases e : u c with
      | true =>
        simp only [e, Bool.not_true, Bool.false_eq_true, if_false] at hnext
        simp only [s_X2_leastKeyWanted_0, s_X2_leastKeyWanted_1, s_X2_leastKeyWanted_2, s_X2_leastKeyWanted_3, s_X2_leastKeyWanted_5, s_X2_leastKeyWanted_6, s_X2_leastKeyWanted_9, s_X2_leastKeyWanted_12, s_X2_leastKeyWanted_15, s_X2_leastKeyWanted_16, s_X2_leastKeyWanted_19, s_X2_leastKeyWanted_20, s_X2_leastKeyWanted_23, s_X2_leastKeyWanted_26, s_X2_leastKeyWanted_27, s_X2_leastKeyWanted_28, s_X2_leastKeyWanted_29, s_X2_leastKeyWanted_32, s_X2_leastKeyWanted_33, s_X2_leastKeyWanted_34, s_X2_leastKeyWanted_37, s_X2_leastKeyWanted_40, s_X2_leastKeyWanted_41, s_X2_leastKeyWanted_42, s_X2_leastKeyWanted_43, s_X2_leastKeyWanted_44, s_X2_leastKeyWanted_45, s_X2_leastKeyWanted_48, aq_gI, aq_gL, aq_gA, aq_isA, aq_s1, aq_s2, aq_kill, aq_ob, aq_sm, aq_arI, aq_arB, aq_isB, aq_arL, aq_arA, aq_arN, aq_sh, Value.category, List.getElem?_cons_zero, List.getElem?_cons_succ, List.length_cons, List.length_nil, Option.toList_some, Option.toList_none, List.cons_append, List.nil_append, true_and, and_true, List.set_cons_zero, List.set_cons_succ, aq_n1, aq_n2, aq_n3, aq_n4, aq_f1, aq_f2, aq_f3, aq_f4, aq_gs, aq_ty1, aq_ty2, aq_ty3, aq_ty4, aq_ty5, Nat.reduceAdd, Nat.reduceLT, Nat.reduceEqDiff, Nat.reduceSub, if_true, if_false, ne_eq, not_false_eq_true, not_true_eq_false, Option.map_some, Option.map_none, Nat.zero_add, reduceCtorEq, Nat.reduceLeDiff, one_ne_zero_a, zero_ne_one_a, aq_nb, aq_nb1, aq_nb0, aq_fb, aq_fb1, aq_fb0, aq_ofN, bB_t, bB_f, bB_v, vpn_b1, vpn_b0, nI_1, Bool.true_eq_false, Bool.false_eq_true, Bool.true_and, Bool.false_and, Bool.and_true, Bool.and_false, Bool.not_true]
        exact hnext
      | false =>
        simp only [e, Bool.not_false, if_true] at hnext
        simp only [s_X2_leastKeyWanted_0, s_X2_leastKeyWanted_1, s_X2_leastKeyWanted_2, s_X2_leastKeyWanted_3, s_X2_leastKeyWanted_5, s_X2_leastKeyWanted_6, s_X2_leastKeyWanted_9, s_X2_leastKeyWanted_12, s_X2_leastKeyWanted_15, s_X2_leastKeyWanted_16, s_X2_leastKeyWanted_19, s_X2_leastKeyWanted_20, s_X2_leastKeyWanted_23, s_X2_leastKeyWanted_26, s_X2_leastKeyWanted_27, s_X2_leastKeyWanted_28, s_X2_leastKeyWanted_29, s_X2_leastKeyWanted_32, s_X2_leastKeyWanted_33, s_X2_leastKeyWanted_34, s_X2_leastKeyWanted_37, s_X2_leastKeyWanted_40, s_X2_leastKeyWanted_41, s_X2_leastKeyWanted_42, s_X2_leastKeyWanted_43, s_X2_leastKeyWanted_44, s_X2_leastKeyWanted_45, s_X2_leastKeyWanted_48, aq_gI, aq_gL, aq_gA, aq_isA, aq_s1, aq_s2, aq_kill, aq_ob, aq_sm, aq_arI, aq_arB, aq_isB, aq_arL, aq_arA, aq_arN, aq_sh, Value.category, List.getElem?_cons_zero, List.getElem?_cons_succ, List.length_cons, List.length_nil, Option.toList_some, Option.toList_none, List.cons_append, List.nil_append, true_and, and_true, List.set_cons_zero, List.set_cons_succ, aq_n1, aq_n2, aq_n3, aq_n4, aq_f1, aq_f2, aq_f3, aq_f4, aq_gs, aq_ty1, aq_ty2, aq_ty3, aq_ty4, aq_ty5, Nat.reduceAdd, Nat.reduceLT, Nat.reduceEqDiff, Nat.reduceSub, if_true, if_false, ne_eq, not_false_eq_true, not_true_eq_false, Option.map_some, Option.map_none, Nat.zero_add, reduceCtorEq, Nat.reduceLeDiff, one_ne_zero_a, zero_ne_one_a, aq_nb, aq_nb1, aq_nb0, aq_fb, aq_fb1, aq_fb0, aq_ofN, bB_t, bB_f, bB_v, vpn_b1, vpn_b0, nI_1, Bool.true_eq_false, Bool.false_eq_true, Bool.true_and, Bool.false_and, Bool.and_true, Bool.and_false, Bool.not_false, K]
        refine (t_keysWantedAt k0 B G M H hc2).use ?_
        rintro _ h ⟨rfl, rfl⟩
        rw [hgv]
        simp only [s_X2_leastKeyWanted_0, s_X2_leastKeyWanted_1, s_X2_leastKeyWanted_2, s_X2_leastKeyWanted_3, s_X2_leastKeyWanted_5, s_X2_leastKeyWanted_6, s_X2_leastKeyWanted_9, s_X2_leastKeyWanted_12, s_X2_leastKeyWanted_15, s_X2_leastKeyWanted_16, s_X2_leastKeyWanted_19, s_X2_leastKeyWanted_20, s_X2_leastKeyWanted_23, s_X2_leastKeyWanted_26, s_X2_leastKeyWanted_27, s_X2_leastKeyWanted_28, s_X2_leastKeyWanted_29, s_X2_leastKeyWanted_32, s_X2_leastKeyWanted_33, s_X2_leastKeyWanted_34, s_X2_leastKeyWanted_37, s_X2_leastKeyWanted_40, s_X2_leastKeyWanted_41, s_X2_leastKeyWanted_42, s_X2_leastKeyWanted_43, s_X2_leastKeyWanted_44, s_X2_leastKeyWanted_45, s_X2_leastKeyWanted_48, aq_gI, aq_gL, aq_gA, aq_isA, aq_s1, aq_s2, aq_kill, aq_ob, aq_sm, aq_arI, aq_arB, aq_isB, aq_arL, aq_arA, aq_arN, aq_sh, Value.category, List.getElem?_cons_zero, List.getElem?_cons_succ, List.length_cons, List.length_nil, Option.toList_some, Option.toList_none, List.cons_append, List.nil_append, true_and, and_true, List.set_cons_zero, List.set_cons_succ, aq_n1, aq_n2, aq_n3, aq_n4, aq_f1, aq_f2, aq_f3, aq_f4, aq_gs, aq_ty1, aq_ty2, aq_ty3, aq_ty4, aq_ty5, Nat.reduceAdd, Nat.reduceLT, Nat.reduceEqDiff, Nat.reduceSub, if_true, if_false, ne_eq, not_false_eq_true, not_true_eq_false, Option.map_some, Option.map_none, Nat.zero_add, reduceCtorEq, Nat.reduceLeDiff, one_ne_zero_a, zero_ne_one_a, aq_nb, aq_nb1, aq_nb0, aq_fb, aq_fb1, aq_fb0, aq_ofN, bB_t, bB_f, bB_v, vpn_b1, vpn_b0, nI_1, Bool.true_eq_false, Bool.false_eq_true, Bool.true_and, Bool.false_and, Bool.and_true, Bool.and_false, nI_or16 _ (mwa_lt (b := fun c => !u c) hg c (by omega)) _ (kwa_lt (fun d k => hg c d k hc2) 4 (Nat.le_refl _))]
        exact hnext
  simp only [s_X2_leastKeyWanted_0, s_X2_leastKeyWanted_1, s_X2_leastKeyWanted_2, s_X2_leastKeyWanted_3, s_X2_leastKeyWanted_5, s_X2_leastKeyWanted_6, s_X2_leastKeyWanted_9, s_X2_leastKeyWanted_12, s_X2_leastKeyWanted_15, s_X2_leastKeyWanted_16, s_X2_leastKeyWanted_19, s_X2_leastKeyWanted_20, s_X2_leastKeyWanted_23, s_X2_leastKeyWanted_26, s_X2_leastKeyWanted_27, s_X2_leastKeyWanted_28, s_X2_leastKeyWanted_29, s_X2_leastKeyWanted_32, s_X2_leastKeyWanted_33, s_X2_leastKeyWanted_34, s_X2_leastKeyWanted_37, s_X2_leastKeyWanted_40, s_X2_leastKeyWanted_41, s_X2_leastKeyWanted_42, s_X2_leastKeyWanted_43, s_X2_leastKeyWanted_44, s_X2_leastKeyWanted_45, s_X2_leastKeyWanted_48, aq_gI, aq_gL, aq_gA, aq_isA, aq_s1, aq_s2, aq_kill, aq_ob, aq_sm, aq_arI, aq_arB, aq_isB, aq_arL, aq_arA, aq_arN, aq_sh, Value.category, List.getElem?_cons_zero, List.getElem?_cons_succ, List.length_cons, List.length_nil, Option.toList_some, Option.toList_none, List.cons_append, List.nil_append, true_and, and_true, List.set_cons_zero, List.set_cons_succ, aq_n1, aq_n2, aq_n3, aq_n4, aq_f1, aq_f2, aq_f3, aq_f4, aq_gs, aq_ty1, aq_ty2, aq_ty3, aq_ty4, aq_ty5, Nat.reduceAdd, Nat.reduceLT, Nat.reduceEqDiff, Nat.reduceSub, if_true, if_false, ne_eq, not_false_eq_true, not_true_eq_false, Option.map_some, Option.map_none, Nat.zero_add, reduceCtorEq, Nat.reduceLeDiff, one_ne_zero_a, zero_ne_one_a, aq_nb, aq_nb1, aq_nb0, aq_fb, aq_fb1, aq_fb0, aq_ofN, bB_t, bB_f, bB_v, vpn_b1, vpn_b0, nI_1, Bool.true_eq_false, Bool.false_eq_true, Bool.true_and, Bool.false_and, Bool.and_true, Bool.and_false]
  exact one (w * ht) 0 (Nat.zero_add _)
end KPS
