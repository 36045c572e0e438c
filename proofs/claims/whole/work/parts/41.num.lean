/-! numbers -/
def oI : Option Nat → Int32
  | none => -1
  | some m => nI m
theorem nI_ne_m1 {m : Nat} (h : m < 2 ^ 31) : ¬ nI m = -1 := by
  intro e
  have h1 := nI_toInt h
  rw [e] at h1
  have h2 : (-1 : Int32).toInt = -1 := by decide
  omega
theorem oI_eq {o : Option Nat} (h : ∀ m, o = some m → m < 2 ^ 31) : oI o = -1 ↔ o = none := by
  cases o with
  | none => simp [oI]
  | some m => simp only [oI, reduceCtorEq, iff_false]; exact nI_ne_m1 (h m rfl)
theorem nI_4 : (4 : Int32) = nI 4 := by decide
theorem nI_2 : (2 : Int32) = nI 2 := by decide
theorem nI_3 : (3 : Int32) = nI 3 := by decide
theorem nI_one : (1 : Int32) = nI 1 := by decide
theorem nI_16 : (16 : Int32) = nI 16 := by decide
theorem nI_12 : (12 : Int32) = nI 12 := by decide
theorem nI_c4 (c d : Nat) : nI c * 4 + nI d = nI (c * 4 + d) := by rw [nI_4, pk_mul, nI_add]
theorem nI_4c (c d : Nat) : 4 * nI c + nI d = nI (4 * c + d) := by rw [nI_4, pk_mul, nI_add]
theorem nI_16c (c d : Nat) : 16 * nI c + nI d = nI (16 * c + d) := by rw [nI_16, pk_mul, nI_add]
theorem nI_c2 (c : Nat) : nI c * 2 = nI (c * 2) := by rw [nI_2, pk_mul]
/-- an int is out of 0 .. n - 1, or one of them -/
theorem ix_c (x : Int32) {n : Nat} (hn : n < 2 ^ 31) : (¬ (0 ≤ x ∧ x < nI n)) ∨ ∃ j : Nat, j < n ∧ x = nI j := by
  rcases pk_ix x hn with h | h | h
  · exact Or.inl (fun q => absurd h (by rw [Int32.not_lt]; exact q.1))
  · exact Or.inl (fun q => absurd q.2 (by rw [Int32.not_lt]; exact h))
  · exact Or.inr h
theorem ix_in {j n : Nat} (h : j < n) (hn : n < 2 ^ 31) : 0 ≤ nI j ∧ nI j < nI n := ⟨nI_pos' (by omega), nI_lt h hn⟩
theorem nlt0 {x : Int32} (h : ¬ x < 0) : 0 ≤ x := Int32.not_lt.mp h
theorem nle_lt {x y : Int32} (h : ¬ x ≤ y) : y < x := Int32.not_le.mp h
theorem vpn_b (p : Prop) [Decidable p] : vp_nar .boolean (bI p) = bI p := by
  unfold vp_nar
  rw [bI_n]
theorem vpn_b1 : vp_nar .boolean 1 = 1 := rfl
theorem vpn_b0 : vp_nar .boolean 0 = 0 := rfl
theorem upd_s (f : Nat → Int32) (k : Nat) (x : Int32) : upd f k x k = x := by simp [upd]
theorem upd_n (f : Nat → Int32) {k j : Nat} (x : Int32) (h : j ≠ k) : upd f k x j = f j := by simp [upd, h]
/-- the answer of a reading method -/
def rd (v : Int32) (h : aq_H) : Option Value → aq_H → Prop := fun r h' => r = some (.int v) ∧ h' = h
def wr (h0 : aq_H) : Option Value → aq_H → Prop := fun r h' => r = none ∧ h' = h0
def bB (b : Bool) : Int32 := if b then 1 else 0
theorem bB_n (b : Bool) : narrow .boolean (.int (bB b)) = .int (bB b) := by cases b <;> rfl
theorem bB_v (b : Bool) : vp_nar .boolean (bB b) = bB b := by cases b <;> rfl
theorem bB_0 (b : Bool) : bB b = 0 ↔ b = false := by cases b <;> simp [bB]
theorem bB_1 (b : Bool) : bB b = 1 ↔ b = true := by cases b <;> simp [bB]
theorem bB_ne (b : Bool) : ¬ bB b = 0 ↔ b = true := by cases b <;> simp [bB]
theorem bB_eq (a b : Bool) : bB a = bB b ↔ a = b := by cases a <;> cases b <;> simp [bB]
theorem bB_t : bB true = 1 := rfl
theorem bB_f : bB false = 0 := rfl
/-! the board's geometry -/
def nb (w ht : Nat) (wx wy : Bool) (c d : Nat) : Option Nat :=
  if d = 0 then (if 0 < c / w then some (c - w) else if wy = true ∧ ht ≠ 1 then some (c + w * ht - w) else none)
  else if d = 1 then (if c % w + 1 < w then some (c + 1) else if wx = true ∧ w ≠ 1 then some (c + 1 - w) else none)
  else if d = 2 then (if c / w + 1 < ht then some (c + w) else if wy = true ∧ ht ≠ 1 then some (c + w - w * ht) else none)
  else if d = 3 then (if 0 < c % w then some (c - 1) else if wx = true ∧ w ≠ 1 then some (c + w - 1) else none)
  else none
def nb_ck (w ht : Nat) (wx wy : Bool) (c d : Nat) : Bool := match nb w ht wx wy c d with
  | none => true
  | some m => decide (m < w * ht) && (decide (m ≠ c) && decide (nb w ht wx wy m ((d + 2) % 4) = some c))
theorem nb_all : ∀ w, w < 13 → ∀ ht, ht < 13 → ∀ c, c < w * ht → ∀ d, d < 4 → (nb_ck w ht false false c d && (nb_ck w ht true false c d && (nb_ck w ht false true c d && nb_ck w ht true true c d))) = true := by decide +kernel
theorem nb_ok {w ht c d m : Nat} {wx wy : Bool} (hw : w < 13) (hh : ht < 13) (hc : c < w * ht) (hd : d < 4) (h : nb w ht wx wy c d = some m) : m < w * ht ∧ m ≠ c ∧ nb w ht wx wy m ((d + 2) % 4) = some c := by
  have h1 := nb_all w hw ht hh c hc d hd
  simp only [Bool.and_eq_true] at h1
  have h2 : nb_ck w ht wx wy c d = true := by
    cases wx <;> cases wy
    · exact h1.1
    · exact h1.2.2.1
    · exact h1.2.1
    · exact h1.2.2.2
  unfold nb_ck at h2
  rw [h] at h2
  simpa using h2
/-- the ways: neighbours that are not cut -/
def nx (w ht : Nat) (wx wy : Bool) (cb : Nat → Bool) (c d : Nat) : Option Nat := if cb c = true then none else match nb w ht wx wy c d with
  | none => none
  | some m => if cb m = true then none else some m
theorem nx_some {w ht : Nat} {wx wy : Bool} {cb : Nat → Bool} {c d m : Nat} : nx w ht wx wy cb c d = some m ↔ cb c = false ∧ nb w ht wx wy c d = some m ∧ cb m = false := by
  unfold nx
  cases h1 : cb c with
  | true => simp
  | false =>
    simp only [Bool.false_eq_true, if_false, true_and]
    cases h2 : nb w ht wx wy c d with
    | none => simp
    | some k =>
      simp only []
      cases h3 : cb k with
      | true => simp; intro e; subst e; simp [h3]
      | false => simp; intro e; subst e; exact h3
theorem nx_ok {w ht c d m : Nat} {wx wy : Bool} {cb : Nat → Bool} (hw : w < 13) (hh : ht < 13) (hc : c < w * ht) (hd : d < 4) (h : nx w ht wx wy cb c d = some m) : m < w * ht ∧ m ≠ c ∧ cb c = false ∧ cb m = false ∧ nx w ht wx wy cb m ((d + 2) % 4) = some c := by
  obtain ⟨h1, h2, h3⟩ := nx_some.mp h
  obtain ⟨h4, h5, h6⟩ := nb_ok hw hh hc hd h2
  exact ⟨h4, h5, h1, h3, nx_some.mpr ⟨h3, h6, h1⟩⟩
/-- the number of a passage -/
def pn (c d m : Nat) : Nat := if d = 1 then c * 2 else if d = 2 then c * 2 + 1 else if d = 3 then m * 2 else m * 2 + 1
theorem pn_inj {w ht c d m c' d' m' : Nat} {wx wy : Bool} {cb : Nat → Bool} (hw : w < 13) (hh : ht < 13) (hc : c < w * ht) (hd : d < 4) (h : nx w ht wx wy cb c d = some m) (hc' : c' < w * ht) (hd' : d' < 4) (h' : nx w ht wx wy cb c' d' = some m') (e : pn c d m = pn c' d' m') : (c' = c ∧ d' = d ∧ m' = m) ∨ (c' = m ∧ d' = (d + 2) % 4 ∧ m' = c) := by
  obtain ⟨-, -, -, -, b1⟩ := nx_ok hw hh hc hd h
  obtain ⟨-, -, -, -, b2⟩ := nx_ok hw hh hc' hd' h'
  have d1 : d = 0 ∨ d = 1 ∨ d = 2 ∨ d = 3 := by omega
  have d2 : d' = 0 ∨ d' = 1 ∨ d' = 2 ∨ d' = 3 := by omega
  have key : ∀ a : Nat, ∀ x y : Nat, nx w ht wx wy cb a x = some c → nx w ht wx wy cb a y = some c' → x = y → c = c' := by
    intro a x y p q e
    subst e
    rw [p] at q
    exact Option.some.inj q
  rcases d1 with rfl | rfl | rfl | rfl <;> rcases d2 with rfl | rfl | rfl | rfl <;> simp [pn] at e
  · have e : m = m' := by omega
    subst e
    have e2 := key m _ _ b1 b2 rfl
    exact Or.inl ⟨e2.symm, rfl, rfl⟩
  · omega
  · have e : m = c' := by omega
    subst e
    have h2 : nx w ht wx wy cb m 2 = some c := b1
    rw [h'] at h2
    exact Or.inr ⟨rfl, rfl, Option.some.inj h2⟩
  · omega
  · omega
  · have e : c = c' := by omega
    subst e
    rw [h] at h'
    exact Or.inl ⟨rfl, rfl, (Option.some.inj h').symm⟩
  · omega
  · have e : c = m' := by omega
    subst e
    have h2 : nx w ht wx wy cb c 1 = some c' := b2
    rw [h] at h2
    exact Or.inr ⟨(Option.some.inj h2).symm, rfl, rfl⟩
  · have e : c = m' := by omega
    subst e
    have h2 : nx w ht wx wy cb c 2 = some c' := b2
    rw [h] at h2
    exact Or.inr ⟨(Option.some.inj h2).symm, rfl, rfl⟩
  · omega
  · have e : c = c' := by omega
    subst e
    rw [h] at h'
    exact Or.inl ⟨rfl, rfl, (Option.some.inj h').symm⟩
  · omega
  · omega
  · have e : m = c' := by omega
    subst e
    have h2 : nx w ht wx wy cb m 1 = some c := b1
    rw [h'] at h2
    exact Or.inr ⟨rfl, rfl, Option.some.inj h2⟩
  · omega
  · have e : m = m' := by omega
    subst e
    have e2 := key m _ _ b1 b2 rfl
    exact Or.inl ⟨e2.symm, rfl, rfl⟩
/-! what a run leaves as it was: all cells but those at places a .. b -/
def sm (a b : Nat) (h h' : aq_H) : Prop := ∀ k : Nat, k < a ∨ b < k → h'[k]? = h[k]?
theorem sm.rf (a b : Nat) (h : aq_H) : sm a b h h := fun _ _ => rfl
theorem sm.tr {a b : Nat} {h1 h2 h3 : aq_H} (p : sm a b h1 h2) (q : sm a b h2 h3) : sm a b h1 h3 := fun k hk => (q k hk).trans (p k hk)
theorem sm.mo {a b a' b' : Nat} {h1 h2 : aq_H} (p : sm a b h1 h2) (h : a' ≤ a) (h' : b ≤ b') : sm a' b' h1 h2 := fun k hk => p k (by omega)
theorem sm.st {a b k : Nat} {h1 h2 : aq_H} {e : aq_E} (p : sm a b h1 h2) (h : a ≤ k) (h' : k ≤ b) : sm a b h1 (h2.set k e) := by
  intro j hj
  rw [aq_gs, if_neg (by omega)]
  exact p j hj
