/-! the matrix of the board -/
def lI (z : Int) : Int64 := Int64.ofInt z
theorem lI_t {z : Int} (h : -9223372036854775808 ≤ z) (h' : z < 9223372036854775808) : (lI z).toInt = z := Int64.toInt_ofInt_of_le h h'
theorem lI_add (a b : Int) : lI a + lI b = lI (a + b) := (Int64.ofInt_add a b).symm
theorem lI_sub (a b : Int) : lI a - lI b = lI (a - b) := (Int64.ofInt_sub a b).symm
theorem lI_mul (a b : Int) : lI a * lI b = lI (a * b) := (Int64.ofInt_mul a b).symm
theorem lI_one : (1 : Int64) = lI 1 := rfl
theorem lI_zero : (0 : Int64) = lI 0 := rfl
theorem lI_p : (2147483647 : Int64) = lI 2147483647 := rfl
theorem lI_two : (2 : Int64) = lI 2 := rfl
theorem lI_a1 (a : Int) : lI a + 1 = lI (a + 1) := lI_add a 1
theorem lI_s1 (a : Int) : lI a - 1 = lI (a - 1) := lI_sub a 1
theorem lI_z {a : Int} (h : -9223372036854775808 ≤ a) (h' : a < 9223372036854775808) : lI a = 0 ↔ a = 0 := by
  constructor
  · intro e
    have := lI_t h h'
    rw [e] at this
    have h0 : (0 : Int64).toInt = 0 := by decide
    omega
  · intro e; rw [e]; rfl
theorem lI_div {a b : Int} (h : -9223372036854775808 ≤ a) (h' : a < 9223372036854775808) (g : -9223372036854775808 ≤ b) (g' : b < 9223372036854775808) : lI a / lI b = lI (a.tdiv b) := by
  have m1 : Int64.minValue.toInt = -9223372036854775808 := by decide
  have m2 : Int64.maxValue.toInt = 9223372036854775807 := by decide
  exact (Int64.ofInt_tdiv (by omega) (by omega) (by omega) (by omega)).symm
theorem lI_rem {a b : Int} (h : 0 ≤ a) (h' : a < 9223372036854775808) (g : 0 < b) (g' : b < 9223372036854775808) : lI a - lI a / lI b * lI b = lI (a % b) := by
  rw [lI_div (by omega) h' (by omega) g', lI_mul, lI_sub, Int.tdiv_eq_ediv_of_nonneg h]
  congr 1
  have := Int.mul_ediv_add_emod a b
  rw [Int.mul_comm (a / b) b]
  omega
theorem lI_remp {a : Int} (h : 0 ≤ a) (h' : a < 9223372036854775808) : lI a - lI a / 2147483647 * 2147483647 = lI (a % 2147483647) := by
  rw [lI_p]; exact lI_rem h h' (by decide) (by decide)
theorem pz : ¬ (2147483647 : Int64) = 0 := by decide
/-- degrees and neighbours, after t of the looks round about -/
def lpS (nxf : Nat → Nat → Option Nat) (ro : Nat → Nat) : Nat → Nat → Nat → Int
  | 0 => fun _ _ => 0
  | t + 1 => fun i j => match nxf (t / 4) (t % 4) with
    | none => lpS nxf ro t i j
    | some m => lpS nxf ro t i j + (if i = ro (t / 4) ∧ j = ro (t / 4) then 1 else 0) - (if i = ro (t / 4) ∧ j = ro m then 1 else 0)
theorem lpS_n {nxf : Nat → Nat → Option Nat} {ro : Nat → Nat} {c d : Nat} (hd : d < 4) (e : nxf c d = none) (i j : Nat) : lpS nxf ro (4 * c + d + 1) i j = lpS nxf ro (4 * c + d) i j := by
  show (match nxf ((4 * c + d) / 4) ((4 * c + d) % 4) with | none => _ | some m => _) = _
  rw [show (4 * c + d) / 4 = c by omega, show (4 * c + d) % 4 = d by omega, e]
theorem lpS_s {nxf : Nat → Nat → Option Nat} {ro : Nat → Nat} {c d m : Nat} (hd : d < 4) (e : nxf c d = some m) (i j : Nat) : lpS nxf ro (4 * c + d + 1) i j = lpS nxf ro (4 * c + d) i j + (if i = ro c ∧ j = ro c then 1 else 0) - (if i = ro c ∧ j = ro m then 1 else 0) := by
  show (match nxf ((4 * c + d) / 4) ((4 * c + d) % 4) with | none => _ | some m => _) = _
  rw [show (4 * c + d) / 4 = c by omega, show (4 * c + d) % 4 = d by omega, e]
theorem t4 (t : Nat) : ∃ c d, d < 4 ∧ t = 4 * c + d := ⟨t / 4, t % 4, by omega, by omega⟩
theorem sumI_one (a : Nat) (x : Int) : ∀ m, sumI (fun j => if j = a then x else 0) m = if a < m then x else 0 := by
  intro m; induction m with
  | zero => rfl
  | succ m ih =>
    simp only [sumI]
    rw [ih]
    by_cases c : a < m
    · rw [if_pos c, if_neg (by omega), if_pos (by omega)]; omega
    · rw [if_neg c]
      by_cases c2 : m = a
      · rw [if_pos c2, if_pos (by omega)]; omega
      · rw [if_neg c2, if_neg (by omega)]; omega
theorem sumI_as (f g k : Nat → Int) : ∀ m, sumI (fun j => f j + g j - k j) m = sumI f m + sumI g m - sumI k m := by
  intro m; induction m with
  | zero => rfl
  | succ m ih => simp only [sumI]; rw [ih]; omega
theorem sumI_0 : ∀ m, sumI (fun _ => 0) m = 0 := by
  intro m; induction m with
  | zero => rfl
  | succ m ih => simp only [sumI]; rw [ih]; rfl
section LPS
variable {w ht : Nat} {wx wy : Bool} {cb : Nat → Bool}
theorem frc_inj {c c' : Nat} (h : cb c = false) (h' : cb c' = false) (e : frc cb c = frc cb c') : c = c' := by
  by_cases q : c < c'
  · have := frc_mn (u := cb) (a := c + 1) c' (by omega)
    rw [frc_s, h, if_neg (by decide)] at this
    omega
  · by_cases q2 : c' < c
    · have := frc_mn (u := cb) (a := c' + 1) c (by omega)
      rw [frc_s, h', if_neg (by decide)] at this
      omega
    · omega
theorem frc_lt {c n : Nat} (h : cb c = false) (hc : c < n) : frc cb c < frc cb n := by
  have := frc_mn (u := cb) (a := c + 1) n (by omega)
  rw [frc_s, h, if_neg (by decide)] at this
  omega
def lpM (w ht : Nat) (wx wy : Bool) (cb : Nat → Bool) (t : Nat) : Nat → Nat → Int := lpS (nx w ht wx wy cb) (frc cb) t
def cnt (w ht : Nat) (wx wy : Bool) (cb : Nat → Bool) (a b : Nat) : Nat → Int
  | 0 => 0
  | d + 1 => cnt w ht wx wy cb a b d + if nx w ht wx wy cb a d = some b then 1 else 0
theorem lp_off {i j : Nat} (h : i ≠ j) : ∀ t, lpM w ht wx wy cb t i j ≤ 0 := by
  intro t; induction t with
  | zero => exact Int.le_refl 0
  | succ t ih =>
    obtain ⟨c, d, hd, rfl⟩ := t4 t
    unfold lpM at ih ⊢
    cases e : nx w ht wx wy cb c d with
    | none => rw [lpS_n hd e]; exact ih
    | some m =>
      rw [lpS_s hd e, if_neg (fun z => h (z.1.trans z.2.symm))]
      split <;> omega
theorem lp_row (G : 0 < w ∧ w < 13 ∧ 0 < ht ∧ ht < 13) {i : Nat} : ∀ t, t ≤ 4 * (w * ht) → sumI (lpM w ht wx wy cb t i) (frc cb (w * ht)) = 0 := by
  intro t; induction t with
  | zero => intro _; exact sumI_0 _
  | succ t ih =>
    intro ht'
    obtain ⟨c, d, hd, rfl⟩ := t4 t
    have ih := ih (by omega)
    have hc : c < w * ht := by omega
    unfold lpM at ih ⊢
    cases e : nx w ht wx wy cb c d with
    | none =>
      rw [show lpS (nx w ht wx wy cb) (frc cb) (4 * c + d + 1) i = lpS (nx w ht wx wy cb) (frc cb) (4 * c + d) i from funext (fun j => lpS_n hd e i j)]
      exact ih
    | some m =>
      obtain ⟨m1, m2, m3, m4, m5⟩ := nx_ok G.2.1 G.2.2.2 hc hd e
      rw [show lpS (nx w ht wx wy cb) (frc cb) (4 * c + d + 1) i = fun j => lpS (nx w ht wx wy cb) (frc cb) (4 * c + d) i j + (if j = frc cb c then (if i = frc cb c then 1 else 0) else 0) - (if j = frc cb m then (if i = frc cb c then 1 else 0) else 0) from funext (fun j => by
        rw [lpS_s hd e]
        by_cases q : i = frc cb c <;> simp [q])]
      rw [sumI_as, ih, sumI_one, sumI_one, if_pos (frc_lt m3 hc), if_pos (frc_lt m4 m1)]
      omega
theorem lp_dia (G : 0 < w ∧ w < 13 ∧ 0 < ht ∧ ht < 13) {a : Nat} (ha : cb a = false) : ∀ t, t ≤ 4 * (w * ht) → 0 ≤ lpM w ht wx wy cb t (frc cb a) (frc cb a) ∧ lpM w ht wx wy cb t (frc cb a) (frc cb a) ≤ (min 4 (t - 4 * a) : Nat) := by
  intro t; induction t with
  | zero => intro _; exact ⟨Int.le_refl 0, Int.natCast_nonneg _⟩
  | succ t ih =>
    intro ht'
    obtain ⟨c, d, hd, rfl⟩ := t4 t
    have ih := ih (by omega)
    have hc : c < w * ht := by omega
    unfold lpM at ih ⊢
    cases e : nx w ht wx wy cb c d with
    | none => rw [lpS_n hd e]; omega
    | some m =>
      obtain ⟨m1, m2, m3, m4, m5⟩ := nx_ok G.2.1 G.2.2.2 hc hd e
      rw [lpS_s hd e]
      by_cases q : frc cb a = frc cb c
      · have hac := frc_inj ha m3 q
        subst hac
        rw [if_pos ⟨rfl, rfl⟩, if_neg (fun z => m2 (frc_inj m4 ha z.2.symm))]
        omega
      · rw [if_neg (fun z => q z.1), if_neg (fun z => q z.1)]
        omega
theorem lp_cnt (G : 0 < w ∧ w < 13 ∧ 0 < ht ∧ ht < 13) {a b : Nat} (ha : cb a = false) (hb : cb b = false) (hab : a ≠ b) : ∀ t, t ≤ 4 * (w * ht) → lpM w ht wx wy cb t (frc cb a) (frc cb b) = - cnt w ht wx wy cb a b (min 4 (t - 4 * a)) := by
  have hne : frc cb a ≠ frc cb b := fun z => hab (frc_inj ha hb z)
  intro t; induction t with
  | zero => intro _; simp [lpM, lpS, cnt]
  | succ t ih =>
    intro ht'
    obtain ⟨c, d, hd, rfl⟩ := t4 t
    have ih := ih (by omega)
    have hc : c < w * ht := by omega
    unfold lpM at ih ⊢
    by_cases q : c = a
    · subst q
      have e1 : min 4 (4 * c + d + 1 - 4 * c) = d + 1 := by omega
      have e2 : min 4 (4 * c + d - 4 * c) = d := by omega
      rw [e2] at ih
      rw [e1, cnt]
      cases e : nx w ht wx wy cb c d with
      | none => rw [lpS_n hd e, ih, if_neg (fun z => by cases z)]; omega
      | some m =>
        obtain ⟨m1, m2, m3, m4, m5⟩ := nx_ok G.2.1 G.2.2.2 hc hd e
        rw [lpS_s hd e, ih, if_neg (fun z => hne z.2.symm)]
        by_cases z : m = b
        · subst z
          rw [if_pos ⟨rfl, rfl⟩, if_pos rfl]; omega
        · rw [if_neg (fun y => z (frc_inj m4 hb y.2.symm)), if_neg (fun y => by injection y with y; exact z y)]; omega
    · have e1 : min 4 (4 * c + d + 1 - 4 * a) = min 4 (4 * c + d - 4 * a) := by omega
      rw [e1, ← ih]
      cases e : nx w ht wx wy cb c d with
      | none => rw [lpS_n hd e]
      | some m =>
        obtain ⟨m1, m2, m3, m4, m5⟩ := nx_ok G.2.1 G.2.2.2 hc hd e
        rw [lpS_s hd e, if_neg (fun z => q (frc_inj ha m3 z.1).symm), if_neg (fun z => q (frc_inj ha m3 z.1).symm)]; omega
theorem nx_sw (G : 0 < w ∧ w < 13 ∧ 0 < ht ∧ ht < 13) {a b d : Nat} (hd : d < 4) (ha : a < w * ht) (hb : b < w * ht) : nx w ht wx wy cb a d = some b ↔ nx w ht wx wy cb b ((d + 2) % 4) = some a := by
  constructor
  · intro e; exact (nx_ok G.2.1 G.2.2.2 ha hd e).2.2.2.2
  · intro e
    have := (nx_ok G.2.1 G.2.2.2 hb (by omega) e).2.2.2.2
    rw [show ((d + 2) % 4 + 2) % 4 = d by omega] at this
    exact this
theorem cnt_sw (G : 0 < w ∧ w < 13 ∧ 0 < ht ∧ ht < 13) {a b : Nat} (ha : a < w * ht) (hb : b < w * ht) : cnt w ht wx wy cb a b 4 = cnt w ht wx wy cb b a 4 := by
  have s0 := nx_sw (wx := wx) (wy := wy) (cb := cb) G (d := 0) (by decide) ha hb
  have s1 := nx_sw (wx := wx) (wy := wy) (cb := cb) G (d := 1) (by decide) ha hb
  have s2 := nx_sw (wx := wx) (wy := wy) (cb := cb) G (d := 2) (by decide) ha hb
  have s3 := nx_sw (wx := wx) (wy := wy) (cb := cb) G (d := 3) (by decide) ha hb
  simp only [Nat.reduceAdd, Nat.reduceMod, Nat.zero_add] at s0 s1 s2 s3
  simp only [cnt, s0, s1, s2, s3]
  omega
theorem lp_Lap (G : 0 < w ∧ w < 13 ∧ 0 < ht ∧ ht < 13) {m : Nat} (hm : frc cb (w * ht) = m + 1) : LapM m (lpM w ht wx wy cb (4 * (w * ht))) := by
  have hx : ∀ i, i < m → ∃ a, a < w * ht ∧ cb a = false ∧ frc cb a = i := fun i hi => frc_ex (w * ht) (by omega)
  refine ⟨fun i j _ _ h => lp_off h _, fun i j hi hj => ?_, fun i hi => ?_, fun i hi => ?_⟩
  · by_cases e : i = j
    · rw [e]
    · obtain ⟨a, a1, a2, rfl⟩ := hx i hi
      obtain ⟨b, b1, b2, rfl⟩ := hx j hj
      have hab : a ≠ b := fun z => e (by rw [z])
      rw [lp_cnt G a2 b2 hab _ (Nat.le_refl _), lp_cnt G b2 a2 (fun z => hab z.symm) _ (Nat.le_refl _)]
      rw [show min 4 (4 * (w * ht) - 4 * a) = 4 by omega, show min 4 (4 * (w * ht) - 4 * b) = 4 by omega, cnt_sw G a1 b1]
  · have h1 := lp_row (wx := wx) (wy := wy) (cb := cb) G (i := i) (4 * (w * ht)) (Nat.le_refl _)
    rw [hm] at h1
    simp only [sumI] at h1
    have h2 := lp_off (w := w) (ht := ht) (wx := wx) (wy := wy) (cb := cb) (i := i) (j := m) (by omega) (4 * (w * ht))
    omega
  · obtain ⟨a, a1, a2, rfl⟩ := hx i hi
    have := (lp_dia (wx := wx) (wy := wy) G a2 (4 * (w * ht)) (Nat.le_refl _)).2
    omega
end LPS
/-- the number of trees -/
def aTr (w ht : Nat) (wx wy : Bool) (cb : Nat → Bool) : Int64 := if frc cb (w * ht) = 0 ∨ 16 < frc cb (w * ht) then -1 else lI (bzA (frc cb (w * ht) - 1) (lpM w ht wx wy cb (4 * (w * ht))) (frc cb (w * ht) - 1) 0)
