-- ===== bounds: the matrix of a graph =====
def sumI (f : Nat → Int) : Nat → Int
  | 0 => 0
  | m + 1 => sumI f m + f m
theorem sumI_cg (f g : Nat → Int) : ∀ m, (∀ j, j < m → f j = g j) → sumI f m = sumI g m := by
  intro m; induction m with
  | zero => intro _; rfl
  | succ m ih => intro h; simp only [sumI]; rw [ih (fun j hj => h j (by omega)), h m (by omega)]
theorem sumI_lin (f g : Nat → Int) (a b : Int) : ∀ m, sumI (fun j => a * f j - b * g j) m = a * sumI f m - b * sumI g m := by
  intro m; induction m with
  | zero => simp [sumI]
  | succ m ih => simp only [sumI]; rw [ih]; grind
theorem sumI_two (f : Nat → Int) (i j : Nat) (hij : i ≠ j) (h : ∀ l, l ≠ i → f l ≤ 0) : ∀ m, sumI f m ≤ (if i < m then f i else 0) + (if j < m then f j else 0) := by
  intro m; induction m with
  | zero => simp [sumI]
  | succ m ih =>
    simp only [sumI]
    by_cases c1 : m = i
    · subst c1; rw [if_neg (by omega)] at ih; rw [if_pos (by omega)]
      by_cases c2 : j < m
      · rw [if_pos c2] at ih; rw [if_pos (by omega)]; omega
      · rw [if_neg c2] at ih; rw [if_neg (by omega)]; omega
    · by_cases c2 : m = j
      · subst c2; rw [if_neg (Nat.lt_irrefl m)] at ih; rw [if_pos (Nat.lt_succ_self m)]
        by_cases c3 : i < m
        · rw [if_pos c3] at ih; rw [if_pos (by omega)]; omega
        · rw [if_neg c3] at ih; rw [if_neg (by omega)]; omega
      · have hm := h m c1
        have e1 : (i < m + 1) ↔ (i < m) := by omega
        have e2 : (j < m + 1) ↔ (j < m) := by omega
        simp only [e1, e2]; omega
def LapM (m : Nat) (M : Nat → Nat → Int) : Prop := (∀ i j, i < m → j < m → i ≠ j → M i j ≤ 0) ∧ (∀ i j, i < m → j < m → M i j = M j i) ∧ (∀ i, i < m → 0 ≤ sumI (M i) m) ∧ (∀ i, i < m → M i i ≤ 4)
def bzI (m : Nat) (M : Nat → Nat → Int) (k : Nat) : Prop :=
  0 < bzD M k ∧ bzD M k ≤ 4 ^ k ∧ (∀ i j, k ≤ i → i < m → k ≤ j → j < m → i ≠ j → bzB M k i j ≤ 0) ∧ (∀ i j, k ≤ i → i < m → k ≤ j → j < m → bzB M k i j = bzB M k j i) ∧
  (∀ i, k ≤ i → i < m → 0 ≤ sumI (bzB M k i) m) ∧ (∀ i, k ≤ i → i < m → bzB M k i i ≤ 4 * bzD M k) ∧ (∀ i j, j < k → bzB M k i j = 0)
theorem bzI.pos {m : Nat} {M : Nat → Nat → Int} {k : Nat} (I : bzI m M k) : 0 < bzD M k := I.1
theorem bzI.top {m : Nat} {M : Nat → Nat → Int} {k : Nat} (I : bzI m M k) : bzD M k ≤ 4 ^ k := I.2.1
theorem bzI.off {m : Nat} {M : Nat → Nat → Int} {k : Nat} (I : bzI m M k) : ∀ i j, k ≤ i → i < m → k ≤ j → j < m → i ≠ j → bzB M k i j ≤ 0 := I.2.2.1
theorem bzI.sym {m : Nat} {M : Nat → Nat → Int} {k : Nat} (I : bzI m M k) : ∀ i j, k ≤ i → i < m → k ≤ j → j < m → bzB M k i j = bzB M k j i := I.2.2.2.1
theorem bzI.row {m : Nat} {M : Nat → Nat → Int} {k : Nat} (I : bzI m M k) : ∀ i, k ≤ i → i < m → 0 ≤ sumI (bzB M k i) m := I.2.2.2.2.1
theorem bzI.dia {m : Nat} {M : Nat → Nat → Int} {k : Nat} (I : bzI m M k) : ∀ i, k ≤ i → i < m → bzB M k i i ≤ 4 * bzD M k := I.2.2.2.2.2.1
theorem bzI.van {m : Nat} {M : Nat → Nat → Int} {k : Nat} (I : bzI m M k) : ∀ i j, j < k → bzB M k i j = 0 := I.2.2.2.2.2.2
theorem bz_van (M : Nat → Nat → Int) (k : Nat) (h : ∀ l, l < k → bzB M l l l ≠ 0) (i j : Nat) (hj : j < k) : bzB M k i j = 0 := by
  obtain ⟨a, b, c, d⟩ := bz_sc M k h
  have := d i j
  rw [scS_van _ k b i j hj] at this
  have h0 : (bzB M k i j : Rat) = 0 := by grind
  simpa using h0
theorem bzI_0 (m : Nat) (M : Nat → Nat → Int) (L : LapM m M) : bzI m M 0 := by
  obtain ⟨a, b, c, d⟩ := L
  refine ⟨by simp [bzD_z], by simp [bzD_z], fun i j _ hi _ hj h => ?_, fun i j _ hi _ hj => ?_, fun i _ hi => ?_, fun i _ hi => ?_, fun i j h => by omega⟩
  · rw [bzB_z]; exact a i j hi hj h
  · rw [bzB_z]; exact b i j hi hj
  · rw [bzB_z]; exact c i hi
  · rw [bzB_z, bzD_z]; have := d i hi; omega
theorem bzI.two {m : Nat} {M : Nat → Nat → Int} {k : Nat} (I : bzI m M k) (i j : Nat) (hi : k ≤ i) (hm : i < m) (hj : j < m) (hij : i ≠ j) : 0 ≤ bzB M k i i + bzB M k i j := by
  have h1 := I.row i hi hm
  have e : sumI (bzB M k i) m = sumI (fun l => if l < m then bzB M k i l else 0) m := sumI_cg _ _ m (fun l hl => by simp only [if_pos hl])
  have h2 := sumI_two (fun l => if l < m then bzB M k i l else 0) i j hij (fun l hl => by
    show (if l < m then bzB M k i l else 0) ≤ 0
    by_cases c : l < m
    · rw [if_pos c]
      by_cases c2 : k ≤ l
      · exact I.off i l hi hm c2 c (fun e => hl e.symm)
      · rw [I.van i l (by omega)]; decide
    · rw [if_neg c]; decide) m
  rw [if_pos hm, if_pos hj] at h2
  simp only [if_pos hm, if_pos hj] at h2
  omega
theorem bzI.dia0 {m : Nat} {M : Nat → Nat → Int} {k : Nat} (I : bzI m M k) (i : Nat) (hi : k ≤ i) (hm : i < m) : 0 ≤ bzB M k i i := by
  have h1 := I.row i hi hm
  have e : sumI (bzB M k i) m = sumI (fun l => if l < m then bzB M k i l else 0) m := sumI_cg _ _ m (fun l hl => by simp only [if_pos hl])
  have h2 := sumI_two (fun l => if l < m then bzB M k i l else 0) i m (by omega) (fun l hl => by
    show (if l < m then bzB M k i l else 0) ≤ 0
    by_cases c : l < m
    · rw [if_pos c]
      by_cases c2 : k ≤ l
      · exact I.off i l hi hm c2 c (fun e => hl e.symm)
      · rw [I.van i l (by omega)]; decide
    · rw [if_neg c]; decide) m
  rw [if_pos hm, if_neg (Nat.lt_irrefl m)] at h2
  simp only [if_pos hm] at h2
  omega
theorem bzI.abs {m : Nat} {M : Nat → Nat → Int} {k : Nat} (I : bzI m M k) (i j : Nat) (hi : k ≤ i) (hm : i < m) (hj : k ≤ j) (hjm : j < m) : -(4 * bzD M k) ≤ bzB M k i j ∧ bzB M k i j ≤ 4 * bzD M k := by
  have hd := I.dia i hi hm
  have h0 := I.dia0 i hi hm
  have hp := I.pos
  by_cases c : i = j
  · subst c; omega
  · have h1 := I.two i j hi hm hjm c
    have h2 := I.off i j hi hm hj hjm c
    omega
theorem bzI.zero {m : Nat} {M : Nat → Nat → Int} {k : Nat} (I : bzI m M k) (hk : k < m) (hz : bzB M k k k = 0) (i : Nat) (hi : k ≤ i) (hm : i < m) : bzB M k i k = 0 := by
  by_cases c : i = k
  · subst c; exact hz
  · have h1 := I.two k i (Nat.le_refl k) hk hm (fun e => c e.symm)
    have h2 := I.off k i (Nat.le_refl k) hk hi hm (fun e => c e.symm)
    have h3 := I.sym i k hi hm (Nat.le_refl k) hk
    omega
theorem mul_np {a b : Int} (h : a ≤ 0) (g : b ≤ 0) : 0 ≤ a * b := Int.mul_nonneg_of_nonpos_of_nonpos h g
theorem mul_pn {a b : Int} (h : 0 ≤ a) (g : b ≤ 0) : a * b ≤ 0 := Int.mul_nonpos_of_nonneg_of_nonpos h g
theorem pos_of_mul {a b : Int} (h : 0 < a) (g : 0 ≤ a * b) : 0 ≤ b := by
  by_cases c : 0 ≤ b
  · exact c
  · have h2 : a * b < 0 := Int.mul_neg_of_pos_of_neg h (by omega)
    omega
theorem bzI_s (m : Nat) (M : Nat → Nat → Int) (k : Nat) (hk : k < m) (h : ∀ l, l < k + 1 → bzB M l l l ≠ 0) (I : bzI m M k) : bzI m M (k + 1) := by
  have st := bz_step M k h
  have P0 := I.dia0 k (Nat.le_refl k) hk
  have Pn := h k (by omega)
  have P : 0 < bzB M k k k := by omega
  have Pd := I.dia k (Nat.le_refl k) hk
  have D := I.pos
  have offk : ∀ i, k + 1 ≤ i → i < m → bzB M k i k ≤ 0 := fun i hi hm => I.off i k (by omega) hm (Nat.le_refl k) hk (by omega)
  refine ⟨?_, ?_, ?_, ?_, ?_, ?_, ?_⟩
  · simp only [bzD_z, bzD_s]; exact P
  · simp only [bzD_z, bzD_s]; have := I.top; rw [Int.pow_succ]; omega
  · intro i j hi hm hj hjm hij
    have e := st i j
    have h1 := I.off i j (by omega) hm (by omega) hjm hij
    have h2 := I.off k j (Nat.le_refl k) hk (by omega) hjm (by omega)
    have h3 := mul_np (offk i hi hm) h2
    have h4 := mul_pn (b := bzB M k i j) P0 h1
    have h5 : 0 ≤ bzD M k * (- bzB M (k+1) i j) := by grind
    have := pos_of_mul D h5
    omega
  · intro i j hi hm hj hjm
    have e1 := st i j
    have e2 := st j i
    have s1 := I.sym i j (by omega) hm (by omega) hjm
    have s2 := I.sym i k (by omega) hm (Nat.le_refl k) hk
    have s3 := I.sym k j (Nat.le_refl k) hk (by omega) hjm
    have : bzD M k * bzB M (k+1) i j = bzD M k * bzB M (k+1) j i := by rw [e1, e2, s1, s2, s3]; grind
    exact Int.eq_of_mul_eq_mul_left (by omega) this
  · intro i hi hm
    have e : bzD M k * sumI (bzB M (k+1) i) m = bzB M k k k * sumI (bzB M k i) m - bzB M k i k * sumI (bzB M k k) m := by
      rw [← sumI_lin]
      have h1 := sumI_lin (bzB M (k+1) i) (fun _ => 0) (bzD M k) 0 m
      have h2 : sumI (fun j => bzD M k * bzB M (k+1) i j - 0 * 0) m = sumI (fun j => bzB M k k k * bzB M k i j - bzB M k i k * bzB M k k j) m := sumI_cg _ _ m (fun j _ => by have := st i j; grind)
      rw [← h2, h1]; grind
    have r1 := I.row i (by omega) hm
    have r2 := I.row k (Nat.le_refl k) hk
    have h3 := Int.mul_nonneg P0 r1
    have h4 := mul_pn r2 (offk i hi hm)
    exact pos_of_mul D (by rw [e]; grind)
  · intro i hi hm
    have e := st i i
    have s2 := I.sym i k (by omega) hm (Nat.le_refl k) hk
    have h1 := I.dia i (by omega) hm
    have h3 := mul_np (offk i hi hm) (by rw [← s2]; exact offk i hi hm : bzB M k k i ≤ 0)
    have h4 : 0 ≤ bzB M k k k * (4 * bzD M k - bzB M k i i) := Int.mul_nonneg P0 (by omega)
    have h5 : 0 ≤ bzD M k * (4 * bzB M k k k - bzB M (k+1) i i) := by grind
    have := pos_of_mul D h5
    simp only [bzD_z, bzD_s]; omega
  · intro i j hj; exact bz_van M (k+1) h i j hj
theorem bzI_k (m : Nat) (M : Nat → Nat → Int) (L : LapM m M) : ∀ k, k ≤ m → (∀ l, l < k → bzB M l l l ≠ 0) → bzI m M k := by
  intro k; induction k with
  | zero => intro _ _; exact bzI_0 m M L
  | succ k ih => intro hk h; exact bzI_s m M k (by omega) h (ih (by omega) (fun l hl => h l (by omega)))
theorem pow4 : ∀ k, k ≤ 15 → (4 : Int) ^ k ≤ 1073741824 := by
  intro k h
  have : ∀ k : Fin 16, (4 : Int) ^ k.val ≤ 1073741824 := by decide
  exact this ⟨k, by omega⟩
theorem bzI.tiny {m : Nat} {M : Nat → Nat → Int} {k : Nat} (I : bzI m M k) (hk : k ≤ 15) : ¬ cg (bzD M k) 0 := by
  intro h
  have h1 := I.pos; have h2 := I.top; have h3 := pow4 k hk
  have := cg_small h (by omega) (by unfold pP; omega)
  omega
-- the same, by remainders
def mdG (m : Nat) (M t : Nat → Nat → Int) (k : Nat) : Prop := ∀ i j, k ≤ i → i < m → k ≤ j → j < m → 0 ≤ t i j ∧ t i j < 2147483647 ∧ cg (bzD M k * t i j) (bzB M k i j)
theorem md_step {m : Nat} {M t : Nat → Nat → Int} {k : Nat} (I : bzI m M k) (hk : k < m) (h15 : k ≤ 15) (h : ∀ l, l < k + 1 → bzB M l l l ≠ 0) (G : mdG m M t k) (b : Int) (hb : cg (b * t k k) 1) (i j : Nat) (hi : k + 1 ≤ i) (hm : i < m) (hj : k + 1 ≤ j) (hjm : j < m) :
    cg (bzD M (k+1) * ((t i j + (2147483647 - (t i k * b) % 2147483647) * t k j) % 2147483647)) (bzB M (k+1) i j) := by
  refine cg_cancel (a := bzD M k) ?_ (I.tiny h15)
  rw [bz_step M k h i j]
  have g1 := (G i j (by omega) hm (by omega) hjm).2.2
  have g2 := (G k k (Nat.le_refl k) hk (Nat.le_refl k) hk).2.2
  have g3 := (G i k (by omega) hm (Nat.le_refl k) hk).2.2
  have g4 := (G k j (Nat.le_refl k) hk (by omega) hjm).2.2
  have t1 : cg ((t i j + (2147483647 - (t i k * b) % 2147483647) * t k j) % 2147483647) (t i j + (0 - t i k * b) * t k j) := by
    refine (cg.md _).tr ?_
    refine (cg.rf _).add (cg.mul (cg.sub ⟨1, rfl⟩ (cg.md _)) (cg.rf _))
  have t2 : cg (bzD M k * (bzD M (k+1) * ((t i j + (2147483647 - (t i k * b) % 2147483647) * t k j) % 2147483647))) (bzD M k * ((bzD M k * t k k) * (t i j + (0 - t i k * b) * t k j))) := by
    refine (cg.rf _).mul (cg.mul ?_ t1)
    simp only [bzD_z, bzD_s]; exact g2.sy
  refine t2.tr ?_
  have e : bzD M k * ((bzD M k * t k k) * (t i j + (0 - t i k * b) * t k j)) = (bzD M k * t i j) * (bzD M k * t k k) - (bzD M k * t i k) * (bzD M k * t k j) * (b * t k k) := by grind
  rw [e]
  have := (g1.mul g2).sub (((g3.mul g4).mul hb))
  refine this.tr ?_
  refine ⟨0, by grind⟩
theorem md_piv {m : Nat} {M t : Nat → Nat → Int} {k : Nat} (I : bzI m M k) (hk : k < m) (h15 : k < 15) (hn : bzB M k k k ≠ 0) (G : mdG m M t k) : t k k ≠ 0 := by
  intro e
  have g := (G k k (Nat.le_refl k) hk (Nat.le_refl k) hk).2.2
  rw [e, Int.mul_zero] at g
  have h0 := I.dia0 k (Nat.le_refl k) hk
  have h1 := I.dia k (Nat.le_refl k) hk
  have h2 := I.top
  have h3 := pow4 (k+1) (by omega)
  rw [Int.pow_succ] at h3
  exact hn (cg_small g.sy h0 (by unfold pP; omega))
theorem md_zero {m : Nat} {M t : Nat → Nat → Int} {k : Nat} (I : bzI m M k) (hk : k < m) (h15 : k ≤ 15) (hz : bzB M k k k = 0) (G : mdG m M t k) (i : Nat) (hi : k ≤ i) (hm : i < m) : t i k = 0 := by
  obtain ⟨a, b, g⟩ := G i k hi hm (Nat.le_refl k) hk
  rw [I.zero hk hz i hi hm] at g
  rcases cg_euclid g with g | g
  · exact absurd g (I.tiny h15)
  · exact cg_small g a b
theorem md_all {m : Nat} {M t : Nat → Nat → Int} {k : Nat} (I : bzI m M k) (hk : k < m) (h15 : k < 15) (G : mdG m M t k) : (bzD M k * t k k) % 2147483647 = bzD M (k+1) := by
  have g := (G k k (Nat.le_refl k) hk (Nat.le_refl k) hk).2.2
  have h0 := I.dia0 k (Nat.le_refl k) hk
  have h1 := I.dia k (Nat.le_refl k) hk
  have h2 := I.top
  have h3 := pow4 (k+1) (by omega)
  rw [Int.pow_succ] at h3
  refine cg_eq ((cg.md _).tr g) (Int.emod_nonneg _ (by decide)) (Int.emod_lt_of_pos _ (by decide)) h0 (by unfold pP; simp only [bzD_z, bzD_s]; omega)
-- what both answer
def bzA (m : Nat) (M : Nat → Nat → Int) : Nat → Nat → Int
  | 0, k => bzD M k
  | n + 1, k => if bzB M k k k = 0 then 0 else bzA m M n (k + 1)
