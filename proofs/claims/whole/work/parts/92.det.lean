-- ===== determinants by rows: T expands along a row =====
def dT (r : Nat → Rat) : (List Nat → Rat) → List Nat → Rat
  | _, [] => 0
  | F, c :: cs => r c * F cs - dT r (fun l => F (c :: l)) cs
def dTT : List (Nat → Rat) → (List Nat → Rat) → List Nat → Rat
  | [], F => F
  | r :: rs, F => dT r (dTT rs F)
def dF0 : List Nat → Rat | [] => 1 | _ => 0
theorem dT_cg (r : Nat → Rat) (cs : List Nat) : ∀ (F G : List Nat → Rat), (∀ l, F l = G l) → dT r F cs = dT r G cs := by
  intro F G h; have : F = G := funext h; rw [this]
theorem dT_lin (r : Nat → Rat) (a : Rat) : ∀ (cs : List Nat) (F G : List Nat → Rat), dT r (fun l => F l + a * G l) cs = dT r F cs + a * dT r G cs := by
  intro cs; induction cs with
  | nil => intro F G; simp only [dT]; grind
  | cons c cs ih => intro F G; simp only [dT]; rw [ih (fun l => F (c :: l)) (fun l => G (c :: l))]; grind
theorem dT_z (r : Nat → Rat) : ∀ (cs : List Nat) (F : List Nat → Rat), (∀ l, F l = 0) → dT r F cs = 0 := by
  intro cs; induction cs with
  | nil => intro F h; rfl
  | cons c cs ih => intro F h; simp only [dT]; rw [ih _ (fun l => h (c :: l)), h]; grind
theorem dT_row (r s : Nat → Rat) (a : Rat) : ∀ (cs : List Nat) (F : List Nat → Rat), dT (fun c => r c + a * s c) F cs = dT r F cs + a * dT s F cs := by
  intro cs; induction cs with
  | nil => intro F; simp only [dT]; grind
  | cons c cs ih => intro F; simp only [dT]; rw [ih]; grind
theorem dT_anti (r s : Nat → Rat) : ∀ (cs : List Nat) (F : List Nat → Rat), dT r (dT s F) cs + dT s (dT r F) cs = 0 := by
  intro cs; induction cs with
  | nil => intro F; simp only [dT]; grind
  | cons c cs ih =>
    intro F; simp only [dT]
    have e1 : dT r (fun l => s c * F l - dT s (fun l => F (c :: l)) l) cs = s c * dT r F cs - dT r (dT s (fun l => F (c :: l))) cs := by
      have h1 := dT_lin r (-1) cs (fun l => s c * F l) (fun l => dT s (fun l => F (c :: l)) l)
      have h2 := dT_lin r (s c) cs (fun _ => 0) F
      have h3 := dT_z r cs (fun _ => 0) (fun _ => rfl)
      have h4 : dT r (fun l => s c * F l - dT s (fun l => F (c :: l)) l) cs = dT r (fun l => s c * F l + -1 * dT s (fun l => F (c :: l)) l) cs := dT_cg r cs _ _ (fun l => by grind)
      have h5 : dT r (fun l => s c * F l) cs = dT r (fun l => 0 + s c * F l) cs := dT_cg r cs _ _ (fun l => by grind)
      rw [h4, h1, h5, h2, h3]; grind
    have e2 : dT s (fun l => r c * F l - dT r (fun l => F (c :: l)) l) cs = r c * dT s F cs - dT s (dT r (fun l => F (c :: l))) cs := by
      have h1 := dT_lin s (-1) cs (fun l => r c * F l) (fun l => dT r (fun l => F (c :: l)) l)
      have h2 := dT_lin s (r c) cs (fun _ => 0) F
      have h3 := dT_z s cs (fun _ => 0) (fun _ => rfl)
      have h4 : dT s (fun l => r c * F l - dT r (fun l => F (c :: l)) l) cs = dT s (fun l => r c * F l + -1 * dT r (fun l => F (c :: l)) l) cs := dT_cg s cs _ _ (fun l => by grind)
      have h5 : dT s (fun l => r c * F l) cs = dT s (fun l => 0 + r c * F l) cs := dT_cg s cs _ _ (fun l => by grind)
      rw [h4, h1, h5, h2, h3]; grind
    rw [e1, e2]
    have := ih (fun l => F (c :: l))
    grind
theorem dTT_lin (a : Rat) : ∀ (rs : List (Nat → Rat)) (F G : List Nat → Rat) (cs : List Nat), dTT rs (fun l => F l + a * G l) cs = dTT rs F cs + a * dTT rs G cs := by
  intro rs; induction rs with
  | nil => intro F G cs; rfl
  | cons r rs ih =>
    intro F G cs; simp only [dTT]
    rw [← dT_lin]; exact dT_cg r cs _ _ (fun l => ih F G l)
theorem dTT_z : ∀ (rs : List (Nat → Rat)) (F : List Nat → Rat), (∀ l, F l = 0) → ∀ cs, dTT rs F cs = 0 := by
  intro rs; induction rs with
  | nil => intro F h; exact h
  | cons r rs ih => intro F h cs; simp only [dTT]; exact dT_z r cs _ (ih F h)
theorem dTT_cg (rs : List (Nat → Rat)) (F G : List Nat → Rat) (cs : List Nat) (h : ∀ l, F l = G l) : dTT rs F cs = dTT rs G cs := by
  have : F = G := funext h; rw [this]
-- a row goes through: up to a sign
theorem dTT_swap (s : Nat → Rat) : ∀ (rs : List (Nat → Rat)), ∃ e : Rat, ∀ (F : List Nat → Rat) (cs : List Nat), dT s (dTT rs F) cs = e * dTT rs (dT s F) cs := by
  intro rs; induction rs with
  | nil => exact ⟨1, fun F cs => by simp only [dTT]; grind⟩
  | cons r rs ih =>
    obtain ⟨e, he⟩ := ih
    refine ⟨-e, fun F cs => ?_⟩
    simp only [dTT]
    have h1 := dT_anti s r cs (dTT rs F)
    have h2 : dT r (dT s (dTT rs F)) cs = e * dT r (dTT rs (dT s F)) cs := by
      have h3 := dT_lin r e cs (fun _ => 0) (dTT rs (dT s F))
      have h4 := dT_z r cs (fun _ => 0) (fun _ => rfl)
      rw [dT_cg r cs _ (fun l => 0 + e * dTT rs (dT s F) l) (fun l => by rw [he]; grind), h3, h4]; grind
    grind
theorem dT_two (s : Nat → Rat) (F : List Nat → Rat) (cs : List Nat) : dT s (dT s F) cs = 0 := by
  have := dT_anti s s cs F; grind
theorem dTT_rep (s : Nat → Rat) (F : List Nat → Rat) : ∀ (rs : List (Nat → Rat)), s ∈ rs → ∀ cs, dTT rs (dT s F) cs = 0 := by
  intro rs; induction rs with
  | nil => intro h; cases h
  | cons r rs ih =>
    intro h cs
    simp only [dTT]
    cases h with
    | head =>
      obtain ⟨e, he⟩ := dTT_swap s rs
      rw [he, dTT_z rs (dT s (dT s F)) (fun l => dT_two s F l)]; grind
    | tail _ h => exact dT_z r cs _ (ih h)
theorem dTT_app : ∀ (as bs : List (Nat → Rat)) (F : List Nat → Rat), dTT (as ++ bs) F = dTT as (dTT bs F) := by
  intro as; induction as with
  | nil => intro bs F; rfl
  | cons a as ih => intro bs F; simp only [List.cons_append, dTT]; rw [ih]
-- whole numbers
def isZ (x : Rat) : Prop := ∃ z : Int, x = (z : Rat)
theorem isZ.mul {x y : Rat} (h : isZ x) (g : isZ y) : isZ (x * y) := by
  obtain ⟨a, rfl⟩ := h; obtain ⟨b, rfl⟩ := g; exact ⟨a * b, (Rat.intCast_mul a b).symm⟩
theorem isZ.sub {x y : Rat} (h : isZ x) (g : isZ y) : isZ (x - y) := by
  obtain ⟨a, rfl⟩ := h; obtain ⟨b, rfl⟩ := g; exact ⟨a - b, (Rat.intCast_sub a b).symm⟩
theorem dT_isZ (r : Nat → Rat) (hr : ∀ c, isZ (r c)) : ∀ (cs : List Nat) (F : List Nat → Rat), (∀ l, isZ (F l)) → isZ (dT r F cs) := by
  intro cs; induction cs with
  | nil => intro F _; exact ⟨0, rfl⟩
  | cons c cs ih => intro F h; simp only [dT]; exact ((hr c).mul (h cs)).sub (ih _ (fun l => h (c :: l)))
theorem dTT_isZ : ∀ (rs : List (Nat → Rat)), (∀ r ∈ rs, ∀ c, isZ (r c)) → ∀ (F : List Nat → Rat), (∀ l, isZ (F l)) → ∀ cs, isZ (dTT rs F cs) := by
  intro rs; induction rs with
  | nil => intro _ F h cs; exact h cs
  | cons r rs ih => intro hr F h cs; simp only [dTT]; exact dT_isZ r (hr r (List.mem_cons_self)) cs _ (ih (fun q hq => hr q (List.mem_cons_of_mem _ hq)) F h)
theorem dF0_isZ (l : List Nat) : isZ (dF0 l) := by
  cases l with
  | nil => exact ⟨1, rfl⟩
  | cons _ _ => exact ⟨0, rfl⟩
-- rows that vanish at a column
theorem dTT_van (c : Nat) : ∀ (rs : List (Nat → Rat)), (∀ r ∈ rs, r c = 0) → ∀ (F : List Nat → Rat), (∀ cs, F (c :: cs) = 0) → ∀ cs, dTT rs F (c :: cs) = 0 := by
  intro rs; induction rs with
  | nil => intro _ F h cs; exact h cs
  | cons r rs ih =>
    intro hr F h cs; simp only [dTT, dT]
    rw [hr r List.mem_cons_self, dT_z r cs _ (fun l => ih (fun q hq => hr q (List.mem_cons_of_mem _ hq)) F h l)]; grind
theorem dTT_first (c : Nat) (r : Nat → Rat) (rs : List (Nat → Rat)) (hr : ∀ q ∈ rs, q c = 0) (F : List Nat → Rat) (h : ∀ cs, F (c :: cs) = 0) (cs : List Nat) : dTT (r :: rs) F (c :: cs) = r c * dTT rs F cs := by
  simp only [dTT, dT]
  rw [dT_z r cs _ (fun l => dTT_van c rs hr F h l)]; grind
-- Schur's complements
def scS (M : Nat → Nat → Rat) : Nat → Nat → Nat → Rat
  | 0 => M
  | k + 1 => fun i j => scS M k i j - scS M k i k / scS M k k k * scS M k k j
theorem scS_van (M : Nat → Nat → Rat) : ∀ (k : Nat), (∀ l, l < k → scS M l l l ≠ 0) → ∀ (i c : Nat), c < k → scS M k i c = 0 := by
  intro k; induction k with
  | zero => intro _ i c h; omega
  | succ k ih =>
    intro h i c hc
    simp only [scS]
    by_cases e : c = k
    · subst e; have := h c (by omega); grind
    · rw [ih (fun l hl => h l (by omega)) i c (by omega), ih (fun l hl => h l (by omega)) k c (by omega)]; grind
def scR (M : Nat → Nat → Rat) (k : Nat) : List (Nat → Rat) := (List.range k).map (fun l => scS M l l)
def scD (M : Nat → Nat → Rat) : Nat → Rat
  | 0 => 1
  | k + 1 => scD M k * scS M k k k
theorem scR_s (M : Nat → Nat → Rat) (k : Nat) : scR M (k + 1) = scR M k ++ [scS M k k] := by
  simp [scR, List.range_succ]
theorem dTT_low (M : Nat → Nat → Rat) (k i : Nat) (F : List Nat → Rat) (cs : List Nat) : ∀ l, l ≤ k → dTT (scR M k) (dT (scS M l i) F) cs = dTT (scR M k) (dT (M i) F) cs := by
  intro l; induction l with
  | zero => intro _; rfl
  | succ l ih =>
    intro h
    rw [← ih (by omega)]
    have e : scS M (l+1) i = fun c => scS M l i c + (- (scS M l i l / scS M l l l)) * scS M l l c := by
      funext c; simp only [scS]; grind
    rw [e, dTT_cg (scR M k) _ (fun z => dT (scS M l i) F z + (- (scS M l i l / scS M l l l)) * dT (scS M l l) F z) cs (fun z => dT_row _ _ _ z F), dTT_lin,
      dTT_rep (scS M l l) F (scR M k) (by simp only [scR, List.mem_map, List.mem_range]; exact ⟨l, by omega, rfl⟩) cs]
    grind
theorem dTT_M (M : Nat → Nat → Rat) : ∀ (k : Nat) (F : List Nat → Rat) (cs : List Nat), dTT (scR M k) F cs = dTT ((List.range k).map M) F cs := by
  intro k; induction k with
  | zero => intro F cs; rfl
  | succ k ih =>
    intro F cs
    rw [scR_s, dTT_app, List.range_succ, List.map_append, dTT_app]
    simp only [List.map_cons, List.map_nil, dTT]
    rw [dTT_low M k k F cs k (Nat.le_refl k), ih]
-- the triangle
theorem dTT_tri (M : Nat → Nat → Rat) (k i j : Nat) (h : ∀ l, l < k → scS M l l l ≠ 0) : ∀ (n a : Nat), a + n = k → scD M a * dTT ((List.range' a n).map (fun l => scS M l l) ++ [scS M k i]) dF0 (List.range' a n ++ [j]) = scD M k * scS M k i j := by
  intro n; induction n with
  | zero => intro a e; simp only [List.range', List.map_nil, List.nil_append, dTT, dT, dF0]; have : a = k := by omega
            subst this; grind
  | succ n ih =>
    intro a e
    simp only [List.range'_succ, List.map_cons, List.cons_append]
    rw [dTT_first a (scS M a a) _ _ dF0 (fun _ => rfl)]
    · have := ih (a + 1) (by omega)
      rw [← this]; simp only [scD]; grind
    · intro q hq
      rcases List.mem_append.mp hq with hq | hq
      · obtain ⟨l, hl, rfl⟩ := List.mem_map.mp hq
        have := List.mem_range'_1.mp hl
        exact scS_van M l (fun z hz => h z (by omega)) l a (by omega)
      · have : q = scS M k i := by simpa using hq
        rw [this]; exact scS_van M k h i a (by omega)
theorem sc_isZ (M : Nat → Nat → Rat) (hM : ∀ i j, isZ (M i j)) (k i j : Nat) (h : ∀ l, l < k → scS M l l l ≠ 0) : isZ (scD M k * scS M k i j) := by
  have h1 := dTT_tri M k i j h k 0 (by omega)
  rw [← h1]
  rw [← List.range_eq_range']
  have h2 : dTT ((List.range k).map (fun l => scS M l l) ++ [scS M k i]) dF0 (List.range k ++ [j]) = dTT ((List.range k).map M ++ [M i]) dF0 (List.range k ++ [j]) := by
    rw [dTT_app, dTT_app]
    simp only [dTT]
    have := dTT_low M k i dF0 (List.range k ++ [j]) k (Nat.le_refl k)
    have h3 := dTT_M M k (dT (M i) dF0) (List.range k ++ [j])
    unfold scR at this h3
    rw [this, h3]
  rw [h2]
  refine isZ.mul ⟨1, rfl⟩ (dTT_isZ _ ?_ _ dF0_isZ _)
  intro r hr c
  rcases List.mem_append.mp hr with hr | hr
  · obtain ⟨l, _, rfl⟩ := List.mem_map.mp hr; exact hM l c
  · have : r = M i := by simpa using hr
    rw [this]; exact hM i c
-- elimination without fractions
def bzQ (M : Nat → Nat → Int) : Nat → (Nat → Nat → Int) × Int
  | 0 => (M, 1)
  | k + 1 => (fun i j => ((bzQ M k).1 i j * (bzQ M k).1 k k - (bzQ M k).1 i k * (bzQ M k).1 k j).tdiv (bzQ M k).2, (bzQ M k).1 k k)
def bzB (M : Nat → Nat → Int) (k : Nat) : Nat → Nat → Int := (bzQ M k).1
def bzD (M : Nat → Nat → Int) (k : Nat) : Int := (bzQ M k).2
theorem bzB_z (M : Nat → Nat → Int) : bzB M 0 = M := rfl
theorem bzB_s (M : Nat → Nat → Int) (k i j : Nat) : bzB M (k+1) i j = (bzB M k i j * bzB M k k k - bzB M k i k * bzB M k k j).tdiv (bzD M k) := rfl
theorem bzD_z (M : Nat → Nat → Int) : bzD M 0 = 1 := rfl
theorem bzD_s (M : Nat → Nat → Int) (k : Nat) : bzD M (k+1) = bzB M k k k := rfl
theorem bz_sc (M : Nat → Nat → Int) : ∀ k, (∀ l, l < k → bzB M l l l ≠ 0) →
    (bzD M k : Rat) = scD (fun i j => (M i j : Rat)) k ∧ (∀ l, l < k → scS (fun i j => (M i j : Rat)) l l l ≠ 0) ∧ bzD M k ≠ 0 ∧
    (∀ i j, (bzB M k i j : Rat) = scD (fun i j => (M i j : Rat)) k * scS (fun i j => (M i j : Rat)) k i j) := by
  intro k; induction k with
  | zero => intro _; refine ⟨by simp [bzD_z, bzD_s, scD], fun l h => by omega, by simp [bzD_z, bzD_s], fun i j => by simp [bzB_z, bzB_s, scD, scS]⟩
  | succ k ih =>
    intro h
    obtain ⟨a, b, c, d⟩ := ih (fun l hl => h l (by omega))
    have hk := h k (by omega)
    have hd : scD (fun i j => (M i j : Rat)) k ≠ 0 := by rw [← a]; intro e; exact c (by simpa using e)
    have hs : scS (fun i j => (M i j : Rat)) k k k ≠ 0 := by
      intro e; have := d k k; rw [e] at this; exact hk (by have h0 : (bzB M k k k : Rat) = 0 := by grind
                                                           simpa using h0)
    have hb : ∀ l, l < k + 1 → scS (fun i j => (M i j : Rat)) l l l ≠ 0 := by
      intro l hl; by_cases e : l = k
      · subst e; exact hs
      · exact b l (by omega)
    refine ⟨by simp only [bzD_z, bzD_s, scD]; exact d k k, hb, by simp only [bzD_z, bzD_s]; exact hk, fun i j => ?_⟩
    obtain ⟨z, hz⟩ := sc_isZ (fun i j => (M i j : Rat)) (fun i j => ⟨M i j, rfl⟩) (k+1) i j hb
    have e : bzB M k i j * bzB M k k k - bzB M k i k * bzB M k k j = bzD M k * z := by
      apply Rat.intCast_inj.mp
      rw [Rat.intCast_sub, Rat.intCast_mul, Rat.intCast_mul, Rat.intCast_mul, ← hz, d, d, d, d, a]
      simp only [scD, scS]
      grind
    rw [hz]
    simp only [bzB_z, bzB_s]
    rw [e, Int.mul_tdiv_cancel_left _ c]
theorem bz_step (M : Nat → Nat → Int) (k : Nat) (h : ∀ l, l < k + 1 → bzB M l l l ≠ 0) (i j : Nat) :
    bzD M k * bzB M (k+1) i j = bzB M k i j * bzB M k k k - bzB M k i k * bzB M k k j := by
  obtain ⟨a, b, c, d⟩ := bz_sc M k (fun l hl => h l (by omega))
  obtain ⟨a', b', c', d'⟩ := bz_sc M (k+1) h
  have hs := b' k (by omega)
  apply Rat.intCast_inj.mp
  rw [Rat.intCast_sub, Rat.intCast_mul, Rat.intCast_mul, Rat.intCast_mul, d', d, d, d, d, a]
  simp only [scD, scS]
  grind
