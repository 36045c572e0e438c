-- ===== the prime 2^31 - 1, and Fermat's theorem =====
def pP : Nat := 2147483647
def pchk : Nat → Nat → Bool
  | 0, lo => (2147483647 % lo) != 0
  | f + 1, lo => pchk f lo && pchk f (lo + 2 ^ f)
theorem pchk_ok : ∀ (f lo : Nat), pchk f lo = true → ∀ d, lo ≤ d → d < lo + 2 ^ f → 2147483647 % d ≠ 0 := by
  intro f; induction f with
  | zero => intro lo h d h1 h2; have : d = lo := by omega
            subst this; simpa [pchk] using h
  | succ f ih =>
    intro lo h d h1 h2
    simp only [pchk, Bool.and_eq_true] at h
    by_cases c : d < lo + 2 ^ f
    · exact ih lo h.1 d h1 c
    · exact ih _ h.2 d (by omega) (by rw [Nat.pow_succ] at h2; omega)
theorem pchk_16 : pchk 16 2 = true := by decide +kernel
theorem pP_prime : ∀ d, 2 ≤ d → d ∣ pP → d = pP := by
  intro d h2 hd
  obtain ⟨e, he⟩ := hd
  have hk := pchk_ok 16 2 pchk_16
  unfold pP at he ⊢
  by_cases c : d < 2 + 2 ^ 16
  · exact absurd (by rw [he]; exact Nat.mul_mod_right d e) (hk d h2 c)
  · by_cases c2 : e < 2 + 2 ^ 16
    · by_cases c3 : 2 ≤ e
      · exact absurd (by rw [he]; exact Nat.mul_mod_left d e) (hk e c3 c2)
      · have : e = 0 ∨ e = 1 := by omega
        rcases this with rfl | rfl
        · omega
        · omega
    · have : (2 + 2 ^ 16) * (2 + 2 ^ 16) ≤ d * e := Nat.mul_le_mul (by omega) (by omega)
      omega
theorem pP_euclid (a b : Nat) (h : pP ∣ a * b) : pP ∣ a ∨ pP ∣ b := by
  by_cases c : pP ∣ a
  · exact Or.inl c
  · right
    have g : Nat.gcd pP a = 1 := by
      have h1 := Nat.gcd_dvd_left pP a
      have h2 := Nat.gcd_dvd_right pP a
      have h3 : 0 < Nat.gcd pP a := Nat.gcd_pos_of_pos_left _ (by decide)
      by_cases c2 : 2 ≤ Nat.gcd pP a
      · exact absurd (pP_prime _ c2 h1 ▸ h2) c
      · omega
    exact (Nat.Coprime.dvd_of_dvd_mul_left g h)
-- congruence
def cg (a b : Int) : Prop := (pP : Int) ∣ a - b
theorem cg.rf (a : Int) : cg a a := ⟨0, by omega⟩
theorem cg.sy {a b : Int} (h : cg a b) : cg b a := by obtain ⟨q, hq⟩ := h; exact ⟨-q, by grind⟩
theorem cg.tr {a b c : Int} (h : cg a b) (g : cg b c) : cg a c := by obtain ⟨q, hq⟩ := h; obtain ⟨s, hs⟩ := g; exact ⟨q + s, by grind⟩
theorem cg.add {a b c d : Int} (h : cg a b) (g : cg c d) : cg (a + c) (b + d) := by obtain ⟨q, hq⟩ := h; obtain ⟨s, hs⟩ := g; exact ⟨q + s, by grind⟩
theorem cg.sub {a b c d : Int} (h : cg a b) (g : cg c d) : cg (a - c) (b - d) := by obtain ⟨q, hq⟩ := h; obtain ⟨s, hs⟩ := g; exact ⟨q - s, by grind⟩
theorem cg.mul {a b c d : Int} (h : cg a b) (g : cg c d) : cg (a * c) (b * d) := by
  obtain ⟨q, hq⟩ := h; obtain ⟨s, hs⟩ := g
  exact ⟨q * c + b * s, by
    have : a * c - b * d = (a - b) * c + b * (c - d) := by grind
    rw [this, hq, hs]; grind⟩
theorem cg.md (a : Int) : cg (a % (pP : Int)) a := ⟨- (a / pP), by have := Int.mul_ediv_add_emod a pP; grind⟩
theorem cg_euclid {a b : Int} (h : cg (a * b) 0) : cg a 0 ∨ cg b 0 := by
  unfold cg at *
  simp only [Int.sub_zero] at *
  have := Int.natAbs_dvd_natAbs.mpr h
  rw [Int.natAbs_mul] at this
  rcases pP_euclid _ _ (by simpa using this) with h | h
  · left; exact Int.natAbs_dvd_natAbs.mp (by simpa using h)
  · right; exact Int.natAbs_dvd_natAbs.mp (by simpa using h)
theorem cg_small {a : Int} (h : cg a 0) (h0 : 0 ≤ a) (h1 : a < (pP : Int)) : a = 0 := by
  unfold cg at h; rw [Int.sub_zero] at h
  obtain ⟨q, hq⟩ := h
  unfold pP at *
  have : q = 0 := by omega
  subst this; omega
theorem cg_eq {a b : Int} (h : cg a b) (a0 : 0 ≤ a) (a1 : a < (pP : Int)) (b0 : 0 ≤ b) (b1 : b < (pP : Int)) : a = b := by
  obtain ⟨q, hq⟩ := h
  unfold pP at *
  have : q = 0 := by omega
  subst this; omega
theorem cg_cancel {a b c : Int} (h : cg (a * b) (a * c)) (ha : ¬ cg a 0) : cg b c := by
  have h1 : cg (a * (b - c)) 0 := by
    obtain ⟨q, hq⟩ := h; exact ⟨q, by grind⟩
  rcases cg_euclid h1 with h | h
  · exact absurd h ha
  · obtain ⟨q, hq⟩ := h; exact ⟨q, by grind⟩
-- binomials
def bnC : Nat → Nat → Nat
  | _, 0 => 1
  | 0, _ + 1 => 0
  | n + 1, k + 1 => bnC n k + bnC n (k + 1)
theorem bnC_z (n : Nat) : bnC n 0 = 1 := by cases n <;> rfl
theorem bnC_hi : ∀ n k, n < k → bnC n k = 0 := by
  intro n; induction n with
  | zero => intro k h; cases k with
    | zero => omega
    | succ k => rfl
  | succ n ih => intro k h; cases k with
    | zero => omega
    | succ k => simp only [bnC]; rw [ih k (by omega), ih (k+1) (by omega)]
theorem bnC_n : ∀ n, bnC n n = 1 := by
  intro n; induction n with
  | zero => rfl
  | succ n ih => simp only [bnC]; rw [ih, bnC_hi n (n+1) (by omega)]
theorem bnC_abs : ∀ n k, (k + 1) * bnC (n + 1) (k + 1) = (n + 1) * bnC n k := by
  intro n; induction n with
  | zero => intro k; cases k with
    | zero => rfl
    | succ k => simp [bnC]
  | succ n ih => intro k; cases k with
    | zero =>
      have := ih 0
      rw [bnC_z] at this
      have e : bnC (n + 1 + 1) (0 + 1) = bnC (n+1) 0 + bnC (n+1) (0+1) := rfl
      rw [e, bnC_z]; omega
    | succ k =>
      have h1 := ih k
      have h2 := ih (k + 1)
      have e : bnC (n + 1 + 1) (k + 1 + 1) = bnC (n+1) (k+1) + bnC (n+1) (k+1+1) := rfl
      have e2 : bnC (n + 1) (k + 1) = bnC n k + bnC n (k+1) := rfl
      rw [e]
      grind
def bnS (n : Nat) (x : Int) : Nat → Int
  | 0 => 0
  | m + 1 => bnS n x m + (bnC n m : Int) * x ^ m
theorem bnS_s (n : Nat) (x : Int) : ∀ m, bnS (n + 1) x (m + 1) = bnS n x (m + 1) + x * bnS n x m := by
  intro m; induction m with
  | zero => simp [bnS, bnC_z]
  | succ m ih =>
    rw [bnS, ih, bnS.eq_2 n x (m+1), bnS.eq_2 n x m]
    have e : bnC (n + 1) (m + 1) = bnC n m + bnC n (m+1) := rfl
    rw [e, Int.pow_succ, Int.natCast_add]
    grind
theorem bn_thm (x : Int) : ∀ n, (x + 1) ^ n = bnS n x (n + 1) := by
  intro n; induction n with
  | zero => simp [bnS, bnC]
  | succ n ih =>
    rw [Int.pow_succ, ih, bnS_s, bnS.eq_2 n x (n+1), bnC_hi n (n+1) (by omega)]
    simp; grind
theorem bnC_p (k : Nat) (h0 : 0 < k) (h1 : k < pP) : pP ∣ bnC pP k := by
  obtain ⟨j, rfl⟩ : ∃ j, k = j + 1 := ⟨k - 1, by omega⟩
  obtain ⟨q, hq⟩ : ∃ q, pP = q + 1 := ⟨2147483646, rfl⟩
  have h := bnC_abs q j
  have hd : pP ∣ (j + 1) * bnC pP (j + 1) := ⟨bnC q j, by rw [hq] at h1 ⊢; exact h⟩
  rcases pP_euclid _ _ hd with h | h
  · exact absurd (Nat.le_of_dvd (by omega) h) (by omega)
  · exact h
theorem bnS_p (x : Int) : ∀ m, m < pP → cg (bnS pP x (m + 1)) 1 := by
  intro m; induction m with
  | zero => intro _; simp only [bnS, bnC_z]; exact ⟨0, by simp⟩
  | succ m ih =>
    intro h
    rw [bnS]
    obtain ⟨q, hq⟩ := bnC_p (m + 1) (by omega) h
    have h2 : cg ((bnC pP (m + 1) : Int) * x ^ (m + 1)) 0 := ⟨(q : Int) * x ^ (m + 1), by rw [hq, Int.natCast_mul]; grind⟩
    exact (ih (by omega)).add h2
theorem frob (x : Int) : cg ((x + 1) ^ pP) (x ^ pP + 1) := by
  rw [bn_thm, bnS, bnC_n]
  have e : bnS pP x pP = bnS pP x (2147483646 + 1) := rfl
  have := (bnS_p x 2147483646 (by unfold pP; omega)).add (cg.rf (x ^ pP))
  rw [e]
  refine cg.tr ?_ (cg.tr this ?_)
  · refine ⟨0, ?_⟩; simp
  · refine ⟨0, ?_⟩; grind
theorem fermat0 : ∀ a : Nat, cg ((a : Int) ^ pP) a := by
  intro a; induction a with
  | zero =>
    have : ((0 : Nat) : Int) ^ pP = 0 := by
      have : pP = pP - 1 + 1 := rfl
      rw [this, Int.pow_succ]; simp
    rw [this]; exact cg.rf 0
  | succ a ih =>
    rw [Int.natCast_add]
    exact (frob a).tr (ih.add (cg.rf 1))
theorem fermat (a : Nat) (h : ¬ cg (a : Int) 0) : cg ((a : Int) ^ (pP - 2) * a) 1 := by
  refine cg_cancel (a := (a : Int)) ?_ h
  have h1 := fermat0 a
  have e : (a : Int) * ((a : Int) ^ (pP - 2) * a) = (a : Int) ^ pP := by
    have : pP = pP - 2 + 1 + 1 := rfl
    conv => rhs; rw [this, Int.pow_succ, Int.pow_succ]
    generalize (a : Int) ^ (pP - 2) = z
    grind
  rw [e, Int.mul_one]; exact h1
-- the power by squares
theorem pow_half (s : Int) (e : Nat) : cg ((s * s) ^ (e / 2) * (if e % 2 = 1 then s else 1)) (s ^ e) := by
  have e1 : s ^ e = (s * s) ^ (e / 2) * (if e % 2 = 1 then s else 1) := by
    have h : e = 2 * (e / 2) + e % 2 := by omega
    conv => lhs; rw [h]
    generalize e / 2 = q
    have h2 : s ^ (2 * q) = (s * s) ^ q := by
      induction q with
      | zero => simp
      | succ q ih => rw [show 2 * (q + 1) = 2 * q + 1 + 1 by omega, Int.pow_succ, Int.pow_succ, ih, Int.pow_succ]; grind
    have : e % 2 = 0 ∨ e % 2 = 1 := by omega
    rcases this with h | h <;> rw [h]
    · simp [h2]
    · rw [Int.pow_succ, h2]; simp
  rw [e1]; exact cg.rf _
theorem cg.pow {a b : Int} (h : cg a b) : ∀ n : Nat, cg (a ^ n) (b ^ n) := by
  intro n; induction n with
  | zero => simp only [Int.pow_zero]; exact cg.rf 1
  | succ n ih => rw [Int.pow_succ, Int.pow_succ]; exact ih.mul h
