/-! shortest ways as numbers: directions are digits, base four without a nought -/
def wC (f : Nat → Nat → Option Nat) (s0 c : Nat) : Option Nat :=
  if _h : c = 0 then some s0 else (wC f s0 ((c - 1) / 4)).bind (fun s => f s ((c - 1) % 4))
termination_by c
decreasing_by omega
def cl (c : Nat) : Nat := if _h : c = 0 then 0 else cl ((c - 1) / 4) + 1
termination_by c
decreasing_by omega
theorem wC_0 (f : Nat → Nat → Option Nat) (s0 : Nat) : wC f s0 0 = some s0 := by rw [wC]; simp
theorem wC_s (f : Nat → Nat → Option Nat) (s0 c : Nat) {d : Nat} (hd : d < 4) : wC f s0 (4 * c + d + 1) = (wC f s0 c).bind (fun s => f s d) := by
  rw [wC]
  have e1 : (4 * c + d + 1 - 1) / 4 = c := by omega
  have e2 : (4 * c + d + 1 - 1) % 4 = d := by omega
  rw [dif_neg (by omega), e1, e2]
theorem cl_0 : cl 0 = 0 := by rw [cl]; simp
theorem cl_s (c : Nat) {d : Nat} (hd : d < 4) : cl (4 * c + d + 1) = cl c + 1 := by
  rw [cl]
  have e1 : (4 * c + d + 1 - 1) / 4 = c := by omega
  rw [dif_neg (by omega), e1]
theorem code_cs (c : Nat) : c = 0 ∨ ∃ c' d, d < 4 ∧ c = 4 * c' + d + 1 := by
  by_cases e : c = 0
  · exact Or.inl e
  · exact Or.inr ⟨(c - 1) / 4, (c - 1) % 4, by omega, by omega⟩
theorem code_ind {P : Nat → Prop} (h0 : P 0) (hs : ∀ c d, d < 4 → P c → P (4 * c + d + 1)) (c : Nat) : P c := by
  induction c using Nat.strongRecOn with
  | ind c ih =>
    rcases code_cs c with rfl | ⟨c', d, hd, rfl⟩
    · exact h0
    · exact hs c' d hd (ih c' (by omega))
theorem cl_pos {c : Nat} (h : c ≠ 0) : 0 < cl c := by
  rcases code_cs c with rfl | ⟨c', d, hd, rfl⟩
  · exact absurd rfl h
  · rw [cl_s _ hd]; omega
theorem cl_mono (c : Nat) : ∀ c', c ≤ c' → cl c ≤ cl c' := by
  refine code_ind (P := fun c => ∀ c', c ≤ c' → cl c ≤ cl c') (fun c' _ => by rw [cl_0]; exact Nat.zero_le _) (fun c d hd ih c' h => ?_) c
  rcases code_cs c' with rfl | ⟨c2, d2, hd2, rfl⟩
  · omega
  · rw [cl_s _ hd, cl_s _ hd2]
    have := ih c2 (by omega)
    omega
def anc : Nat → Nat → Nat
  | 0, c => c
  | n + 1, c => anc n ((c - 1) / 4)
theorem anc_s : ∀ (n c : Nat), anc (n + 1) c = (anc n c - 1) / 4
  | 0, _ => rfl
  | n + 1, c => by
    have := anc_s n ((c - 1) / 4)
    exact this
theorem cl_anc : ∀ (n c : Nat), n ≤ cl c → cl (anc n c) = cl c - n
  | 0, _, _ => rfl
  | n + 1, c, h => by
    rcases code_cs c with rfl | ⟨c', d, hd, rfl⟩
    · rw [cl_0] at h; omega
    · rw [cl_s _ hd] at h
      rw [show anc (n + 1) (4 * c' + d + 1) = anc n c' by show anc n ((4 * c' + d + 1 - 1) / 4) = _; rw [show (4 * c' + d + 1 - 1) / 4 = c' by omega], cl_anc n c' (by omega), cl_s _ hd]
      omega
theorem anc_mono : ∀ (n c c' : Nat), c ≤ c' → anc n c ≤ anc n c'
  | 0, _, _, h => h
  | n + 1, c, c', h => anc_mono n _ _ (by omega)
def pr (c i : Nat) : Nat := anc (cl c - i) c
def dig (c i : Nat) : Nat := (anc (cl c - i - 1) c - 1) % 4
theorem dig_lt (c i : Nat) : dig c i < 4 := Nat.mod_lt _ (by decide)
theorem pr_0 (c : Nat) : pr c 0 = 0 := by
  have h := cl_anc (cl c) c (Nat.le_refl _)
  rw [Nat.sub_self] at h
  unfold pr
  rw [Nat.sub_zero]
  by_cases e : anc (cl c) c = 0
  · exact e
  · have := cl_pos e; omega
theorem pr_e (c : Nat) : pr c (cl c) = c := by unfold pr; rw [Nat.sub_self]; rfl
theorem cl_pr {c i : Nat} (h : i ≤ cl c) : cl (pr c i) = i := by
  unfold pr
  rw [cl_anc _ _ (by omega)]
  omega
theorem pr_s {c i : Nat} (h : i < cl c) : pr c (i + 1) = 4 * pr c i + dig c i + 1 := by
  have h1 := cl_pr (c := c) (i := i + 1) (by omega)
  unfold pr at h1 ⊢
  unfold dig
  obtain ⟨n, hn⟩ : ∃ n, cl c - i = n + 1 := ⟨cl c - i - 1, by omega⟩
  have e1 : cl c - (i + 1) = n := by omega
  have e2 : cl c - i - 1 = n := by omega
  rw [e1] at h1
  rw [e1, hn, anc_s]
  rw [show n + 1 - 1 = n from rfl]
  have : anc n c ≠ 0 := fun e => by rw [e, cl_0] at h1; omega
  omega
theorem dig_last (c : Nat) {d : Nat} (hd : d < 4) : dig (4 * c + d + 1) (cl c) = d := by
  unfold dig
  rw [cl_s _ hd, show cl c + 1 - cl c - 1 = 0 by omega]
  show (4 * c + d + 1 - 1) % 4 = d
  omega
theorem dig_prev (c : Nat) {d i : Nat} (hd : d < 4) (hi : i < cl c) : dig (4 * c + d + 1) i = dig c i := by
  unfold dig
  rw [cl_s _ hd]
  obtain ⟨n, hn⟩ : ∃ n, cl c - i = n + 1 := ⟨cl c - i - 1, by omega⟩
  rw [show cl c + 1 - i - 1 = n + 1 by omega, hn, show n + 1 - 1 = n from rfl]
  show (anc n ((4 * c + d + 1 - 1) / 4) - 1) % 4 = _
  rw [show (4 * c + d + 1 - 1) / 4 = c by omega]
theorem pr_mono {c c' i : Nat} (h : c ≤ c') (e : cl c = cl c') : pr c i ≤ pr c' i := by
  unfold pr
  rw [e]
  exact anc_mono _ _ _ h
/-- the first of the shortest ways to a goal -/
def ESC (f : Nat → Nat → Option Nat) (s0 : Nat) (g : Nat → Prop) : Option Nat → Prop
  | none => ∀ c s, wC f s0 c = some s → ¬ g s
  | some c => (∃ s, wC f s0 c = some s ∧ g s) ∧ ∀ c', c' < c → ∀ s, wC f s0 c' = some s → ¬ g s
theorem ESC_uniq {f : Nat → Nat → Option Nat} {s0 : Nat} {g : Nat → Prop} {o o' : Option Nat} (h : ESC f s0 g o) (h' : ESC f s0 g o') : o = o' := by
  cases o with
  | none =>
    cases o' with
    | none => rfl
    | some c =>
      obtain ⟨⟨s, h1, h2⟩, -⟩ := h'
      exact absurd h2 (h c s h1)
  | some c =>
    obtain ⟨⟨s, h1, h2⟩, h3⟩ := h
    cases o' with
    | none => exact absurd h2 (h' c s h1)
    | some c' =>
      obtain ⟨⟨s', k1, k2⟩, k3⟩ := h'
      have a1 : ¬ c < c' := fun q => k3 c q s h1 h2
      have a2 : ¬ c' < c := fun q => h3 c' q s' k1 k2
      have : c = c' := by omega
      rw [this]
theorem least_ex {P : Nat → Prop} : (∃ c, P c) → ∃ c, P c ∧ ∀ c', c' < c → ¬ P c' := by
  rintro ⟨c, hc⟩
  induction c using Nat.strongRecOn with
  | ind c ih =>
    by_cases e : ∃ c', c' < c ∧ P c'
    · obtain ⟨c', h1, h2⟩ := e
      exact ih c' h1 h2
    · exact ⟨c, hc, fun c' h1 h2 => e ⟨c', h1, h2⟩⟩
/-- the queue, with the ways' numbers -/
def BF (N : Nat) (f : Nat → Nat → Option Nat) (s0 : Nat) (Q K : Nat → Nat) (q h d : Nat) : Prop :=
  (0 < q ∧ Q 0 = s0 ∧ K 0 = 0) ∧ (∀ i, i < q → Q i < N ∧ wC f s0 (K i) = some (Q i)) ∧ (∀ i j, i < j → j < q → K i < K j ∧ Q i ≠ Q j) ∧ (h < q → ∀ i, i < q → K i < 4 * K h + d + 1) ∧ (∀ i d', (i < h ∨ (i = h ∧ d' < d)) → i < q → d' < 4 → ∀ v, f (Q i) d' = some v → ∃ j, j < q ∧ Q j = v ∧ K j ≤ 4 * K i + d' + 1)
section BFS
variable {N : Nat} {f : Nat → Nat → Option Nat} {s0 : Nat} {Q K : Nat → Nat} {q h d : Nat} {g : Nat → Prop}
theorem BF_0 (hs : s0 < N) : BF N f s0 (fun _ => s0) (fun _ => 0) 1 0 0 :=
  ⟨⟨by decide, rfl, rfl⟩, fun i _ => ⟨hs, wC_0 f s0⟩, fun i j h1 h2 => by omega, fun _ i _ => by omega, fun i d' h => by omega⟩
theorem BF_no (B : BF N f s0 Q K q h d) (hn : f (Q h) d = none) : BF N f s0 Q K q h (d + 1) := by
  obtain ⟨b1, b2, b3, b4, b5⟩ := B
  refine ⟨b1, b2, b3, fun hq i hi => by have := b4 hq i hi; omega, fun i d' hb hi hd v hv => ?_⟩
  by_cases e : i = h ∧ d' = d
  · obtain ⟨rfl, rfl⟩ := e
    rw [hn] at hv; cases hv
  · exact b5 i d' (by omega) hi hd v hv
theorem BF_old (B : BF N f s0 Q K q h d) (hq : h < q) {j : Nat} (hj : j < q) (hv : f (Q h) d = some (Q j)) : BF N f s0 Q K q h (d + 1) := by
  obtain ⟨b1, b2, b3, b4, b5⟩ := B
  refine ⟨b1, b2, b3, fun hq i hi => by have := b4 hq i hi; omega, fun i d' hb hi hd v hv' => ?_⟩
  by_cases e : i = h ∧ d' = d
  · obtain ⟨rfl, rfl⟩ := e
    rw [hv] at hv'
    cases hv'
    exact ⟨j, hj, rfl, by have := b4 hq j hj; omega⟩
  · exact b5 i d' (by omega) hi hd v hv'
theorem BF_new (B : BF N f s0 Q K q h d) (hq : h < q) (hd4 : d < 4) {v : Nat} (hv : f (Q h) d = some v) (hvN : v < N) (hn : ∀ j, j < q → Q j ≠ v) : BF N f s0 (fs Q q v) (fs K q (4 * K h + d + 1)) (q + 1) h (d + 1) := by
  obtain ⟨⟨b1, b1', b1''⟩, b2, b3, b4, b5⟩ := B
  have o : ∀ i, i < q → fs Q q v i = Q i ∧ fs K q (4 * K h + d + 1) i = K i := fun i hi => ⟨fs_n _ _ (by omega), fs_n _ _ (by omega)⟩
  refine ⟨⟨by omega, by rw [(o 0 b1).1, b1'], by rw [(o 0 b1).2, b1'']⟩, fun i hi => ?_, fun i j hij hj => ?_, fun _ i hi => ?_, fun i d' hb hi hd v' hv' => ?_⟩
  · by_cases e : i = q
    · subst e
      rw [fs_s, fs_s, wC_s _ _ _ hd4, (b2 h hq).2]
      exact ⟨hvN, hv⟩
    · rw [(o i (by omega)).1, (o i (by omega)).2]; exact b2 i (by omega)
  · by_cases e : j = q
    · subst e
      rw [(o i (by omega)).1, (o i (by omega)).2, fs_s, fs_s]
      exact ⟨b4 hq i (by omega), hn i (by omega)⟩
    · rw [(o i (by omega)).1, (o i (by omega)).2, (o j (by omega)).1, (o j (by omega)).2]; exact b3 i j hij (by omega)
  · rw [(o h hq).2]
    by_cases e : i = q
    · subst e; rw [fs_s]; omega
    · rw [(o i (by omega)).2]; have := b4 hq i (by omega); omega
  · have hi' : i < q := by omega
    rw [(o i hi').1] at hv'
    rw [(o i hi').2]
    by_cases e : i = h ∧ d' = d
    · obtain ⟨rfl, rfl⟩ := e
      rw [hv] at hv'
      cases hv'
      exact ⟨q, by omega, fs_s _ _ _, by rw [fs_s]; exact Nat.le_refl _⟩
    · obtain ⟨j, j1, j2, j3⟩ := b5 i d' (by omega) hi' hd v' hv'
      exact ⟨j, by omega, by rw [(o j j1).1]; exact j2, by rw [(o j j1).2]; exact j3⟩
theorem BF_nx (B : BF N f s0 Q K q h 4) : BF N f s0 Q K q (h + 1) 0 := by
  obtain ⟨b1, b2, b3, b4, b5⟩ := B
  refine ⟨b1, b2, b3, fun hq i hi => ?_, fun i d' hb hi hd v hv => b5 i d' (by omega) hi hd v hv⟩
  have h1 := b4 (by omega) i hi
  have h2 := (b3 h (h + 1) (by omega) hq).1
  omega
theorem BF_size (B : BF N f s0 Q K q h d) : q ≤ N := by
  obtain ⟨b1, b2, b3, -⟩ := B
  by_cases e : q ≤ N
  · exact e
  · obtain ⟨i, j, h1, h2, h3⟩ := pigeon N Q (fun i hi => (b2 i (by omega)).1)
    exact absurd h3 (b3 i j h1 (by omega)).2
theorem BF_all (B : BF N f s0 Q K q h 0) (lim : Nat) (hl : ∀ j, j < q → K j < lim → j < h) : ∀ c, c < lim → ∀ s, wC f s0 c = some s → ∃ i, i < h ∧ i < q ∧ Q i = s ∧ K i ≤ c := by
  obtain ⟨⟨b1, b1', b1''⟩, b2, b3, b4, b5⟩ := B
  refine code_ind (P := fun c => c < lim → ∀ s, wC f s0 c = some s → ∃ i, i < h ∧ i < q ∧ Q i = s ∧ K i ≤ c) (fun hc s hs => ?_) (fun c d hd ih hc s hs => ?_)
  · rw [wC_0] at hs
    cases hs
    exact ⟨0, hl 0 b1 (by omega), b1, b1', by omega⟩
  · rw [wC_s _ _ _ hd] at hs
    cases hw : wC f s0 c with
    | none => rw [hw] at hs; cases hs
    | some s' =>
      rw [hw] at hs
      obtain ⟨i, i1, i2, i3, i4⟩ := ih (by omega) s' hw
      have hs' : f (Q i) d = some s := by rw [i3]; exact hs
      obtain ⟨j, j1, j2, j3⟩ := b5 i d (Or.inl i1) i2 hd s hs'
      exact ⟨j, hl j j1 (by omega), j1, j2, by omega⟩
theorem BF_goal (B : BF N f s0 Q K q h 0) (hq : h < q) (hg : g (Q h)) (hn : ∀ i, i < h → ¬ g (Q i)) : ESC f s0 g (some (K h)) := by
  refine ⟨⟨Q h, (B.2.1 h hq).2, hg⟩, fun c hc s hs hgs => ?_⟩
  have hl : ∀ j, j < q → K j < K h → j < h := by
    intro j hj hk
    by_cases e : j < h
    · exact e
    · by_cases e2 : j = h
      · rw [e2] at hk; omega
      · have := (B.2.2.1 h j (by omega) hj).1; omega
  obtain ⟨i, i1, -, i3, -⟩ := BF_all B (K h) hl c hc s hs
  exact hn i i1 (by rw [i3]; exact hgs)
theorem BF_none (B : BF N f s0 Q K q h 0) (hq : q ≤ h) (hn : ∀ i, i < q → ¬ g (Q i)) : ESC f s0 g none := by
  intro c s hs hgs
  obtain ⟨i, -, i2, i3, -⟩ := BF_all B (c + 1) (fun j hj _ => by omega) c (Nat.lt_succ_self c) s hs
  exact hn i i2 (by rw [i3]; exact hgs)
/-- what can be reached in so many steps -/
def Rn (f : Nat → Nat → Option Nat) (s0 n s : Nat) : Prop := ∃ c, cl c = n ∧ wC f s0 c = some s
theorem Rn_0 {s : Nat} : Rn f s0 0 s ↔ s = s0 := by
  constructor
  · rintro ⟨c, h1, h2⟩
    by_cases e : c = 0
    · rw [e, wC_0] at h2; cases h2; rfl
    · have := cl_pos e; omega
  · intro e
    exact ⟨0, cl_0, by rw [e]; exact wC_0 f s0⟩
theorem Rn_s {n s v : Nat} (h : Rn f s0 n s) (hd : d < 4) (hv : f s d = some v) : Rn f s0 (n + 1) v := by
  obtain ⟨c, h1, h2⟩ := h
  exact ⟨4 * c + d + 1, by rw [cl_s _ hd, h1], by rw [wC_s _ _ _ hd, h2]; exact hv⟩
theorem Rn_p {n v : Nat} (h : Rn f s0 (n + 1) v) : ∃ s d, d < 4 ∧ Rn f s0 n s ∧ f s d = some v := by
  obtain ⟨c, h1, h2⟩ := h
  rcases code_cs c with rfl | ⟨c', d, hd, rfl⟩
  · rw [cl_0] at h1; omega
  · rw [cl_s _ hd] at h1
    rw [wC_s _ _ _ hd] at h2
    cases hw : wC f s0 c' with
    | none => rw [hw] at h2; cases h2
    | some s => rw [hw] at h2; exact ⟨s, d, hd, ⟨c', by omega, hw⟩, h2⟩
/-- the levels up to n are known -/
def LV (N : Nat) (f : Nat → Nat → Option Nat) (s0 : Nat) (F : Nat → Option Nat) (n : Nat) : Prop :=
  (∀ s m, F s = some m → s < N ∧ m ≤ n ∧ Rn f s0 m s ∧ ∀ m', m' < m → ¬ Rn f s0 m' s) ∧ (∀ s m, m ≤ n → Rn f s0 m s → F s ≠ none)
def LW (N : Nat) (f : Nat → Nat → Option Nat) (s0 : Nat) (F0 F : Nat → Option Nat) (n k d : Nat) : Prop :=
  (∀ s m, F0 s = some m → F s = some m) ∧ (∀ s, F0 s = none → F s = none ∨ (F s = some (n + 1) ∧ s < N ∧ Rn f s0 (n + 1) s)) ∧ (∀ k' d', (k' < k ∨ (k' = k ∧ d' < d)) → d' < 4 → F0 k' = some n → ∀ v, f k' d' = some v → F v ≠ none)
variable {F0 F : Nat → Option Nat} {n k : Nat}
theorem LV_0 (hs : s0 < N) : LV N f s0 (fs (fun _ => none) s0 (some 0)) 0 := by
  refine ⟨fun s m h => ?_, fun s m hm hr => ?_⟩
  · by_cases e : s = s0
    · rw [e, fs_s] at h
      cases h
      exact ⟨by omega, Nat.le_refl _, Rn_0.mpr e, fun m' hm' => by omega⟩
    · rw [fs_n _ _ e] at h; cases h
  · have : m = 0 := by omega
    rw [this] at hr
    rw [Rn_0.mp hr, fs_s]
    exact fun q => by cases q
theorem LW_0 : LW N f s0 F F n 0 0 := ⟨fun _ _ h => h, fun _ h => Or.inl h, fun k' d' h => by omega⟩
theorem LW_n (W : LW N f s0 F0 F n k d) (s : Nat) : F s = some n ↔ F0 s = some n := by
  obtain ⟨w1, w2, w3⟩ := W
  constructor
  · intro h
    cases e : F0 s with
    | none =>
      rcases w2 s e with q | ⟨q, -⟩
      · rw [q] at h; cases h
      · rw [q] at h; injection h with h; omega
    | some m => have := w1 s m e; rw [this] at h; exact h
  · exact fun h => w1 s n h
theorem LW_no (W : LW N f s0 F0 F n k d) (h : F0 k = some n → ∀ v, f k d = some v → F v ≠ none) : LW N f s0 F0 F n k (d + 1) := by
  obtain ⟨w1, w2, w3⟩ := W
  refine ⟨w1, w2, fun k' d' hb hd hf v hv => ?_⟩
  by_cases e : k' = k ∧ d' = d
  · obtain ⟨rfl, rfl⟩ := e; exact h hf v hv
  · exact w3 k' d' (by omega) hd hf v hv
theorem LW_new (L : LV N f s0 F0 n) (W : LW N f s0 F0 F n k d) (hd : d < 4) (hk : F0 k = some n) {v : Nat} (hvN : v < N) (hv : f k d = some v) (hn : F v = none) : LW N f s0 F0 (fs F v (some (n + 1))) n k (d + 1) := by
  obtain ⟨w1, w2, w3⟩ := W
  refine ⟨fun s m h => ?_, fun s h => ?_, fun k' d' hb hd' hf v' hv' => ?_⟩
  · by_cases e : s = v
    · rw [e] at h; have := w1 v m h; rw [hn] at this; cases this
    · rw [fs_n _ _ e]; exact w1 s m h
  · by_cases e : s = v
    · rw [e, fs_s]; exact Or.inr ⟨rfl, hvN, Rn_s (L.1 k n hk).2.2.1 hd hv⟩
    · rw [fs_n _ _ e]; exact w2 s h
  · by_cases e2 : v' = v
    · rw [e2, fs_s]; exact fun q => by cases q
    · rw [fs_n _ _ e2]
      by_cases e : k' = k ∧ d' = d
      · obtain ⟨rfl, rfl⟩ := e
        rw [hv] at hv'; cases hv'; exact absurd rfl e2
      · exact w3 k' d' (by omega) hd' hf v' hv'
theorem LW_nx (W : LW N f s0 F0 F n k 4) : LW N f s0 F0 F n (k + 1) 0 := by
  obtain ⟨w1, w2, w3⟩ := W
  exact ⟨w1, w2, fun k' d' hb hd hf v hv => w3 k' d' (by omega) hd hf v hv⟩
theorem LW_sk (W : LW N f s0 F0 F n k d) (h : F0 k ≠ some n) : LW N f s0 F0 F n (k + 1) 0 := by
  obtain ⟨w1, w2, w3⟩ := W
  refine ⟨w1, w2, fun k' d' hb hd hf v hv => ?_⟩
  by_cases e : k' = k
  · rw [e] at hf; exact absurd hf h
  · exact w3 k' d' (by omega) hd hf v hv
theorem LW_end (L : LV N f s0 F0 n) (W : LW N f s0 F0 F n k 0) (hk : N ≤ k) : LV N f s0 F (n + 1) := by
  obtain ⟨w1, w2, w3⟩ := W
  obtain ⟨l1, l2⟩ := L
  refine ⟨fun s m h => ?_, fun s m hm hr => ?_⟩
  · cases e : F0 s with
    | some m' =>
      have h2 := w1 s m' e
      rw [h] at h2
      cases h2
      obtain ⟨y1, y2, y3, y4⟩ := l1 s m e
      exact ⟨y1, by omega, y3, y4⟩
    | none =>
      rcases w2 s e with q | ⟨q, q2, q3⟩
      · rw [q] at h; cases h
      · rw [q] at h
        cases h
        exact ⟨q2, Nat.le_refl _, q3, fun m' hm' hr => l2 s m' (by omega) hr e⟩
  · by_cases e : m ≤ n
    · have := l2 s m e hr
      cases e2 : F0 s with
      | none => exact absurd e2 this
      | some m' => rw [w1 s m' e2]; exact fun q => by cases q
    · have hm' : m = n + 1 := by omega
      rw [hm'] at hr
      obtain ⟨s', d, hd, hr', hv⟩ := Rn_p hr
      cases e2 : F0 s' with
      | none => exact absurd e2 (l2 s' n (Nat.le_refl _) hr')
      | some m' =>
        obtain ⟨y1, y2, y3, y4⟩ := l1 s' m' e2
        by_cases e3 : m' = n
        · rw [e3] at e2
          exact w3 s' d (Or.inl (by omega)) hd e2 s hv
        · have h3 := l2 s (m' + 1) (by omega) (Rn_s y3 hd hv)
          cases e4 : F0 s with
          | none => exact absurd e4 h3
          | some m2 => rw [w1 s m2 e4]; exact fun q => by cases q
theorem LV_some (L : LV N f s0 F n) {s m : Nat} (hm : m ≤ n) (hr : Rn f s0 m s) : ∃ m', m' ≤ m ∧ F s = some m' := by
  cases e : F s with
  | none => exact absurd e (L.2 s m hm hr)
  | some m' =>
    refine ⟨m', ?_, rfl⟩
    by_cases q : m' ≤ m
    · exact q
    · exact absurd hr ((L.1 s m' e).2.2.2 m (by omega))
theorem LV_dead (L : LV N f s0 F n) (he : ∀ s, F s ≠ some n) (hg : ∀ s m, F s = some m → m < n → ¬ g s) : ESC f s0 g none := by
  have key : ∀ m s, Rn f s0 m s → ∃ m', F s = some m' ∧ m' < n := by
    intro m
    induction m with
    | zero =>
      intro s hr
      obtain ⟨m', h1, h2⟩ := LV_some L (Nat.zero_le _) hr
      refine ⟨m', h2, ?_⟩
      have := (L.1 s m' h2).2.1
      by_cases q : m' = n
      · rw [q] at h2; exact absurd h2 (he s)
      · omega
    | succ m ih =>
      intro v hr
      obtain ⟨s, d, hd, hr', hv⟩ := Rn_p hr
      obtain ⟨m', h1, h2⟩ := ih s hr'
      obtain ⟨m2, h3, h4⟩ := LV_some L (show m' + 1 ≤ n by omega) (Rn_s (L.1 s m' h1).2.2.1 hd hv)
      refine ⟨m2, h4, ?_⟩
      by_cases q : m2 = n
      · rw [q] at h4; exact absurd h4 (he v)
      · omega
  intro c s hs
  obtain ⟨m', h1, h2⟩ := key (cl c) s ⟨c, rfl, hs⟩
  exact hg s m' h1 h2
theorem LV_goal (L : LV N f s0 F n) (hg : ∀ s m, F s = some m → m < n → ¬ g s) {s : Nat} (hs : F s = some n) (hgs : g s) : ∃ c, ESC f s0 g (some c) ∧ cl c = n := by
  obtain ⟨c0, h1, h2⟩ := (L.1 s n hs).2.2.1
  obtain ⟨c, ⟨s', h3, h4⟩, h5⟩ := least_ex (P := fun c => ∃ s, wC f s0 c = some s ∧ g s) ⟨c0, s, h2, hgs⟩
  refine ⟨c, ⟨⟨s', h3, h4⟩, fun c' hc' s2 hs2 hg2 => h5 c' hc' ⟨s2, hs2, hg2⟩⟩, ?_⟩
  have a1 : c ≤ c0 := by
    by_cases q : c ≤ c0
    · exact q
    · exact absurd ⟨s, h2, hgs⟩ (h5 c0 (by omega))
  have a2 := cl_mono c c0 a1
  by_cases q : cl c = n
  · exact q
  · obtain ⟨m', k1, k2⟩ := LV_some L (show cl c ≤ n by omega) ⟨c, rfl, h3⟩
    exact absurd h4 (hg s' m' k2 (by omega))
/-- a goal can be reached in just r steps -/
def toG (f : Nat → Nat → Option Nat) (g : Nat → Prop) : Nat → Nat → Prop
  | 0, s => g s
  | r + 1, s => ∃ d v, d < 4 ∧ f s d = some v ∧ toG f g r v
theorem toG_ext : ∀ (r v p : Nat), toG f g r v → wC f s0 p = some v → ∃ c, (∃ s, wC f s0 c = some s ∧ g s) ∧ cl c = cl p + r ∧ pr c (cl p) = p
  | 0, v, p, h, hp => ⟨p, ⟨v, hp, h⟩, rfl, pr_e p⟩
  | r + 1, v, p, h, hp => by
    obtain ⟨d, v', hd, hv, ht⟩ := h
    obtain ⟨c, h1, h2, h3⟩ := toG_ext r v' (4 * p + d + 1) ht (by rw [wC_s _ _ _ hd, hp]; exact hv)
    rw [cl_s _ hd] at h2 h3
    refine ⟨c, h1, by omega, ?_⟩
    have h4 := pr_s (c := c) (i := cl p) (by omega)
    have h5 := dig_lt c (cl p)
    omega
section GRD
variable {c L : Nat}
/-- along the first shortest way -/
theorem esc_pre (E : ESC f s0 g (some c)) : ∀ i, i ≤ cl c → ∃ s, wC f s0 (pr c i) = some s ∧ toG f g (cl c - i) s := by
  have key : ∀ j i, i + j = cl c → ∃ s, wC f s0 (pr c i) = some s ∧ toG f g j s := by
    intro j
    induction j with
    | zero =>
      intro i hi
      obtain ⟨⟨s, h1, h2⟩, -⟩ := E
      rw [show i = cl c by omega, pr_e]
      exact ⟨s, h1, h2⟩
    | succ j ih =>
      intro i hi
      obtain ⟨s, h1, h2⟩ := ih (i + 1) (by omega)
      rw [pr_s (by omega), wC_s _ _ _ (dig_lt c i)] at h1
      cases hw : wC f s0 (pr c i) with
      | none => rw [hw] at h1; cases h1
      | some s' =>
        rw [hw] at h1
        exact ⟨s', rfl, dig c i, s, dig_lt c i, h1, h2⟩
  exact fun i hi => key (cl c - i) i (by omega)
theorem esc_low (E : ESC f s0 g (some c)) {m r s : Nat} (hr : Rn f s0 m s) (ht : toG f g r s) : cl c ≤ m + r := by
  obtain ⟨p, h1, h2⟩ := hr
  obtain ⟨c', ⟨s', h3, h4⟩, h5, -⟩ := toG_ext r s p ht h2
  by_cases q : c ≤ c'
  · have := cl_mono c c' q; omega
  · exact absurd h4 (E.2 c' (by omega) s' h3)
theorem esc_dig (E : ESC f s0 g (some c)) {i s : Nat} (hi : i < cl c) (hs : wC f s0 (pr c i) = some s) {d v : Nat} (hd : d < dig c i) (hv : f s d = some v) : ¬ toG f g (cl c - (i + 1)) v := by
  intro ht
  have hd4 := dig_lt c i
  obtain ⟨c', ⟨s', h3, h4⟩, h5, h6⟩ := toG_ext (s0 := s0) _ v (4 * pr c i + d + 1) ht (by rw [wC_s _ _ _ (by omega), hs]; exact hv)
  rw [cl_s _ (by omega), cl_pr (by omega)] at h5 h6
  have h7 := pr_s hi
  by_cases q : c ≤ c'
  · have := pr_mono (i := i + 1) q (by omega); omega
  · exact absurd h4 (E.2 c' (by omega) s' h3)
theorem esc_far (E : ESC f s0 g (some c)) (L : LV N f s0 F (cl c)) {i s : Nat} (hi : i ≤ cl c) (hs : wC f s0 (pr c i) = some s) (ht : toG f g (cl c - i) s) : F s = some i := by
  obtain ⟨m, h1, h2⟩ := LV_some L hi ⟨pr c i, cl_pr hi, hs⟩
  have := esc_low E (L.1 s m h2).2.2.1 ht
  rw [h2, show m = i by omega]
/-- good states, levels from at + 1 on, and of level at those before k and the first d directions of k -/
def GV (f : Nat → Nat → Option Nat) (g : Nat → Prop) (F : Nat → Option Nat) (L : Nat) (gd : Nat → Bool) (at_ k d : Nat) : Prop :=
  ∀ s, gd s = true ↔ ∃ a, F s = some a ∧ ((at_ < a ∧ toG f g (L - a) s) ∨ (a = at_ ∧ s < k ∧ toG f g (L - a) s) ∨ (a = at_ ∧ s = k ∧ ∃ d' v, d' < d ∧ f s d' = some v ∧ toG f g (L - (a + 1)) v))
end GRD
end BFS
