/-! popping circles: in whatever order, the same circles are popped -/
def itn (g : Nat → Nat) : Nat → Nat → Nat
  | 0, c => c
  | k + 1, c => itn g k (g c)
theorem itn_add (g : Nat → Nat) : ∀ (i j c : Nat), itn g (i + j) c = itn g j (itn g i c)
  | 0, j, c => by rw [Nat.zero_add]; rfl
  | i + 1, j, c => by rw [Nat.succ_add]; exact itn_add g i j (g c)
theorem itn_s (g : Nat → Nat) (k c : Nat) : itn g (k + 1) c = g (itn g k c) := by
  rw [itn_add g k 1 c]
  rfl
theorem itn_cg {g g' : Nat → Nat} {C : Nat → Prop} (h1 : ∀ x, C x → C (g x)) (h2 : ∀ x, C x → g' x = g x) : ∀ (k c : Nat), C c → itn g' k c = itn g k c
  | 0, c, _ => rfl
  | k + 1, c, hc => by
    show itn g' k (g' c) = itn g k (g c)
    rw [h2 c hc]
    exact itn_cg h1 h2 k (g c) (h1 c hc)
theorem itn_cl {g : Nat → Nat} {C : Nat → Prop} (h1 : ∀ x, C x → C (g x)) : ∀ (k c : Nat), C c → C (itn g k c)
  | 0, c, hc => hc
  | k + 1, c, hc => itn_cl h1 k (g c) (h1 c hc)
def gF (F : Nat → Nat → Nat) (p : Nat → Nat) : Nat → Nat := fun c => F c (p c)
/-- C is one circle of g within S -/
def Cyc (S : Nat → Prop) (g : Nat → Nat) (C : Nat → Prop) : Prop := (∃ x, C x) ∧ (∀ x, C x → S x ∧ C (g x)) ∧ (∀ x y, C x → C y → ∃ i, itn g i x = y)
def Pop (S : Nat → Prop) (F : Nat → Nat → Nat) (p p' : Nat → Nat) : Prop := ∃ C, Cyc S (gF F p) C ∧ (∀ x, C x → p' x = p x + 1) ∧ (∀ x, ¬ C x → p' x = p x)
def Pops (S : Nat → Prop) (F : Nat → Nat → Nat) : Nat → (Nat → Nat) → (Nat → Nat) → Prop
  | 0, p, q => p = q
  | k + 1, p, q => ∃ p1, Pop S F p p1 ∧ Pops S F k p1 q
theorem Pops_s {S : Nat → Prop} {F : Nat → Nat → Nat} : ∀ (k : Nat) {p q r : Nat → Nat}, Pops S F k p q → Pop S F q r → Pops S F (k + 1) p r
  | 0, p, q, r, h, h2 => by
    have e : p = q := h
    subst e
    exact ⟨r, h2, rfl⟩
  | k + 1, p, q, r, ⟨p1, h1, h3⟩, h2 => ⟨p1, h1, Pops_s k h3 h2⟩
theorem Pop_le {S : Nat → Prop} {F : Nat → Nat → Nat} {p q : Nat → Nat} (h : Pop S F p q) (x : Nat) : p x ≤ q x := by
  obtain ⟨C, -, h1, h2⟩ := h
  by_cases e : C x
  · rw [h1 x e]; omega
  · rw [h2 x e]; exact Nat.le_refl _
theorem Pops_le {S : Nat → Prop} {F : Nat → Nat → Nat} : ∀ (k : Nat) {p q : Nat → Nat}, Pops S F k p q → ∀ x, p x ≤ q x
  | 0, p, q, h, x => by have e : p = q := h; subst e; exact Nat.le_refl _
  | k + 1, p, q, ⟨p1, h1, h3⟩, x => Nat.le_trans (Pop_le h1 x) (Pops_le k h3 x)
theorem Cyc_sub {S : Nat → Prop} {g : Nat → Nat} {C1 C2 : Nat → Prop} (h1 : Cyc S g C1) (h2 : Cyc S g C2) {z : Nat} (z1 : C1 z) (z2 : C2 z) {x : Nat} (hx : C1 x) : C2 x := by
  obtain ⟨i, rfl⟩ := h1.2.2 z x z1 hx
  exact itn_cl (fun y hy => (h2.2.1 y hy).2) i z z2
theorem Cyc_mv {S : Nat → Prop} {g g' : Nat → Nat} {C : Nat → Prop} (h : Cyc S g C) (e : ∀ x, C x → g' x = g x) : Cyc S g' C := by
  obtain ⟨h1, h2, h3⟩ := h
  refine ⟨h1, fun x hx => ⟨(h2 x hx).1, by rw [e x hx]; exact (h2 x hx).2⟩, fun x y hx hy => ?_⟩
  obtain ⟨i, hi⟩ := h3 x y hx hy
  exact ⟨i, (itn_cg (fun y hy => (h2 y hy).2) e i x hx).trans hi⟩
theorem Pop_dia {S : Nat → Prop} {F : Nat → Nat → Nat} {p p1 p2 : Nat → Nat} (h1 : Pop S F p p1) (h2 : Pop S F p p2) : p1 = p2 ∨ ∃ r, Pop S F p1 r ∧ Pop S F p2 r := by
  obtain ⟨C1, c1, a1, b1⟩ := h1
  obtain ⟨C2, c2, a2, b2⟩ := h2
  by_cases hz : ∃ z, C1 z ∧ C2 z
  · obtain ⟨z, z1, z2⟩ := hz
    left
    funext x
    by_cases e : C1 x
    · rw [a1 x e, a2 x (Cyc_sub c1 c2 z1 z2 e)]
    · rw [b1 x e, b2 x (fun q => e (Cyc_sub c2 c1 z2 z1 q))]
  · right
    have d1 : ∀ x, C1 x → ¬ C2 x := fun x q1 q2 => hz ⟨x, q1, q2⟩
    have d2 : ∀ x, C2 x → ¬ C1 x := fun x q1 q2 => hz ⟨x, q2, q1⟩
    refine ⟨fun x => @ite _ (C1 x ∨ C2 x) (Classical.propDecidable _) (p x + 1) (p x), ⟨C2, Cyc_mv c2 (fun x hx => ?_), fun x hx => ?_, fun x hx => ?_⟩, ⟨C1, Cyc_mv c1 (fun x hx => ?_), fun x hx => ?_, fun x hx => ?_⟩⟩
    · unfold gF; rw [b1 x (d2 x hx)]
    · show @ite _ (C1 x ∨ C2 x) (Classical.propDecidable _) (p x + 1) (p x) = _
      rw [@if_pos _ (Classical.propDecidable _) (Or.inr hx), b1 x (d2 x hx)]
    · show @ite _ (C1 x ∨ C2 x) (Classical.propDecidable _) (p x + 1) (p x) = _
      by_cases e : C1 x
      · rw [@if_pos _ (Classical.propDecidable _) (Or.inl e), a1 x e]
      · rw [@if_neg _ (Classical.propDecidable _) (fun q => q.elim e hx), b1 x e]
    · unfold gF; rw [b2 x (d1 x hx)]
    · show @ite _ (C1 x ∨ C2 x) (Classical.propDecidable _) (p x + 1) (p x) = _
      rw [@if_pos _ (Classical.propDecidable _) (Or.inl hx), b2 x (d1 x hx)]
    · show @ite _ (C1 x ∨ C2 x) (Classical.propDecidable _) (p x + 1) (p x) = _
      by_cases e : C2 x
      · rw [@if_pos _ (Classical.propDecidable _) (Or.inr e), a2 x e]
      · rw [@if_neg _ (Classical.propDecidable _) (fun q => q.elim hx e), b2 x e]
theorem Pops_one {S : Nat → Prop} {F : Nat → Nat → Nat} {q : Nat → Nat} (tq : ∀ r, ¬ Pop S F q r) : ∀ (k : Nat) {p p1 : Nat → Nat}, Pops S F k p q → Pop S F p p1 → ∃ k', k = k' + 1 ∧ Pops S F k' p1 q
  | 0, p, p1, h, h1 => by
    have e : p = q := h
    subst e
    exact absurd h1 (tq p1)
  | k + 1, p, p1, ⟨p2, h2, h3⟩, h1 => by
    refine ⟨k, rfl, ?_⟩
    rcases Pop_dia h1 h2 with e | ⟨r, r1, r2⟩
    · rw [e]; exact h3
    · obtain ⟨k', rfl, h4⟩ := Pops_one tq k h3 r2
      exact ⟨r, r1, h4⟩
/-- whatever was popped, the rest leads to the same end -/
theorem Pops_conf {S : Nat → Prop} {F : Nat → Nat → Nat} {q : Nat → Nat} (tq : ∀ r, ¬ Pop S F q r) {k : Nat} : ∀ (j : Nat) {k : Nat} {p p' : Nat → Nat}, Pops S F k p q → Pops S F j p p' → ∃ i, k = j + i ∧ Pops S F i p' q
  | 0, k, p, p', h, h1 => by
    have e : p = p' := h1
    subst e
    exact ⟨k, (Nat.zero_add k).symm, h⟩
  | j + 1, k, p, p', h, ⟨p1, h1, h2⟩ => by
    obtain ⟨k', rfl, h3⟩ := Pops_one tq k h h1
    obtain ⟨i, rfl, h4⟩ := Pops_conf (k := k) tq j h3 h2
    exact ⟨i, by omega, h4⟩
/-- the way from a cell ends at the root -/
def Tr (S : Nat → Prop) (F : Nat → Nat → Nat) (root : Nat) (p : Nat → Nat) (c : Nat) : Prop := ∀ Q : Nat → Prop, Q root → (∀ c, S c → Q (F c (p c)) → Q c) → Q c
theorem Tr.rt {S : Nat → Prop} {F : Nat → Nat → Nat} {root : Nat} {p : Nat → Nat} : Tr S F root p root := fun _ h _ => h
theorem Tr.go {S : Nat → Prop} {F : Nat → Nat → Nat} {root : Nat} {p : Nat → Nat} {c : Nat} (a : S c) (b : Tr S F root p (F c (p c))) : Tr S F root p c := fun Q h g => g c a (b Q h g)
theorem Tr.ind {S : Nat → Prop} {F : Nat → Nat → Nat} {root : Nat} {p : Nat → Nat} {motive : ∀ c, Tr S F root p c → Prop} (rt : motive root Tr.rt) (go : ∀ {c : Nat} (a : S c) (b : Tr S F root p (F c (p c))), motive (F c (p c)) b → motive c (Tr.go a b)) (c : Nat) (h : Tr S F root p c) : motive c h := by
  obtain ⟨_, z⟩ := h (fun c => ∃ h : Tr S F root p c, motive c h) ⟨Tr.rt, rt⟩ (fun c a ⟨b, x⟩ => ⟨Tr.go a b, go a b x⟩)
  exact z
theorem Tr_term {S : Nat → Prop} {F : Nat → Nat → Nat} {root : Nat} {p : Nat → Nat} (hr : ¬ S root) (h : ∀ c, S c → Tr S F root p c) : ∀ r, ¬ Pop S F p r := by
  rintro r ⟨C, ⟨⟨x, hx⟩, h2, -⟩, -⟩
  have key : ∀ c, Tr S F root p c → ¬ C c := by
    intro c hc
    induction c, hc using Tr.ind with
    | rt => exact fun q => hr (h2 _ q).1
    | go hs _ ih => exact fun q => ih (h2 _ q).2
  exact key x (h x (h2 x hx).1) hx
/-- two runs of pops that end, end alike -/
theorem Pops_uniq {S : Nat → Prop} {F : Nat → Nat → Nat} {p q q' : Nat → Nat} {k k' : Nat} (tq : ∀ r, ¬ Pop S F q r) (tq' : ∀ r, ¬ Pop S F q' r) (h : Pops S F k p q) (h' : Pops S F k' p q') : q = q' ∧ k = k' := by
  obtain ⟨i, rfl, h2⟩ := Pops_conf (k := k) tq k' h h'
  cases i with
  | zero => have e : q' = q := h2; exact ⟨e.symm, rfl⟩
  | succ i => obtain ⟨p1, h3, -⟩ := h2; exact absurd h3 (tq' p1)
/-- a run of pops that ends is over all others -/
theorem Pops_over {S : Nat → Prop} {F : Nat → Nat → Nat} {p q p' : Nat → Nat} {k j : Nat} (tq : ∀ r, ¬ Pop S F q r) (h : Pops S F k p q) (h' : Pops S F j p p') (x : Nat) : p' x ≤ q x := by
  obtain ⟨i, -, h2⟩ := Pops_conf (k := k) tq j h h'
  exact Pops_le i h2 x
/-- popping along a list of cells -/
def bmp (p : Nat → Nat) (b : Nat → Nat) : Nat → Nat → Nat
  | 0 => p
  | m + 1 => fs (bmp p b m) (b m) (bmp p b m (b m) + 1)
theorem bmp_in {p b : Nat → Nat} : ∀ (m : Nat), (∀ i j, i < j → j < m → b i ≠ b j) → ∀ t, t < m → bmp p b m (b t) = p (b t) + 1
  | 0, _, t, h => by omega
  | m + 1, hi, t, h => by
    unfold bmp
    have hout : ∀ (k : Nat) (x : Nat), (∀ t, t < k → x ≠ b t) → bmp p b k x = p x := by
      intro k
      induction k with
      | zero => intro x _; rfl
      | succ k ih =>
        intro x hx
        unfold bmp
        rw [fs_n _ _ (hx k (by omega))]
        exact ih x (fun t ht => hx t (by omega))
    by_cases e : t = m
    · rw [e, fs_s, hout m (b m) (fun s hs => (hi s m hs (by omega)).symm)]
    · rw [fs_n _ _ (hi t m (by omega) (by omega))]
      exact bmp_in m (fun i j h1 h2 => hi i j h1 (by omega)) t (by omega)
theorem bmp_out {p b : Nat → Nat} : ∀ (k : Nat) (x : Nat), (∀ t, t < k → x ≠ b t) → bmp p b k x = p x
  | 0, x, _ => rfl
  | k + 1, x, hx => by
    unfold bmp
    rw [fs_n _ _ (hx k (by omega))]
    exact bmp_out k x (fun t ht => hx t (by omega))
theorem itn_b {g b : Nat → Nat} {L : Nat} (h : ∀ t, t < L → g (b t) = b (t + 1)) : ∀ (i s : Nat), s + i ≤ L → itn g i (b s) = b (s + i)
  | 0, s, _ => rfl
  | i + 1, s, hs => by
    show itn g i (g (b s)) = _
    rw [h s (by omega), itn_b h i (s + 1) (by omega)]
    congr 1
    omega
/-- a circle given by its cells in order is popped -/
theorem Pop_b {S : Nat → Prop} {F : Nat → Nat → Nat} {p b : Nat → Nat} {L : Nat} (hL : 0 < L) (hS : ∀ t, t < L → S (b t)) (hi : ∀ i j, i < j → j < L → b i ≠ b j) (hn : ∀ t, t < L → F (b t) (p (b t)) = b (t + 1)) (hc : b L = b 0) : Pop S F p (bmp p b L) := by
  refine ⟨fun x => ∃ t, t < L ∧ x = b t, ⟨⟨b 0, 0, hL, rfl⟩, ?_, ?_⟩, ?_, ?_⟩
  · rintro x ⟨t, ht, rfl⟩
    refine ⟨hS t ht, ?_⟩
    unfold gF
    rw [hn t ht]
    by_cases e : t + 1 = L
    · exact ⟨0, hL, by rw [e, hc]⟩
    · exact ⟨t + 1, by omega, rfl⟩
  · rintro x y ⟨s, hs, rfl⟩ ⟨t, ht, rfl⟩
    refine ⟨(L - s) + t, ?_⟩
    rw [itn_add, itn_b (g := gF F p) hn (L - s) s (by omega), show s + (L - s) = L by omega, hc, itn_b (g := gF F p) hn t 0 (by omega), Nat.zero_add]
  · rintro x ⟨t, ht, rfl⟩
    exact bmp_in L hi t ht
  · intro x hx
    exact bmp_out L x (fun t ht e => hx ⟨t, ht, e⟩)
/-- sums -/
def sumf (p : Nat → Nat) : Nat → Nat
  | 0 => 0
  | n + 1 => sumf p n + p n
theorem sumf_fs {p : Nat → Nat} {c : Nat} : ∀ n, c < n → sumf (fs p c (p c + 1)) n = sumf p n + 1
  | 0, h => by omega
  | n + 1, h => by
    have hout : ∀ k, k ≤ c → sumf (fs p c (p c + 1)) k = sumf p k := by
      intro k
      induction k with
      | zero => intro _; rfl
      | succ k ih =>
        intro hk
        unfold sumf
        rw [ih (by omega), fs_n _ _ (show k ≠ c by omega)]
    unfold sumf
    by_cases e : c = n
    · subst e; rw [hout c (Nat.le_refl _), fs_s]; omega
    · rw [sumf_fs n (by omega), fs_n _ _ (show n ≠ c by omega)]; omega
theorem sumf_le {p : Nat → Nat} {B : Nat} : ∀ n, (∀ c, c < n → p c ≤ B) → sumf p n ≤ B * n
  | 0, _ => Nat.le_refl _
  | n + 1, h => by
    have := sumf_le n (fun c hc => h c (by omega))
    have := h n (by omega)
    unfold sumf
    rw [Nat.mul_succ]
    omega
theorem sumf_bmp {p b : Nat → Nat} {n : Nat} : ∀ m, (∀ t, t < m → b t < n) → sumf (bmp p b m) n = sumf p n + m
  | 0, _ => rfl
  | m + 1, h => by
    unfold bmp
    rw [sumf_fs n (h m (by omega)), sumf_bmp m (fun t ht => h t (by omega))]
    omega
/-- n + 1 numbers below n are not all different -/
theorem pigeon : ∀ (n : Nat) (f : Nat → Nat), (∀ i, i ≤ n → f i < n) → ∃ i j, i < j ∧ j ≤ n ∧ f i = f j
  | 0, f, h => by have := h 0 (Nat.le_refl _); omega
  | n + 1, f, h => by
    by_cases e : ∃ i, i ≤ n ∧ f i = f (n + 1)
    · obtain ⟨i, h1, h2⟩ := e
      exact ⟨i, n + 1, by omega, Nat.le_refl _, h2⟩
    · -- take the value of the last away
      have hne : ∀ i, i ≤ n → f i ≠ f (n + 1) := fun i hi q => e ⟨i, hi, q⟩
      have hl := h (n + 1) (Nat.le_refl _)
      obtain ⟨i, j, h1, h2, h3⟩ := pigeon n (fun i => if f i < f (n + 1) then f i else f i - 1) (fun i hi => by
        have := h i (by omega)
        have := hne i hi
        show (if f i < f (n + 1) then f i else f i - 1) < n
        split <;> omega)
      refine ⟨i, j, h1, by omega, ?_⟩
      have a1 := hne i (by omega)
      have a2 := hne j (by omega)
      split at h3 <;> split at h3 <;> omega
/-- where the way goes on for n steps, its end lies on a circle -/
theorem on_cyc {g : Nat → Nat} {n c : Nat} (h : ∀ i, i ≤ n → itn g i c < n) : ∃ L, 0 < L ∧ itn g L (itn g n c) = itn g n c := by
  obtain ⟨i, j, h1, h2, h3⟩ := pigeon n (fun i => itn g i c) h
  refine ⟨j - i, by omega, ?_⟩
  have h3 : itn g i c = itn g j c := h3
  have e1 : itn g n c = itn g (n - j) (itn g j c) := by rw [← itn_add]; congr 1; omega
  have c1 : itn g (j - i) (itn g j c) = itn g j c := by
    rw [← h3, ← itn_add, show i + (j - i) = j by omega]
    exact h3.symm
  rw [e1, ← itn_add, Nat.add_comm, itn_add, c1]
/-- the cells of a circle in order -/
theorem cyc_b {g : Nat → Nat} {a : Nat} (h : ∃ L, 0 < L ∧ itn g L a = a) : ∃ L, 0 < L ∧ itn g L a = a ∧ ∀ i j, i < j → j < L → itn g i a ≠ itn g j a := by
  obtain ⟨L, ⟨h1, h2⟩, h3⟩ := pk_least (fun L => 0 < L ∧ itn g L a = a) h
  refine ⟨L, h1, h2, fun i j hij hj e => ?_⟩
  refine h3 (L - j + i) (by omega) ⟨by omega, ?_⟩
  rw [Nat.add_comm, itn_add, e, ← itn_add, show j + (L - j) = L by omega]
  exact h2
