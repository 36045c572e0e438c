/-! THE ABSTRACT MACHINE. A heap is a list of cells, a reference is a place in it (address = base + place). aq_W is what the bytecode does, as a least fixed point. -/
abbrev aq_E : Type := (FieldType × vp_A) ⊕ (Nat × List Value)
abbrev aq_H : Type := List aq_E
abbrev aq_F : Type := List Value → aq_H → Option Value → aq_H → Prop
abbrev aq_I : Type := Instr × Nat × List Nat
abbrev aq_L : Type := List (Option Value)
abbrev aq_K : Type := Nat → aq_L → List Value → aq_H → Nat → Nat → Prop
/-- code by pc (instruction, next pc, targets); fields by pool index (number of the declaring table, number of the field, type, may be written here); calls (kind 0 static, 1 virtual, 2 constructor; table of the receiver; parameters; cells; slots; what it does); constants; makeable tables (number, blank fields); return type; pool index of Object.<init>; the script -/
abbrev aq_Env : Type := List (Option aq_I) × List (Nat × Nat × Nat × FieldType × Bool) × List (Nat × Nat × Nat × Nat × Nat × Nat × aq_F) × List (Nat × Value) × List (Nat × Nat × List Value) × Option FieldType × Nat × Option (Nat × (Nat → Int32))
def aq_lk {α : Type} : List (Nat × α) → Nat → Option α
  | [], _ => none
  | q :: r, i => if i = q.1 then some q.2 else aq_lk r i
theorem aq_lk_mem {α : Type} : ∀ {l : List (Nat × α)} {i : Nat} {v : α}, aq_lk l i = some v → (i, v) ∈ l
  | [], _, _, h => by simp [aq_lk] at h
  | (j, w) :: r, i, v, h => by
    unfold aq_lk at h
    by_cases e : i = j
    · rw [if_pos e] at h
      cases h
      rw [e]
      exact List.mem_cons_self
    · rw [if_neg e] at h
      exact List.mem_cons_of_mem _ (aq_lk_mem h)
/-! locals -/
def aq_kill : Option Value → Option Value
  | some (.long _) => none
  | some (.double _) => none
  | x => x
def aq_s1 : aq_L → Nat → Value → aq_L
  | [], _, _ => []
  | _ :: L, 0, v => some v :: L
  | x :: L, 1, v => aq_kill x :: aq_s1 L 0 v
  | x :: L, i + 2, v => x :: aq_s1 L (i + 1) v
def aq_s2 : aq_L → Nat → Value → aq_L
  | [], _, _ => []
  | [_], 0, _ => [none]
  | _ :: _ :: L, 0, v => some v :: none :: L
  | x :: L, 1, v => aq_kill x :: aq_s2 L 0 v
  | x :: L, i + 2, v => x :: aq_s2 L (i + 1) v
def aq_gI : aq_L → Nat → (Int32 → Prop) → Prop
  | some (.int x) :: _, 0, K => K x
  | _ :: L, i + 1, K => aq_gI L i K
  | _, _, _ => False
def aq_gL : aq_L → Nat → (Int64 → Prop) → Prop
  | some (.long x) :: _, 0, K => K x
  | _ :: L, i + 1, K => aq_gL L i K
  | _, _, _ => False
def aq_isA : Value → Bool
  | .ref _ => true
  | .null => true
  | .retAddr _ => true
  | _ => false
def aq_cI : Value → Bool
  | .int _ => true
  | .retAddr _ => true
  | _ => false
def aq_cL : Value → Bool
  | .long _ => true
  | _ => false
def aq_gA : aq_L → Nat → (Value → Prop) → Prop
  | some v :: _, 0, K => aq_isA v = true ∧ K v
  | _ :: L, i + 1, K => aq_gA L i K
  | _, _, _ => False
theorem aq_gI_inv {K : Int32 → Prop} : ∀ {L : aq_L} {i : Nat}, aq_gI L i K → ∃ x, L[i]? = some (some (.int x)) ∧ K x := by
  intro L
  induction L with
  | nil => intro i h; cases i <;> simp [aq_gI] at h
  | cons a L ih =>
    intro i h
    cases i with
    | zero =>
      match a, h with
      | some (.int x), h => exact ⟨x, rfl, h⟩
    | succ i =>
      have h' : aq_gI L i K := by
        match a, h with
        | none, h => exact h
        | some _, h => simpa [aq_gI] using h
      obtain ⟨x, h1, h2⟩ := ih h'
      exact ⟨x, by simpa using h1, h2⟩
theorem aq_gL_inv {K : Int64 → Prop} : ∀ {L : aq_L} {i : Nat}, aq_gL L i K → ∃ x, L[i]? = some (some (.long x)) ∧ K x := by
  intro L
  induction L with
  | nil => intro i h; cases i <;> simp [aq_gL] at h
  | cons a L ih =>
    intro i h
    cases i with
    | zero =>
      match a, h with
      | some (.long x), h => exact ⟨x, rfl, h⟩
    | succ i =>
      have h' : aq_gL L i K := by
        match a, h with
        | none, h => exact h
        | some _, h => simpa [aq_gL] using h
      obtain ⟨x, h1, h2⟩ := ih h'
      exact ⟨x, by simpa using h1, h2⟩
theorem aq_gA_inv {K : Value → Prop} : ∀ {L : aq_L} {i : Nat}, aq_gA L i K → ∃ v, L[i]? = some (some v) ∧ aq_isA v = true ∧ K v := by
  intro L
  induction L with
  | nil => intro i h; cases i <;> simp [aq_gA] at h
  | cons a L ih =>
    intro i h
    cases i with
    | zero =>
      match a, h with
      | some v, h => exact ⟨v, rfl, h⟩
    | succ i =>
      have h' : aq_gA L i K := by
        match a, h with
        | none, h => exact h
        | some _, h => simpa [aq_gA] using h
      obtain ⟨x, h1, h2⟩ := ih h'
      exact ⟨x, by simpa using h1, h2⟩
theorem aq_gI_mo {K K' : Int32 → Prop} (hm : ∀ x, K x → K' x) : ∀ {L : aq_L} {i : Nat}, aq_gI L i K → aq_gI L i K' := by
  intro L
  induction L with
  | nil => intro i h; cases i <;> simp [aq_gI] at h
  | cons a L ih =>
    intro i h
    cases i with
    | zero =>
      match a, h with
      | some (.int x), h => exact hm x h
    | succ i =>
      match a, h with
      | none, h => exact ih h
      | some _, h => simpa [aq_gI] using ih (by simpa [aq_gI] using h)
theorem aq_gL_mo {K K' : Int64 → Prop} (hm : ∀ x, K x → K' x) : ∀ {L : aq_L} {i : Nat}, aq_gL L i K → aq_gL L i K' := by
  intro L
  induction L with
  | nil => intro i h; cases i <;> simp [aq_gL] at h
  | cons a L ih =>
    intro i h
    cases i with
    | zero =>
      match a, h with
      | some (.long x), h => exact hm x h
    | succ i =>
      match a, h with
      | none, h => exact ih h
      | some _, h => simpa [aq_gL] using ih (by simpa [aq_gL] using h)
theorem aq_gA_mo {K K' : Value → Prop} (hm : ∀ x, K x → K' x) : ∀ {L : aq_L} {i : Nat}, aq_gA L i K → aq_gA L i K' := by
  intro L
  induction L with
  | nil => intro i h; cases i <;> simp [aq_gA] at h
  | cons a L ih =>
    intro i h
    cases i with
    | zero =>
      match a, h with
      | some v, h => exact ⟨h.1, hm v h.2⟩
    | succ i =>
      match a, h with
      | none, h => exact ih h
      | some _, h => simpa [aq_gA] using ih (by simpa [aq_gA] using h)
/-! the stack's top -/
def aq_1i (st : List Value) (f : Int32 → List Value → Prop) : Prop := match st with
  | .int x :: r => f x r
  | _ => False
theorem aq_1i_inv {st : List Value} {f : Int32 → List Value → Prop} (h : aq_1i st f) : ∃ (x : Int32) (r : List Value), st = .int x :: r ∧ f x r := by
  unfold aq_1i at h
  split at h
  · exact ⟨_, _, rfl, h⟩
  · exact absurd h id
def aq_2i (st : List Value) (f : Int32 → Int32 → List Value → Prop) : Prop := match st with
  | .int y :: .int x :: r => f x y r
  | _ => False
theorem aq_2i_inv {st : List Value} {f : Int32 → Int32 → List Value → Prop} (h : aq_2i st f) : ∃ (x : Int32) (y : Int32) (r : List Value), st = .int y :: .int x :: r ∧ f x y r := by
  unfold aq_2i at h
  split at h
  · exact ⟨_, _, _, rfl, h⟩
  · exact absurd h id
def aq_1l (st : List Value) (f : Int64 → List Value → Prop) : Prop := match st with
  | .long x :: r => f x r
  | _ => False
theorem aq_1l_inv {st : List Value} {f : Int64 → List Value → Prop} (h : aq_1l st f) : ∃ (x : Int64) (r : List Value), st = .long x :: r ∧ f x r := by
  unfold aq_1l at h
  split at h
  · exact ⟨_, _, rfl, h⟩
  · exact absurd h id
def aq_2l (st : List Value) (f : Int64 → Int64 → List Value → Prop) : Prop := match st with
  | .long y :: .long x :: r => f x y r
  | _ => False
theorem aq_2l_inv {st : List Value} {f : Int64 → Int64 → List Value → Prop} (h : aq_2l st f) : ∃ (x : Int64) (y : Int64) (r : List Value), st = .long y :: .long x :: r ∧ f x y r := by
  unfold aq_2l at h
  split at h
  · exact ⟨_, _, _, rfl, h⟩
  · exact absurd h id
def aq_li (st : List Value) (f : Int64 → Int32 → List Value → Prop) : Prop := match st with
  | .int y :: .long x :: r => f x y r
  | _ => False
theorem aq_li_inv {st : List Value} {f : Int64 → Int32 → List Value → Prop} (h : aq_li st f) : ∃ (x : Int64) (y : Int32) (r : List Value), st = .int y :: .long x :: r ∧ f x y r := by
  unfold aq_li at h
  split at h
  · exact ⟨_, _, _, rfl, h⟩
  · exact absurd h id
def aq_1a (st : List Value) (f : Nat → List Value → Prop) : Prop := match st with
  | .ref a :: r => f a r
  | _ => False
theorem aq_1a_inv {st : List Value} {f : Nat → List Value → Prop} (h : aq_1a st f) : ∃ (a : Nat) (r : List Value), st = .ref a :: r ∧ f a r := by
  unfold aq_1a at h
  split at h
  · exact ⟨_, _, rfl, h⟩
  · exact absurd h id
def aq_ia (st : List Value) (f : Nat → Int32 → List Value → Prop) : Prop := match st with
  | .int i :: .ref a :: r => f a i r
  | _ => False
theorem aq_ia_inv {st : List Value} {f : Nat → Int32 → List Value → Prop} (h : aq_ia st f) : ∃ (a : Nat) (i : Int32) (r : List Value), st = .int i :: .ref a :: r ∧ f a i r := by
  unfold aq_ia at h
  split at h
  · exact ⟨_, _, _, rfl, h⟩
  · exact absurd h id
def aq_iia (st : List Value) (f : Nat → Int32 → Int32 → List Value → Prop) : Prop := match st with
  | .int x :: .int i :: .ref a :: r => f a i x r
  | _ => False
theorem aq_iia_inv {st : List Value} {f : Nat → Int32 → Int32 → List Value → Prop} (h : aq_iia st f) : ∃ (a : Nat) (i : Int32) (x : Int32) (r : List Value), st = .int x :: .int i :: .ref a :: r ∧ f a i x r := by
  unfold aq_iia at h
  split at h
  · exact ⟨_, _, _, _, rfl, h⟩
  · exact absurd h id
def aq_lia (st : List Value) (f : Nat → Int32 → Int64 → List Value → Prop) : Prop := match st with
  | .long x :: .int i :: .ref a :: r => f a i x r
  | _ => False
theorem aq_lia_inv {st : List Value} {f : Nat → Int32 → Int64 → List Value → Prop} (h : aq_lia st f) : ∃ (a : Nat) (i : Int32) (x : Int64) (r : List Value), st = .long x :: .int i :: .ref a :: r ∧ f a i x r := by
  unfold aq_lia at h
  split at h
  · exact ⟨_, _, _, _, rfl, h⟩
  · exact absurd h id
def aq_va (st : List Value) (f : Nat → Value → List Value → Prop) : Prop := match st with
  | v :: .ref a :: r => f a v r
  | _ => False
theorem aq_va_inv {st : List Value} {f : Nat → Value → List Value → Prop} (h : aq_va st f) : ∃ (a : Nat) (v : Value) (r : List Value), st = v :: .ref a :: r ∧ f a v r := by
  unfold aq_va at h
  split at h
  · exact ⟨_, _, _, rfl, h⟩
  · exact absurd h id
def aq_1v (st : List Value) (f : Value → List Value → Prop) : Prop := match st with
  | v :: r => f v r
  | _ => False
theorem aq_1v_inv {st : List Value} {f : Value → List Value → Prop} (h : aq_1v st f) : ∃ (v : Value) (r : List Value), st = v :: r ∧ f v r := by
  unfold aq_1v at h
  split at h
  · exact ⟨_, _, rfl, h⟩
  · exact absurd h id
def aq_2v (st : List Value) (f : Value → Value → List Value → Prop) : Prop := match st with
  | v :: w :: r => f v w r
  | _ => False
theorem aq_2v_inv {st : List Value} {f : Value → Value → List Value → Prop} (h : aq_2v st f) : ∃ (v : Value) (w : Value) (r : List Value), st = v :: w :: r ∧ f v w r := by
  unfold aq_2v at h
  split at h
  · exact ⟨_, _, _, rfl, h⟩
  · exact absurd h id
def aq_3v (st : List Value) (f : Value → Value → Value → List Value → Prop) : Prop := match st with
  | v :: w :: u :: r => f v w u r
  | _ => False
theorem aq_3v_inv {st : List Value} {f : Value → Value → Value → List Value → Prop} (h : aq_3v st f) : ∃ (v : Value) (w : Value) (u : Value) (r : List Value), st = v :: w :: u :: r ∧ f v w u r := by
  unfold aq_3v at h
  split at h
  · exact ⟨_, _, _, _, rfl, h⟩
  · exact absurd h id
/-! the heap's cells -/
def aq_arI (h : aq_H) (a : Nat) (ty : FieldType) (K : Nat → (Nat → Int32) → Prop) : Prop := match h[a]? with
  | some (.inl (t, n, .inl f)) => t = ty ∧ K n f
  | _ => False
theorem aq_arI_inv {h : aq_H} {a : Nat} {ty : FieldType} {K : Nat → (Nat → Int32) → Prop} (hh : aq_arI h a ty K) : ∃ n f, h[a]? = some (.inl (ty, n, .inl f)) ∧ K n f := by
  unfold aq_arI at hh
  split at hh
  · rename_i t n f e
    obtain ⟨rfl, hk⟩ := hh
    exact ⟨n, f, e, hk⟩
  · exact absurd hh id
theorem aq_arI_of {h : aq_H} {a : Nat} {ty : FieldType} {K : Nat → (Nat → Int32) → Prop} {n : Nat} {f : Nat → Int32} (e : h[a]? = some (.inl (ty, n, .inl f))) (hk : K n f) : aq_arI h a ty K := by
  unfold aq_arI
  rw [e]
  exact ⟨rfl, hk⟩
def aq_isB : FieldType → Bool
  | .boolean => true
  | .byte => true
  | _ => false
def aq_arB (h : aq_H) (a : Nat) (K : FieldType → Nat → (Nat → Int32) → Prop) : Prop := match h[a]? with
  | some (.inl (t, n, .inl f)) => aq_isB t = true ∧ K t n f
  | _ => False
theorem aq_arB_inv {h : aq_H} {a : Nat} {K : FieldType → Nat → (Nat → Int32) → Prop} (hh : aq_arB h a K) : ∃ t n f, h[a]? = some (.inl (t, n, .inl f)) ∧ aq_isB t = true ∧ K t n f := by
  unfold aq_arB at hh
  split at hh
  · rename_i t n f e
    exact ⟨t, n, f, e, hh.1, hh.2⟩
  · exact absurd hh id
theorem aq_arB_of {h : aq_H} {a : Nat} {K : FieldType → Nat → (Nat → Int32) → Prop} {t : FieldType} {n : Nat} {f : Nat → Int32} (e : h[a]? = some (.inl (t, n, .inl f))) (hb : aq_isB t = true) (hk : K t n f) : aq_arB h a K := by
  unfold aq_arB
  rw [e]
  exact ⟨hb, hk⟩
def aq_arL (h : aq_H) (a : Nat) (K : Nat → (Nat → Int64) → Prop) : Prop := match h[a]? with
  | some (.inl (t, n, .inr (.inl f))) => t = .long ∧ K n f
  | _ => False
theorem aq_arL_inv {h : aq_H} {a : Nat} {K : Nat → (Nat → Int64) → Prop} (hh : aq_arL h a K) : ∃ n f, h[a]? = some (.inl (.long, n, .inr (.inl f))) ∧ K n f := by
  unfold aq_arL at hh
  split at hh
  · rename_i t n f e
    obtain ⟨rfl, hk⟩ := hh
    exact ⟨n, f, e, hk⟩
  · exact absurd hh id
theorem aq_arL_of {h : aq_H} {a : Nat} {K : Nat → (Nat → Int64) → Prop} {n : Nat} {f : Nat → Int64} (e : h[a]? = some (.inl (.long, n, .inr (.inl f)))) (hk : K n f) : aq_arL h a K := by
  unfold aq_arL
  rw [e]
  exact ⟨rfl, hk⟩
def aq_arA (h : aq_H) (a : Nat) (K : FieldType → Nat → (Nat → Option Nat) → Prop) : Prop := match h[a]? with
  | some (.inl (t, n, .inr (.inr (.inr (.inr f))))) => K t n f
  | _ => False
theorem aq_arA_inv {h : aq_H} {a : Nat} {K : FieldType → Nat → (Nat → Option Nat) → Prop} (hh : aq_arA h a K) : ∃ t n f, h[a]? = some (.inl (t, n, .inr (.inr (.inr (.inr f))))) ∧ K t n f := by
  unfold aq_arA at hh
  split at hh
  · rename_i t n f e
    exact ⟨t, n, f, e, hh⟩
  · exact absurd hh id
theorem aq_arA_of {h : aq_H} {a : Nat} {K : FieldType → Nat → (Nat → Option Nat) → Prop} {t : FieldType} {n : Nat} {f : Nat → Option Nat} (e : h[a]? = some (.inl (t, n, .inr (.inr (.inr (.inr f)))))) (hk : K t n f) : aq_arA h a K := by
  unfold aq_arA
  rw [e]
  exact hk
def aq_arN (h : aq_H) (a : Nat) (K : FieldType → Nat → Prop) : Prop := match h[a]? with
  | some (.inl (t, x)) => K t x.1
  | _ => False
theorem aq_arN_inv {h : aq_H} {a : Nat} {K : FieldType → Nat → Prop} (hh : aq_arN h a K) : ∃ t x, h[a]? = some (.inl (t, x)) ∧ K t x.1 := by
  unfold aq_arN at hh
  split at hh
  · rename_i t x e
    exact ⟨t, x, e, hh⟩
  · exact absurd hh id
theorem aq_arN_of {h : aq_H} {a : Nat} {K : FieldType → Nat → Prop} {t : FieldType} {x : vp_A} (e : h[a]? = some (.inl (t, x))) (hk : K t x.1) : aq_arN h a K := by
  unfold aq_arN
  rw [e]
  exact hk
def aq_ob (h : aq_H) (a : Nat) (K : Nat → List Value → Prop) : Prop := match h[a]? with
  | some (.inr (ci, fs)) => K ci fs
  | _ => False
theorem aq_ob_inv {h : aq_H} {a : Nat} {K : Nat → List Value → Prop} (hh : aq_ob h a K) : ∃ ci fs, h[a]? = some (.inr (ci, fs)) ∧ K ci fs := by
  unfold aq_ob at hh
  split at hh
  · rename_i ci fs e
    exact ⟨ci, fs, e, hh⟩
  · exact absurd hh id
theorem aq_ob_of {h : aq_H} {a : Nat} {K : Nat → List Value → Prop} {ci : Nat} {fs : List Value} (e : h[a]? = some (.inr (ci, fs))) (hk : K ci fs) : aq_ob h a K := by
  unfold aq_ob
  rw [e]
  exact hk
def aq_sm {α : Type} (o : Option α) (K : α → Prop) : Prop := match o with
  | some x => K x
  | none => False
theorem aq_sm_inv {α : Type} {o : Option α} {K : α → Prop} (h : aq_sm o K) : ∃ x, o = some x ∧ K x := by
  cases o with
  | none => exact absurd h id
  | some x => exact ⟨x, rfl, h⟩
theorem aq_sm_of {α : Type} {o : Option α} {K : α → Prop} {x : α} (e : o = some x) (hk : K x) : aq_sm o K := by
  subst e
  exact hk
/-! calls -/
def aq_pop : Nat → List Value → List Value → Option (List Value × List Value)
  | 0, st, acc => some (acc, st)
  | n + 1, v :: st, acc => aq_pop n st (v :: acc)
  | _, _, _ => none
theorem aq_pop_spec : ∀ {n : Nat} {st acc as r : List Value}, aq_pop n st acc = some (as, r) → ∃ as', as = as' ++ acc ∧ st = as'.reverse ++ r ∧ as'.length = n
  | 0, st, acc, as, r, h => by
    simp [aq_pop] at h
    exact ⟨[], by simp [h.1], by simp [h.2], rfl⟩
  | n + 1, [], acc, as, r, h => by simp [aq_pop] at h
  | n + 1, v :: st, acc, as, r, h => by
    simp only [aq_pop] at h
    obtain ⟨as', h1, h2, h3⟩ := aq_pop_spec h
    exact ⟨as' ++ [v], by simp [h1], by simp [h2], by simp [h3]⟩
def aq_sh : List Value → Bool
  | _ :: _ :: _ :: _ :: _ :: _ => false
  | _ => true
theorem aq_sh_sum {st : List Value} (b : Value → Value) (hb : ∀ v, (b v).category = v.category) (h : aq_sh st = true) : ((st.map b).map fun v => v.category).sum ≤ 8 := by
  have hc : ∀ v : Value, v.category ≤ 2 := fun v => by rcases lv_cat v with e | e <;> omega
  match st, h with
  | [], _ => simp
  | [v1], _ => have h1 := hc v1; simp [hb]; omega
  | [v1, v2], _ => have h1 := hc v1; have h2 := hc v2; simp [hb]; omega
  | [v1, v2, v3], _ => have h1 := hc v1; have h2 := hc v2; have h3 := hc v3; simp [hb]; omega
  | [v1, v2, v3, v4], _ => have h1 := hc v1; have h2 := hc v2; have h3 := hc v3; have h4 := hc v4; simp [hb]; omega
def aq_rc (h : aq_H) (ci : Nat) : Value → Prop
  | .ref a => aq_ob h a (fun c _ => c = ci)
  | .retAddr k => ci = 1000 + k
  | _ => False
def aq_rn : Value → Prop
  | .ref _ => True
  | _ => False
def aq_rv : List Value → (Value → Prop) → Prop
  | v :: _, K => K v
  | [], _ => False
def aq_call (E : aq_Env) (kd idx : Nat) (st : List Value) (h : aq_H) (bc bs : Nat) (K : List Value → aq_H → Nat → Nat → Prop) : Prop :=
  aq_sm (aq_lk E.2.2.1 idx) (fun q => q.1 = kd ∧ aq_sm (aq_pop (if kd = 0 then q.2.2.1 else q.2.2.1 + 1) st []) (fun z => aq_sh z.2 = true ∧ q.2.2.2.1 ≤ bc ∧ q.2.2.2.2.1 ≤ bs ∧ (if kd = 0 then True else aq_rv z.1 (fun v => if kd = 1 then aq_rc h q.2.1 v else aq_rn v)) ∧ ∃ r h', q.2.2.2.2.2 z.1 h r h' ∧ K (r.toList ++ z.2) h' (bc - q.2.2.2.1) (bs - q.2.2.2.2.1)))
theorem aq_call_mo {E : aq_Env} {kd idx : Nat} {st : List Value} {h : aq_H} {bc bs : Nat} {K K' : List Value → aq_H → Nat → Nat → Prop} (hm : ∀ a b c d, K a b c d → K' a b c d) (hh : aq_call E kd idx st h bc bs K) : aq_call E kd idx st h bc bs K' := by
  unfold aq_call at hh ⊢
  obtain ⟨q, e1, hk, hh⟩ := aq_sm_inv hh
  obtain ⟨z, e2, h1, h2, h3, h4, r, h', h5, h6⟩ := aq_sm_inv hh
  exact aq_sm_of e1 ⟨hk, aq_sm_of e2 ⟨h1, h2, h3, h4, r, h', h5, hm _ _ _ _ h6⟩⟩
/-! switches -/
def aq_look : List (Int × Int) → List Nat → Nat → Int32 → Nat
  | p :: ps, t :: ts, d, x => if x.toInt = p.1 then t else aq_look ps ts d x
  | _, _, d, _ => d
/-! one step: K goes on, Q is the end -/
def aq_stp (E : aq_Env) (Q : Option Value → aq_H → Prop) (K : aq_K) (L : aq_L) (st : List Value) (h : aq_H) (bc bs : Nat) : aq_I → Prop
  | (.aconst_null, n, _) => K n L (.null :: st) h bc bs
  | (.iconst k, n, _) => K n L (.int (Int32.ofInt k) :: st) h bc bs
  | (.bipush k, n, _) => K n L (.int (Int8.ofInt k).toInt32 :: st) h bc bs
  | (.sipush k, n, _) => K n L (.int (Int16.ofInt k).toInt32 :: st) h bc bs
  | (.lconst k, n, _) => K n L (.long (Int64.ofNat (k : Nat)) :: st) h bc bs
  | (.iload_n k, n, _) => aq_gI L (k : Nat) (fun x => K n L (.int x :: st) h bc bs)
  | (.iload k, n, _) => aq_gI L k (fun x => K n L (.int x :: st) h bc bs)
  | (.lload_n k, n, _) => aq_gL L (k : Nat) (fun x => K n L (.long x :: st) h bc bs)
  | (.lload k, n, _) => aq_gL L k (fun x => K n L (.long x :: st) h bc bs)
  | (.aload_n k, n, _) => aq_gA L (k : Nat) (fun x => K n L (x :: st) h bc bs)
  | (.aload k, n, _) => aq_gA L k (fun x => K n L (x :: st) h bc bs)
  | (.istore_n k, n, _) => aq_1i st (fun x r => (k : Nat) < L.length ∧ K n (aq_s1 L (k : Nat) (.int x)) r h bc bs)
  | (.istore k, n, _) => aq_1i st (fun x r => k < L.length ∧ K n (aq_s1 L k (.int x)) r h bc bs)
  | (.lstore_n k, n, _) => aq_1l st (fun x r => (k : Nat) + 1 < L.length ∧ K n (aq_s2 L (k : Nat) (.long x)) r h bc bs)
  | (.lstore k, n, _) => aq_1l st (fun x r => k + 1 < L.length ∧ K n (aq_s2 L k (.long x)) r h bc bs)
  | (.astore_n k, n, _) => aq_1v st (fun v r => aq_isA v = true ∧ (k : Nat) < L.length ∧ K n (aq_s1 L (k : Nat) v) r h bc bs)
  | (.astore k, n, _) => aq_1v st (fun v r => aq_isA v = true ∧ k < L.length ∧ K n (aq_s1 L k v) r h bc bs)
  | (.iinc k d, n, _) => aq_gI L k (fun x => k < L.length ∧ K n (aq_s1 L k (.int (x + Int32.ofInt d))) st h bc bs)
  | (.iadd, n, _) => aq_2i st (fun x y r => K n L (.int (x + y) :: r) h bc bs)
  | (.isub, n, _) => aq_2i st (fun x y r => K n L (.int (x - y) :: r) h bc bs)
  | (.imul, n, _) => aq_2i st (fun x y r => K n L (.int (x * y) :: r) h bc bs)
  | (.iand, n, _) => aq_2i st (fun x y r => K n L (.int (x &&& y) :: r) h bc bs)
  | (.ior, n, _) => aq_2i st (fun x y r => K n L (.int (x ||| y) :: r) h bc bs)
  | (.ixor, n, _) => aq_2i st (fun x y r => K n L (.int (x ^^^ y) :: r) h bc bs)
  | (.ishl, n, _) => aq_2i st (fun x y r => K n L (.int (x <<< (y &&& 31)) :: r) h bc bs)
  | (.ishr, n, _) => aq_2i st (fun x y r => K n L (.int (x >>> (y &&& 31)) :: r) h bc bs)
  | (.iushr, n, _) => aq_2i st (fun x y r => K n L (.int ((x.toUInt32 >>> (y.toUInt32 &&& Int32.toUInt32 31)).toInt32) :: r) h bc bs)
  | (.idiv, n, _) => aq_2i st (fun x y r => ¬ y = 0 ∧ K n L (.int (x / y) :: r) h bc bs)
  | (.irem, n, _) => aq_2i st (fun x y r => ¬ y = 0 ∧ K n L (.int (x - x / y * y) :: r) h bc bs)
  | (.ladd, n, _) => aq_2l st (fun x y r => K n L (.long (x + y) :: r) h bc bs)
  | (.lsub, n, _) => aq_2l st (fun x y r => K n L (.long (x - y) :: r) h bc bs)
  | (.lmul, n, _) => aq_2l st (fun x y r => K n L (.long (x * y) :: r) h bc bs)
  | (.land, n, _) => aq_2l st (fun x y r => K n L (.long (x &&& y) :: r) h bc bs)
  | (.lor, n, _) => aq_2l st (fun x y r => K n L (.long (x ||| y) :: r) h bc bs)
  | (.lxor, n, _) => aq_2l st (fun x y r => K n L (.long (x ^^^ y) :: r) h bc bs)
  | (.ldiv, n, _) => aq_2l st (fun x y r => ¬ y = 0 ∧ K n L (.long (x / y) :: r) h bc bs)
  | (.lrem, n, _) => aq_2l st (fun x y r => ¬ y = 0 ∧ K n L (.long (x - x / y * y) :: r) h bc bs)
  | (.lcmp, n, _) => aq_2l st (fun x y r => K n L (.int (lg_cmp x y) :: r) h bc bs)
  | (.ineg, n, _) => aq_1i st (fun x r => K n L (.int (-x) :: r) h bc bs)
  | (.i2l, n, _) => aq_1i st (fun x r => K n L (.long x.toInt64 :: r) h bc bs)
  | (.i2b, n, _) => aq_1i st (fun x r => K n L (.int x.toInt8.toInt32 :: r) h bc bs)
  | (.i2c, n, _) => aq_1i st (fun x r => K n L (.int (x.toUInt32 % 65536).toInt32 :: r) h bc bs)
  | (.i2s, n, _) => aq_1i st (fun x r => K n L (.int x.toInt16.toInt32 :: r) h bc bs)
  | (.lneg, n, _) => aq_1l st (fun x r => K n L (.long (-x) :: r) h bc bs)
  | (.l2i, n, _) => aq_1l st (fun x r => K n L (.int x.toInt32 :: r) h bc bs)
  | (.lshl, n, _) => aq_li st (fun x y r => K n L (.long (x <<< (y.toInt64 &&& 63)) :: r) h bc bs)
  | (.lshr, n, _) => aq_li st (fun x y r => K n L (.long (x >>> (y.toInt64 &&& 63)) :: r) h bc bs)
  | (.lushr, n, _) => aq_li st (fun x y r => K n L (.long ((x.toUInt64 >>> (y.toInt64.toUInt64 &&& Int64.toUInt64 63)).toInt64) :: r) h bc bs)
  | (.pop, n, _) => aq_1v st (fun v r => v.category = 1 ∧ K n L r h bc bs)
  | (.dup, n, _) => aq_1v st (fun v r => v.category = 1 ∧ K n L (v :: v :: r) h bc bs)
  | (.dup_x1, n, _) => aq_2v st (fun v w r => v.category = 1 ∧ w.category = 1 ∧ K n L (v :: w :: v :: r) h bc bs)
  | (.dup_x2, n, _) => aq_3v st (fun v w u r => v.category = 1 ∧ w.category = 1 ∧ u.category = 1 ∧ K n L (v :: w :: u :: v :: r) h bc bs)
  | (.dup2, n, _) => aq_1v st (fun v r => if v.category = 2 then K n L (v :: v :: r) h bc bs else aq_1v r (fun w r => w.category = 1 ∧ K n L (v :: w :: v :: w :: r) h bc bs))
  | (.dup2_x1, n, _) => aq_2v st (fun v w r => v.category = 2 ∧ w.category = 1 ∧ K n L (v :: w :: v :: r) h bc bs)
  | (.dup2_x2, n, _) => aq_3v st (fun v w u r => v.category = 2 ∧ w.category = 1 ∧ u.category = 1 ∧ K n L (v :: w :: u :: v :: r) h bc bs)
  | (.ifCond .eq _, n, t :: _) => aq_1i st (fun x r => if x = 0 then K t L r h bc bs else K n L r h bc bs)
  | (.if_icmp .eq _, n, t :: _) => aq_2i st (fun x y r => if x = y then K t L r h bc bs else K n L r h bc bs)
  | (.ifCond .ne _, n, t :: _) => aq_1i st (fun x r => if ¬ x = 0 then K t L r h bc bs else K n L r h bc bs)
  | (.if_icmp .ne _, n, t :: _) => aq_2i st (fun x y r => if ¬ x = y then K t L r h bc bs else K n L r h bc bs)
  | (.ifCond .lt _, n, t :: _) => aq_1i st (fun x r => if x < 0 then K t L r h bc bs else K n L r h bc bs)
  | (.if_icmp .lt _, n, t :: _) => aq_2i st (fun x y r => if x < y then K t L r h bc bs else K n L r h bc bs)
  | (.ifCond .ge _, n, t :: _) => aq_1i st (fun x r => if 0 ≤ x then K t L r h bc bs else K n L r h bc bs)
  | (.if_icmp .ge _, n, t :: _) => aq_2i st (fun x y r => if y ≤ x then K t L r h bc bs else K n L r h bc bs)
  | (.ifCond .gt _, n, t :: _) => aq_1i st (fun x r => if 0 < x then K t L r h bc bs else K n L r h bc bs)
  | (.if_icmp .gt _, n, t :: _) => aq_2i st (fun x y r => if y < x then K t L r h bc bs else K n L r h bc bs)
  | (.ifCond .le _, n, t :: _) => aq_1i st (fun x r => if x ≤ 0 then K t L r h bc bs else K n L r h bc bs)
  | (.if_icmp .le _, n, t :: _) => aq_2i st (fun x y r => if x ≤ y then K t L r h bc bs else K n L r h bc bs)
  | (.ifnull _, n, t :: _) => aq_1v st (fun v r => aq_isA v = true ∧ (if v = .null then K t L r h bc bs else K n L r h bc bs))
  | (.ifnonnull _, n, t :: _) => aq_1v st (fun v r => aq_isA v = true ∧ (if v = .null then K n L r h bc bs else K t L r h bc bs))
  | (.goto _, _, t :: _) => K t L st h bc bs
  | (.tableswitch _ lo hi _, _, ts) => aq_1i st (fun x r => aq_sm (if x.toInt < lo ∨ hi < x.toInt then ts[0]? else ts[(x.toInt - lo).toNat + 1]?) (fun t => K t L r h bc bs))
  | (.lookupswitch _ ps, _, d :: ts) => aq_1i st (fun x r => K (aq_look ps.toList ts d x) L r h bc bs)
  | (.getfield idx, n, _) => aq_1a st (fun a r => aq_sm (aq_lk E.2.1 idx) (fun q => aq_ob h a (fun ci fs => ci = q.1 ∧ aq_sm fs[q.2.1]? (fun v => K n L (v :: r) h bc bs))))
  | (.putfield idx, n, _) => aq_va st (fun a v r => aq_sm (aq_lk E.2.1 idx) (fun q => q.2.2.2 = true ∧ narrow q.2.2.1 v = v ∧ fits q.2.2.1 v = true ∧ aq_ob h a (fun ci fs => ci = q.1 ∧ q.2.1 < fs.length ∧ K n L r (h.set a (.inr (ci, fs.set q.2.1 v))) bc bs)))
  | (.iaload, n, _) => (aq_ia st (fun a i r => aq_arI h a .int (fun m f => vp_in i m ∧ K n L (.int (f i.toNatClampNeg) :: r) h bc bs))) ∨ (aq_2v st (fun v w r => ∃ i, v = .int i ∧ w = .retAddr 0 ∧ aq_sm E.2.2.2.2.2.2.2 (fun q => vp_in i q.1 ∧ K n L (.int (q.2 i.toNatClampNeg) :: r) h bc bs)))
  | (.baload, n, _) => aq_ia st (fun a i r => aq_arB h a (fun _ m f => vp_in i m ∧ K n L (.int (f i.toNatClampNeg) :: r) h bc bs))
  | (.laload, n, _) => aq_ia st (fun a i r => aq_arL h a (fun m f => vp_in i m ∧ K n L (.long (f i.toNatClampNeg) :: r) h bc bs))
  | (.aaload, n, _) => aq_ia st (fun a i r => aq_arA h a (fun t m f => t = .array .long ∧ vp_in i m ∧ K n L (va_rf (f i.toNatClampNeg) :: r) h bc bs))
  | (.iastore, n, _) => aq_iia st (fun a i x r => aq_arI h a .int (fun m f => vp_in i m ∧ K n L r (h.set a (.inl (.int, m, .inl (upd f i.toNatClampNeg x)))) bc bs))
  | (.bastore, n, _) => aq_iia st (fun a i x r => aq_arB h a (fun t m f => vp_in i m ∧ K n L r (h.set a (.inl (t, m, .inl (upd f i.toNatClampNeg (vp_nar t x))))) bc bs))
  | (.lastore, n, _) => aq_lia st (fun a i x r => aq_arL h a (fun m f => vp_in i m ∧ K n L r (h.set a (.inl (.long, m, .inr (.inl (vp_updL f i.toNatClampNeg x))))) bc bs))
  | (.arraylength, n, _) => (aq_1a st (fun a r => aq_arN h a (fun t m => t ∈ [FieldType.int, .boolean, .long, .byte, .array .long] ∧ K n L (.int (Int32.ofNat m) :: r) h bc bs))) ∨ (aq_1v st (fun v r => v = .retAddr 0 ∧ aq_sm E.2.2.2.2.2.2.2 (fun q => K n L (.int (Int32.ofNat q.1) :: r) h bc bs)))
  | (.newarray .int, n, _) => aq_1i st (fun x r => ¬ x < 0 ∧ x.toNatClampNeg ≤ 65536 ∧ 1 ≤ bc ∧ x.toNatClampNeg ≤ bs ∧ K n L (.ref h.length :: r) (h ++ [.inl (.int, x.toNatClampNeg, .inl (fun _ => 0))]) (bc - 1) (bs - x.toNatClampNeg))
  | (.newarray .boolean, n, _) => aq_1i st (fun x r => ¬ x < 0 ∧ x.toNatClampNeg ≤ 65536 ∧ 1 ≤ bc ∧ x.toNatClampNeg ≤ bs ∧ K n L (.ref h.length :: r) (h ++ [.inl (.boolean, x.toNatClampNeg, .inl (fun _ => 0))]) (bc - 1) (bs - x.toNatClampNeg))
  | (.newarray .byte, n, _) => aq_1i st (fun x r => ¬ x < 0 ∧ x.toNatClampNeg ≤ 65536 ∧ 1 ≤ bc ∧ x.toNatClampNeg ≤ bs ∧ K n L (.ref h.length :: r) (h ++ [.inl (.byte, x.toNatClampNeg, .inl (fun _ => 0))]) (bc - 1) (bs - x.toNatClampNeg))
  | (.newarray .long, n, _) => aq_1i st (fun x r => ¬ x < 0 ∧ x.toNatClampNeg ≤ 65536 ∧ 1 ≤ bc ∧ x.toNatClampNeg ≤ bs ∧ K n L (.ref h.length :: r) (h ++ [.inl (.long, x.toNatClampNeg, .inr (.inl (fun _ => 0)))]) (bc - 1) (bs - x.toNatClampNeg))
  | (.multianewarray _ 2, n, _) => aq_2i st (fun x y r => ¬ x < 0 ∧ ¬ y < 0 ∧ x.toNatClampNeg ≤ 65536 ∧ y.toNatClampNeg ≤ 65536 ∧ 1 + x.toNatClampNeg ≤ bc ∧ x.toNatClampNeg + x.toNatClampNeg * y.toNatClampNeg ≤ bs ∧ K n L (.ref h.length :: r) (h ++ (.inl (.array .long, x.toNatClampNeg, .inr (.inr (.inr (.inr (fun j => some (h.length + 1 + j)))))) :: List.replicate x.toNatClampNeg (.inl (.long, y.toNatClampNeg, .inr (.inl (fun _ => 0)))))) (bc - (1 + x.toNatClampNeg)) (bs - (x.toNatClampNeg + x.toNatClampNeg * y.toNatClampNeg)))
  | (.new idx, n, _) => aq_sm (aq_lk E.2.2.2.2.1 idx) (fun q => 1 ≤ bc ∧ q.2.length ≤ bs ∧ K n L (.ref h.length :: st) (h ++ [.inr q]) (bc - 1) (bs - q.2.length))
  | (.ldc idx, n, _) => aq_sm (aq_lk E.2.2.2.1 idx) (fun v => aq_cI v = true ∧ K n L (v :: st) h bc bs)
  | (.ldc2_w idx, n, _) => aq_sm (aq_lk E.2.2.2.1 idx) (fun v => aq_cL v = true ∧ K n L (v :: st) h bc bs)
  | (.invokevirtual idx, n, _) => aq_call E 1 idx st h bc bs (fun s h b c => K n L s h b c)
  | (.invokestatic idx, n, _) => aq_call E 0 idx st h bc bs (fun s h b c => K n L s h b c)
  | (.invokespecial idx, n, _) => if idx = E.2.2.2.2.2.2.1 then aq_1a st (fun _ r => ¬ idx = 0 ∧ aq_sh r = true ∧ K n L r h bc bs) else aq_call E 2 idx st h bc bs (fun s h b c => K n L s h b c)
  | (.ireturn, _, _) => aq_1i st (fun x r => r = [] ∧ aq_sm E.2.2.2.2.2.1 (fun ty => narrow ty (.int x) = .int x ∧ Q (some (.int x)) h))
  | (.lreturn, _, _) => aq_1l st (fun x r => r = [] ∧ E.2.2.2.2.2.1 = some .long ∧ Q (some (.long x)) h)
  | (.return_, _, _) => st = [] ∧ E.2.2.2.2.2.1 = none ∧ Q none h
  | _ => False
theorem aq_stp_mo {E : aq_Env} {Q : Option Value → aq_H → Prop} {K K' : aq_K} (hm : ∀ pc L st h bc bs, K pc L st h bc bs → K' pc L st h bc bs) {L : aq_L} {st : List Value} {h : aq_H} {bc bs : Nat} {i : aq_I} (hh : aq_stp E Q K L st h bc bs i) : aq_stp E Q K' L st h bc bs i := by
  unfold aq_stp at hh
  split at hh
  · simp only [aq_stp]
    exact hm _ _ _ _ _ _ hh
  · simp only [aq_stp]
    exact hm _ _ _ _ _ _ hh
  · simp only [aq_stp]
    exact hm _ _ _ _ _ _ hh
  · simp only [aq_stp]
    exact hm _ _ _ _ _ _ hh
  · simp only [aq_stp]
    exact hm _ _ _ _ _ _ hh
  · simp only [aq_stp]
    exact aq_gI_mo (fun x => hm _ _ _ _ _ _) hh
  · simp only [aq_stp]
    exact aq_gI_mo (fun x => hm _ _ _ _ _ _) hh
  · simp only [aq_stp]
    exact aq_gL_mo (fun x => hm _ _ _ _ _ _) hh
  · simp only [aq_stp]
    exact aq_gL_mo (fun x => hm _ _ _ _ _ _) hh
  · simp only [aq_stp]
    exact aq_gA_mo (fun x => hm _ _ _ _ _ _) hh
  · simp only [aq_stp]
    exact aq_gA_mo (fun x => hm _ _ _ _ _ _) hh
  · simp only [aq_stp]
    obtain ⟨x, r, e0, h1, hw⟩ := aq_1i_inv hh; clear hh; subst e0; have hh := hw; clear hw; exact ⟨h1, hm _ _ _ _ _ _ hh⟩
  · simp only [aq_stp]
    obtain ⟨x, r, e0, h1, hw⟩ := aq_1i_inv hh; clear hh; subst e0; have hh := hw; clear hw; exact ⟨h1, hm _ _ _ _ _ _ hh⟩
  · simp only [aq_stp]
    obtain ⟨x, r, e0, h1, hw⟩ := aq_1l_inv hh; clear hh; subst e0; have hh := hw; clear hw; exact ⟨h1, hm _ _ _ _ _ _ hh⟩
  · simp only [aq_stp]
    obtain ⟨x, r, e0, h1, hw⟩ := aq_1l_inv hh; clear hh; subst e0; have hh := hw; clear hw; exact ⟨h1, hm _ _ _ _ _ _ hh⟩
  · simp only [aq_stp]
    obtain ⟨x, r, e0, h1, h2, hw⟩ := aq_1v_inv hh; clear hh; subst e0; have hh := hw; clear hw; exact ⟨h1, h2, hm _ _ _ _ _ _ hh⟩
  · simp only [aq_stp]
    obtain ⟨x, r, e0, h1, h2, hw⟩ := aq_1v_inv hh; clear hh; subst e0; have hh := hw; clear hw; exact ⟨h1, h2, hm _ _ _ _ _ _ hh⟩
  · simp only [aq_stp]
    exact aq_gI_mo (fun x hx => ⟨hx.1, hm _ _ _ _ _ _ hx.2⟩) hh
  · simp only [aq_stp]
    obtain ⟨x, y, r, e0, hw⟩ := aq_2i_inv hh; clear hh; subst e0; have hh := hw; clear hw; exact hm _ _ _ _ _ _ hh
  · simp only [aq_stp]
    obtain ⟨x, y, r, e0, hw⟩ := aq_2i_inv hh; clear hh; subst e0; have hh := hw; clear hw; exact hm _ _ _ _ _ _ hh
  · simp only [aq_stp]
    obtain ⟨x, y, r, e0, hw⟩ := aq_2i_inv hh; clear hh; subst e0; have hh := hw; clear hw; exact hm _ _ _ _ _ _ hh
  · simp only [aq_stp]
    obtain ⟨x, y, r, e0, hw⟩ := aq_2i_inv hh; clear hh; subst e0; have hh := hw; clear hw; exact hm _ _ _ _ _ _ hh
  · simp only [aq_stp]
    obtain ⟨x, y, r, e0, hw⟩ := aq_2i_inv hh; clear hh; subst e0; have hh := hw; clear hw; exact hm _ _ _ _ _ _ hh
  · simp only [aq_stp]
    obtain ⟨x, y, r, e0, hw⟩ := aq_2i_inv hh; clear hh; subst e0; have hh := hw; clear hw; exact hm _ _ _ _ _ _ hh
  · simp only [aq_stp]
    obtain ⟨x, y, r, e0, hw⟩ := aq_2i_inv hh; clear hh; subst e0; have hh := hw; clear hw; exact hm _ _ _ _ _ _ hh
  · simp only [aq_stp]
    obtain ⟨x, y, r, e0, hw⟩ := aq_2i_inv hh; clear hh; subst e0; have hh := hw; clear hw; exact hm _ _ _ _ _ _ hh
  · simp only [aq_stp]
    obtain ⟨x, y, r, e0, hw⟩ := aq_2i_inv hh; clear hh; subst e0; have hh := hw; clear hw; exact hm _ _ _ _ _ _ hh
  · simp only [aq_stp]
    obtain ⟨x, y, r, e0, h1, hw⟩ := aq_2i_inv hh; clear hh; subst e0; have hh := hw; clear hw; exact ⟨h1, hm _ _ _ _ _ _ hh⟩
  · simp only [aq_stp]
    obtain ⟨x, y, r, e0, h1, hw⟩ := aq_2i_inv hh; clear hh; subst e0; have hh := hw; clear hw; exact ⟨h1, hm _ _ _ _ _ _ hh⟩
  · simp only [aq_stp]
    obtain ⟨x, y, r, e0, hw⟩ := aq_2l_inv hh; clear hh; subst e0; have hh := hw; clear hw; exact hm _ _ _ _ _ _ hh
  · simp only [aq_stp]
    obtain ⟨x, y, r, e0, hw⟩ := aq_2l_inv hh; clear hh; subst e0; have hh := hw; clear hw; exact hm _ _ _ _ _ _ hh
  · simp only [aq_stp]
    obtain ⟨x, y, r, e0, hw⟩ := aq_2l_inv hh; clear hh; subst e0; have hh := hw; clear hw; exact hm _ _ _ _ _ _ hh
  · simp only [aq_stp]
    obtain ⟨x, y, r, e0, hw⟩ := aq_2l_inv hh; clear hh; subst e0; have hh := hw; clear hw; exact hm _ _ _ _ _ _ hh
  · simp only [aq_stp]
    obtain ⟨x, y, r, e0, hw⟩ := aq_2l_inv hh; clear hh; subst e0; have hh := hw; clear hw; exact hm _ _ _ _ _ _ hh
  · simp only [aq_stp]
    obtain ⟨x, y, r, e0, hw⟩ := aq_2l_inv hh; clear hh; subst e0; have hh := hw; clear hw; exact hm _ _ _ _ _ _ hh
  · simp only [aq_stp]
    obtain ⟨x, y, r, e0, h1, hw⟩ := aq_2l_inv hh; clear hh; subst e0; have hh := hw; clear hw; exact ⟨h1, hm _ _ _ _ _ _ hh⟩
  · simp only [aq_stp]
    obtain ⟨x, y, r, e0, h1, hw⟩ := aq_2l_inv hh; clear hh; subst e0; have hh := hw; clear hw; exact ⟨h1, hm _ _ _ _ _ _ hh⟩
  · simp only [aq_stp]
    obtain ⟨x, y, r, e0, hw⟩ := aq_2l_inv hh; clear hh; subst e0; have hh := hw; clear hw; exact hm _ _ _ _ _ _ hh
  · simp only [aq_stp]
    obtain ⟨x, r, e0, hw⟩ := aq_1i_inv hh; clear hh; subst e0; have hh := hw; clear hw; exact hm _ _ _ _ _ _ hh
  · simp only [aq_stp]
    obtain ⟨x, r, e0, hw⟩ := aq_1i_inv hh; clear hh; subst e0; have hh := hw; clear hw; exact hm _ _ _ _ _ _ hh
  · simp only [aq_stp]
    obtain ⟨x, r, e0, hw⟩ := aq_1i_inv hh; clear hh; subst e0; have hh := hw; clear hw; exact hm _ _ _ _ _ _ hh
  · simp only [aq_stp]
    obtain ⟨x, r, e0, hw⟩ := aq_1i_inv hh; clear hh; subst e0; have hh := hw; clear hw; exact hm _ _ _ _ _ _ hh
  · simp only [aq_stp]
    obtain ⟨x, r, e0, hw⟩ := aq_1i_inv hh; clear hh; subst e0; have hh := hw; clear hw; exact hm _ _ _ _ _ _ hh
  · simp only [aq_stp]
    obtain ⟨x, r, e0, hw⟩ := aq_1l_inv hh; clear hh; subst e0; have hh := hw; clear hw; exact hm _ _ _ _ _ _ hh
  · simp only [aq_stp]
    obtain ⟨x, r, e0, hw⟩ := aq_1l_inv hh; clear hh; subst e0; have hh := hw; clear hw; exact hm _ _ _ _ _ _ hh
  · simp only [aq_stp]
    obtain ⟨x, y, r, e0, hw⟩ := aq_li_inv hh; clear hh; subst e0; have hh := hw; clear hw; exact hm _ _ _ _ _ _ hh
  · simp only [aq_stp]
    obtain ⟨x, y, r, e0, hw⟩ := aq_li_inv hh; clear hh; subst e0; have hh := hw; clear hw; exact hm _ _ _ _ _ _ hh
  · simp only [aq_stp]
    obtain ⟨x, y, r, e0, hw⟩ := aq_li_inv hh; clear hh; subst e0; have hh := hw; clear hw; exact hm _ _ _ _ _ _ hh
  · simp only [aq_stp]
    obtain ⟨v, r, e0, h1, hw⟩ := aq_1v_inv hh; clear hh; subst e0; have hh := hw; clear hw; exact ⟨h1, hm _ _ _ _ _ _ hh⟩
  · simp only [aq_stp]
    obtain ⟨v, r, e0, h1, hw⟩ := aq_1v_inv hh; clear hh; subst e0; have hh := hw; clear hw; exact ⟨h1, hm _ _ _ _ _ _ hh⟩
  · simp only [aq_stp]
    obtain ⟨v, w, r, e0, h1, h2, hw⟩ := aq_2v_inv hh; clear hh; subst e0; have hh := hw; clear hw; exact ⟨h1, h2, hm _ _ _ _ _ _ hh⟩
  · simp only [aq_stp]
    obtain ⟨v, w, u, r, e0, h1, h2, h3, hw⟩ := aq_3v_inv hh; clear hh; subst e0; have hh := hw; clear hw; exact ⟨h1, h2, h3, hm _ _ _ _ _ _ hh⟩
  · simp only [aq_stp]
    obtain ⟨v, r, e0, hw⟩ := aq_1v_inv hh; clear hh; subst e0; have hh := hw; clear hw
    by_cases hc : v.category = 2
    · rw [if_pos hc] at hh; show (if _ then _ else _); rw [if_pos hc]; exact hm _ _ _ _ _ _ hh
    · rw [if_neg hc] at hh; show (if _ then _ else _); rw [if_neg hc]; obtain ⟨w, r, e0, h1, hw⟩ := aq_1v_inv hh; clear hh; subst e0; have hh := hw; clear hw; exact ⟨h1, hm _ _ _ _ _ _ hh⟩
  · simp only [aq_stp]
    obtain ⟨v, w, r, e0, h1, h2, hw⟩ := aq_2v_inv hh; clear hh; subst e0; have hh := hw; clear hw; exact ⟨h1, h2, hm _ _ _ _ _ _ hh⟩
  · simp only [aq_stp]
    obtain ⟨v, w, u, r, e0, h1, h2, h3, hw⟩ := aq_3v_inv hh; clear hh; subst e0; have hh := hw; clear hw; exact ⟨h1, h2, h3, hm _ _ _ _ _ _ hh⟩
  · simp only [aq_stp]
    obtain ⟨x, r, e0, hw⟩ := aq_1i_inv hh; clear hh; subst e0; have hz := hw; clear hw
    show (if _ then _ else _)
    split at hz
    · rename_i hc; rw [if_pos hc]; exact hm _ _ _ _ _ _ hz
    · rename_i hc; rw [if_neg hc]; exact hm _ _ _ _ _ _ hz
  · simp only [aq_stp]
    obtain ⟨x, y, r, e0, hw⟩ := aq_2i_inv hh; clear hh; subst e0; have hz := hw; clear hw
    show (if _ then _ else _)
    split at hz
    · rename_i hc; rw [if_pos hc]; exact hm _ _ _ _ _ _ hz
    · rename_i hc; rw [if_neg hc]; exact hm _ _ _ _ _ _ hz
  · simp only [aq_stp]
    obtain ⟨x, r, e0, hw⟩ := aq_1i_inv hh; clear hh; subst e0; have hz := hw; clear hw
    show (if _ then _ else _)
    split at hz
    · rename_i hc; rw [if_pos hc]; exact hm _ _ _ _ _ _ hz
    · rename_i hc; rw [if_neg hc]; exact hm _ _ _ _ _ _ hz
  · simp only [aq_stp]
    obtain ⟨x, y, r, e0, hw⟩ := aq_2i_inv hh; clear hh; subst e0; have hz := hw; clear hw
    show (if _ then _ else _)
    split at hz
    · rename_i hc; rw [if_pos hc]; exact hm _ _ _ _ _ _ hz
    · rename_i hc; rw [if_neg hc]; exact hm _ _ _ _ _ _ hz
  · simp only [aq_stp]
    obtain ⟨x, r, e0, hw⟩ := aq_1i_inv hh; clear hh; subst e0; have hz := hw; clear hw
    show (if _ then _ else _)
    split at hz
    · rename_i hc; rw [if_pos hc]; exact hm _ _ _ _ _ _ hz
    · rename_i hc; rw [if_neg hc]; exact hm _ _ _ _ _ _ hz
  · simp only [aq_stp]
    obtain ⟨x, y, r, e0, hw⟩ := aq_2i_inv hh; clear hh; subst e0; have hz := hw; clear hw
    show (if _ then _ else _)
    split at hz
    · rename_i hc; rw [if_pos hc]; exact hm _ _ _ _ _ _ hz
    · rename_i hc; rw [if_neg hc]; exact hm _ _ _ _ _ _ hz
  · simp only [aq_stp]
    obtain ⟨x, r, e0, hw⟩ := aq_1i_inv hh; clear hh; subst e0; have hz := hw; clear hw
    show (if _ then _ else _)
    split at hz
    · rename_i hc; rw [if_pos hc]; exact hm _ _ _ _ _ _ hz
    · rename_i hc; rw [if_neg hc]; exact hm _ _ _ _ _ _ hz
  · simp only [aq_stp]
    obtain ⟨x, y, r, e0, hw⟩ := aq_2i_inv hh; clear hh; subst e0; have hz := hw; clear hw
    show (if _ then _ else _)
    split at hz
    · rename_i hc; rw [if_pos hc]; exact hm _ _ _ _ _ _ hz
    · rename_i hc; rw [if_neg hc]; exact hm _ _ _ _ _ _ hz
  · simp only [aq_stp]
    obtain ⟨x, r, e0, hw⟩ := aq_1i_inv hh; clear hh; subst e0; have hz := hw; clear hw
    show (if _ then _ else _)
    split at hz
    · rename_i hc; rw [if_pos hc]; exact hm _ _ _ _ _ _ hz
    · rename_i hc; rw [if_neg hc]; exact hm _ _ _ _ _ _ hz
  · simp only [aq_stp]
    obtain ⟨x, y, r, e0, hw⟩ := aq_2i_inv hh; clear hh; subst e0; have hz := hw; clear hw
    show (if _ then _ else _)
    split at hz
    · rename_i hc; rw [if_pos hc]; exact hm _ _ _ _ _ _ hz
    · rename_i hc; rw [if_neg hc]; exact hm _ _ _ _ _ _ hz
  · simp only [aq_stp]
    obtain ⟨x, r, e0, hw⟩ := aq_1i_inv hh; clear hh; subst e0; have hz := hw; clear hw
    show (if _ then _ else _)
    split at hz
    · rename_i hc; rw [if_pos hc]; exact hm _ _ _ _ _ _ hz
    · rename_i hc; rw [if_neg hc]; exact hm _ _ _ _ _ _ hz
  · simp only [aq_stp]
    obtain ⟨x, y, r, e0, hw⟩ := aq_2i_inv hh; clear hh; subst e0; have hz := hw; clear hw
    show (if _ then _ else _)
    split at hz
    · rename_i hc; rw [if_pos hc]; exact hm _ _ _ _ _ _ hz
    · rename_i hc; rw [if_neg hc]; exact hm _ _ _ _ _ _ hz
  · simp only [aq_stp]
    obtain ⟨x, r, e0, h1, hw⟩ := aq_1v_inv hh; clear hh; subst e0; have hz := hw; clear hw
    refine ⟨h1, ?_⟩
    split at hz
    · rename_i hc; rw [if_pos hc]; exact hm _ _ _ _ _ _ hz
    · rename_i hc; rw [if_neg hc]; exact hm _ _ _ _ _ _ hz
  · simp only [aq_stp]
    obtain ⟨x, r, e0, h1, hw⟩ := aq_1v_inv hh; clear hh; subst e0; have hz := hw; clear hw
    refine ⟨h1, ?_⟩
    split at hz
    · rename_i hc; rw [if_pos hc]; exact hm _ _ _ _ _ _ hz
    · rename_i hc; rw [if_neg hc]; exact hm _ _ _ _ _ _ hz
  · simp only [aq_stp]
    exact hm _ _ _ _ _ _ hh
  · simp only [aq_stp]
    obtain ⟨x, r, e0, hw⟩ := aq_1i_inv hh; clear hh; subst e0; have hh := hw; clear hw
    obtain ⟨t, e, hh⟩ := aq_sm_inv hh
    exact aq_sm_of e (hm _ _ _ _ _ _ hh)
  · simp only [aq_stp]
    obtain ⟨x, r, e0, hw⟩ := aq_1i_inv hh; clear hh; subst e0; have hh := hw; clear hw; exact hm _ _ _ _ _ _ hh
  · simp only [aq_stp]
    obtain ⟨a, r, e0, hw⟩ := aq_1a_inv hh; clear hh; subst e0; have hh := hw; clear hw
    obtain ⟨q, e, hh⟩ := aq_sm_inv hh
    obtain ⟨ci, fs, e2, h1, hh⟩ := aq_ob_inv hh
    obtain ⟨v, e3, hh⟩ := aq_sm_inv hh
    exact aq_sm_of e (aq_ob_of e2 ⟨h1, aq_sm_of e3 (hm _ _ _ _ _ _ hh)⟩)
  · simp only [aq_stp]
    obtain ⟨a, v, r, e0, hw⟩ := aq_va_inv hh; clear hh; subst e0; have hh := hw; clear hw
    obtain ⟨q, e, h1, h2, h3, hh⟩ := aq_sm_inv hh
    obtain ⟨ci, fs, e2, h4, h5, hh⟩ := aq_ob_inv hh
    exact aq_sm_of e ⟨h1, h2, h3, aq_ob_of e2 ⟨h4, h5, hm _ _ _ _ _ _ hh⟩⟩
  · simp only [aq_stp]
    rcases hh with hh | hh
    · left
      obtain ⟨a, i, r, e0, hw⟩ := aq_ia_inv hh; clear hh; subst e0; have hh := hw; clear hw
      obtain ⟨m, f, e, h1, hh⟩ := aq_arI_inv hh
      exact aq_arI_of e ⟨h1, hm _ _ _ _ _ _ hh⟩
    · right
      obtain ⟨v, w, r, e0, i, h1, h2, hw⟩ := aq_2v_inv hh; clear hh; subst e0; have hh := hw; clear hw
      obtain ⟨q, e, h3, hh⟩ := aq_sm_inv hh
      exact ⟨i, h1, h2, aq_sm_of e ⟨h3, hm _ _ _ _ _ _ hh⟩⟩
  · simp only [aq_stp]
    obtain ⟨a, i, r, e0, hw⟩ := aq_ia_inv hh; clear hh; subst e0; have hh := hw; clear hw
    obtain ⟨t, m, f, e, hb, h1, hh⟩ := aq_arB_inv hh
    exact aq_arB_of e hb ⟨h1, hm _ _ _ _ _ _ hh⟩
  · simp only [aq_stp]
    obtain ⟨a, i, r, e0, hw⟩ := aq_ia_inv hh; clear hh; subst e0; have hh := hw; clear hw
    obtain ⟨m, f, e, h1, hh⟩ := aq_arL_inv hh
    exact aq_arL_of e ⟨h1, hm _ _ _ _ _ _ hh⟩
  · simp only [aq_stp]
    obtain ⟨a, i, r, e0, hw⟩ := aq_ia_inv hh; clear hh; subst e0; have hh := hw; clear hw
    obtain ⟨t, m, f, e, h0, h1, hh⟩ := aq_arA_inv hh
    exact aq_arA_of e ⟨h0, h1, hm _ _ _ _ _ _ hh⟩
  · simp only [aq_stp]
    obtain ⟨a, i, x, r, e0, hw⟩ := aq_iia_inv hh; clear hh; subst e0; have hh := hw; clear hw
    obtain ⟨m, f, e, h1, hh⟩ := aq_arI_inv hh
    exact aq_arI_of e ⟨h1, hm _ _ _ _ _ _ hh⟩
  · simp only [aq_stp]
    obtain ⟨a, i, x, r, e0, hw⟩ := aq_iia_inv hh; clear hh; subst e0; have hh := hw; clear hw
    obtain ⟨t, m, f, e, hb, h1, hh⟩ := aq_arB_inv hh
    exact aq_arB_of e hb ⟨h1, hm _ _ _ _ _ _ hh⟩
  · simp only [aq_stp]
    obtain ⟨a, i, x, r, e0, hw⟩ := aq_lia_inv hh; clear hh; subst e0; have hh := hw; clear hw
    obtain ⟨m, f, e, h1, hh⟩ := aq_arL_inv hh
    exact aq_arL_of e ⟨h1, hm _ _ _ _ _ _ hh⟩
  · simp only [aq_stp]
    rcases hh with hh | hh
    · left
      obtain ⟨a, r, e0, hw⟩ := aq_1a_inv hh; clear hh; subst e0; have hh := hw; clear hw
      obtain ⟨t, x, e, h0, hh⟩ := aq_arN_inv hh
      show aq_arN h a (fun t m => t ∈ [FieldType.int, .boolean, .long, .byte, .array .long] ∧ K' _ L (.int (Int32.ofNat m) :: r) h bc bs)
      refine aq_arN_of e ⟨h0, ?_⟩
      exact hm _ _ _ _ _ _ hh
    · right
      obtain ⟨v, r, e0, h1, hw⟩ := aq_1v_inv hh; clear hh; subst e0; have hh := hw; clear hw
      obtain ⟨q, e, hh⟩ := aq_sm_inv hh
      exact ⟨h1, aq_sm_of e (hm _ _ _ _ _ _ hh)⟩
  · simp only [aq_stp]
    obtain ⟨x, r, e0, h1, h2, h3, h4, hw⟩ := aq_1i_inv hh; clear hh; subst e0; have hh := hw; clear hw
    exact ⟨h1, h2, h3, h4, hm _ _ _ _ _ _ hh⟩
  · simp only [aq_stp]
    obtain ⟨x, r, e0, h1, h2, h3, h4, hw⟩ := aq_1i_inv hh; clear hh; subst e0; have hh := hw; clear hw
    exact ⟨h1, h2, h3, h4, hm _ _ _ _ _ _ hh⟩
  · simp only [aq_stp]
    obtain ⟨x, r, e0, h1, h2, h3, h4, hw⟩ := aq_1i_inv hh; clear hh; subst e0; have hh := hw; clear hw
    exact ⟨h1, h2, h3, h4, hm _ _ _ _ _ _ hh⟩
  · simp only [aq_stp]
    obtain ⟨x, r, e0, h1, h2, h3, h4, hw⟩ := aq_1i_inv hh; clear hh; subst e0; have hh := hw; clear hw
    exact ⟨h1, h2, h3, h4, hm _ _ _ _ _ _ hh⟩
  · simp only [aq_stp]
    obtain ⟨x, y, r, e0, h1, h2, h3, h4, h5, h6, hw⟩ := aq_2i_inv hh; clear hh; subst e0; have hh := hw; clear hw
    exact ⟨h1, h2, h3, h4, h5, h6, hm _ _ _ _ _ _ hh⟩
  · simp only [aq_stp]
    obtain ⟨q, e, h1, h2, hh⟩ := aq_sm_inv hh
    exact aq_sm_of e ⟨h1, h2, hm _ _ _ _ _ _ hh⟩
  · simp only [aq_stp]
    obtain ⟨q, e, h1, hh⟩ := aq_sm_inv hh
    exact aq_sm_of e ⟨h1, hm _ _ _ _ _ _ hh⟩
  · simp only [aq_stp]
    obtain ⟨q, e, h1, hh⟩ := aq_sm_inv hh
    exact aq_sm_of e ⟨h1, hm _ _ _ _ _ _ hh⟩
  · simp only [aq_stp]
    exact aq_call_mo (fun _ _ _ _ => hm _ _ _ _ _ _) hh
  · simp only [aq_stp]
    exact aq_call_mo (fun _ _ _ _ => hm _ _ _ _ _ _) hh
  · simp only [aq_stp]
    split at hh
    · rename_i hc; rw [if_pos hc]
      obtain ⟨a, r, e0, h0, h1, hw⟩ := aq_1a_inv hh; clear hh; subst e0; have hh := hw; clear hw
      exact ⟨h0, h1, hm _ _ _ _ _ _ hh⟩
    · rename_i hc; rw [if_neg hc]
      exact aq_call_mo (fun _ _ _ _ => hm _ _ _ _ _ _) hh
  · simp only [aq_stp]
    exact hh
  · simp only [aq_stp]
    exact hh
  · simp only [aq_stp]
    exact hh
  · exact absurd hh id
/-- what the code does from a state on: the least fixed point -/
def aq_W (E : aq_Env) (Q : Option Value → aq_H → Prop) : aq_K := fun pc L st h bc bs =>
  ∀ P : aq_K, (∀ pc L st h bc bs i, E.1[pc]? = some (some i) → aq_stp E Q P L st h bc bs i → P pc L st h bc bs) → P pc L st h bc bs
theorem aq_go {E : aq_Env} {Q : Option Value → aq_H → Prop} {pc : Nat} {L : aq_L} {st : List Value} {h : aq_H} {bc bs : Nat} {i : aq_I} (hi : E.1[pc]? = some (some i)) (hh : aq_stp E Q (aq_W E Q) L st h bc bs i) : aq_W E Q pc L st h bc bs := by
  intro P hP
  exact hP pc L st h bc bs i hi (aq_stp_mo (fun _ _ _ _ _ _ hw => hw P hP) hh)
theorem aq_un {E : aq_Env} {Q : Option Value → aq_H → Prop} {pc : Nat} {L : aq_L} {st : List Value} {h : aq_H} {bc bs : Nat} {i : aq_I} (hi : E.1[pc]? = some (some i)) : aq_W E Q pc L st h bc bs = aq_stp E Q (aq_W E Q) L st h bc bs i := by
  apply propext
  refine ⟨fun hw => ?_, aq_go hi⟩
  have key := hw (fun pc L st h bc bs => ∃ j, E.1[pc]? = some (some j) ∧ aq_stp E Q (aq_W E Q) L st h bc bs j) (fun pc L st h bc bs j hj hs => ⟨j, hj, aq_stp_mo (fun _ _ _ _ _ _ ⟨k, hk, hz⟩ => aq_go hk hz) hs⟩)
  obtain ⟨j, hj, hz⟩ := key
  rw [hi] at hj
  cases hj
  exact hz
/-- another end -/
theorem aq_stp_Q {E : aq_Env} {Q Q' : Option Value → aq_H → Prop} (hq : ∀ r h, Q r h → Q' r h) {K : aq_K} {L : aq_L} {st : List Value} {h : aq_H} {bc bs : Nat} {i : aq_I} (hh : aq_stp E Q K L st h bc bs i) : aq_stp E Q' K L st h bc bs i := by
  unfold aq_stp at hh
  split at hh
  · exact hh
  · exact hh
  · exact hh
  · exact hh
  · exact hh
  · exact hh
  · exact hh
  · exact hh
  · exact hh
  · exact hh
  · exact hh
  · exact hh
  · exact hh
  · exact hh
  · exact hh
  · exact hh
  · exact hh
  · exact hh
  · exact hh
  · exact hh
  · exact hh
  · exact hh
  · exact hh
  · exact hh
  · exact hh
  · exact hh
  · exact hh
  · exact hh
  · exact hh
  · exact hh
  · exact hh
  · exact hh
  · exact hh
  · exact hh
  · exact hh
  · exact hh
  · exact hh
  · exact hh
  · exact hh
  · exact hh
  · exact hh
  · exact hh
  · exact hh
  · exact hh
  · exact hh
  · exact hh
  · exact hh
  · exact hh
  · exact hh
  · exact hh
  · exact hh
  · exact hh
  · exact hh
  · exact hh
  · exact hh
  · exact hh
  · exact hh
  · exact hh
  · exact hh
  · exact hh
  · exact hh
  · exact hh
  · exact hh
  · exact hh
  · exact hh
  · exact hh
  · exact hh
  · exact hh
  · exact hh
  · exact hh
  · exact hh
  · exact hh
  · exact hh
  · exact hh
  · exact hh
  · exact hh
  · exact hh
  · exact hh
  · exact hh
  · exact hh
  · exact hh
  · exact hh
  · exact hh
  · exact hh
  · exact hh
  · exact hh
  · exact hh
  · exact hh
  · exact hh
  · exact hh
  · exact hh
  · exact hh
  · exact hh
  · obtain ⟨x, r, e0, h2, h3⟩ := aq_1i_inv hh
    subst e0
    obtain ⟨ty, e, h4, h5⟩ := aq_sm_inv h3
    exact (show _ ∧ _ from ⟨h2, aq_sm_of e ⟨h4, hq _ _ h5⟩⟩)
  · obtain ⟨x, r, e0, h2, h3, h4⟩ := aq_1l_inv hh
    subst e0
    exact (show _ ∧ _ from ⟨h2, h3, hq _ _ h4⟩)
  · exact (show _ ∧ _ from ⟨hh.1, hh.2.1, hq _ _ hh.2.2⟩)
  · exact hh.elim
theorem aq_W_Q {E : aq_Env} {Q Q' : Option Value → aq_H → Prop} (hq : ∀ r h, Q r h → Q' r h) {pc : Nat} {L : aq_L} {st : List Value} {h : aq_H} {bc bs : Nat} (hw : aq_W E Q pc L st h bc bs) : aq_W E Q' pc L st h bc bs :=
  hw (aq_W E Q') (fun _ _ _ _ _ _ _ hi hs => aq_go hi (aq_stp_Q hq hs))
