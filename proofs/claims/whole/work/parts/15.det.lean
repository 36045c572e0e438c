theorem aq_gI_of {K : Int32 → Prop} : ∀ {L : aq_L} {i : Nat} {x : Int32}, L[i]? = some (some (.int x)) → K x → aq_gI L i K := by
  intro L
  induction L with
  | nil => intro i x e; simp at e
  | cons a L ih =>
    intro i x e hk
    cases i with
    | zero => simp at e; subst e; exact hk
    | succ i =>
      have h := ih (by simpa using e) hk
      match a, h with
      | none, h => exact h
      | some _, h => simpa [aq_gI] using h
theorem aq_gL_of {K : Int64 → Prop} : ∀ {L : aq_L} {i : Nat} {x : Int64}, L[i]? = some (some (.long x)) → K x → aq_gL L i K := by
  intro L
  induction L with
  | nil => intro i x e; simp at e
  | cons a L ih =>
    intro i x e hk
    cases i with
    | zero => simp at e; subst e; exact hk
    | succ i =>
      have h := ih (by simpa using e) hk
      match a, h with
      | none, h => exact h
      | some _, h => simpa [aq_gL] using h
theorem aq_gA_of {K : Value → Prop} : ∀ {L : aq_L} {i : Nat} {v : Value}, L[i]? = some (some v) → aq_isA v = true → K v → aq_gA L i K := by
  intro L
  induction L with
  | nil => intro i x e; simp at e
  | cons a L ih =>
    intro i x e h1 hk
    cases i with
    | zero => simp at e; subst e; exact ⟨h1, hk⟩
    | succ i =>
      have h := ih (by simpa using e) h1 hk
      match a, h with
      | none, h => exact h
      | some _, h => simpa [aq_gA] using h
theorem aq_call_det {E : aq_Env} {kd idx : Nat} {st : List Value} {h : aq_H} {bc bs : Nat} {K : List Value → aq_H → Nat → Nat → Prop} (hh : aq_call E kd idx st h bc bs K) : ∃ (s' : List Value) (h' : aq_H) (b' c' : Nat), K s' h' b' c' ∧ ∀ K' : List Value → aq_H → Nat → Nat → Prop, K' s' h' b' c' → aq_call E kd idx st h bc bs K' := by
  unfold aq_call at hh
  obtain ⟨q, e1, hk, hh⟩ := aq_sm_inv hh
  obtain ⟨z, e2, h1, h2, h3, h4, r, h', h5, h6⟩ := aq_sm_inv hh
  refine ⟨_, _, _, _, h6, fun K' hk' => ?_⟩
  unfold aq_call
  exact aq_sm_of e1 ⟨hk, aq_sm_of e2 ⟨h1, h2, h3, h4, r, h', h5, hk'⟩⟩
/-- a step goes to one state, or ends with one answer -/
theorem aq_stp_det {E : aq_Env} {Q : Option Value → aq_H → Prop} {K : aq_K} {L : aq_L} {st : List Value} {h : aq_H} {bc bs : Nat} {i : aq_I} (hh : aq_stp E Q K L st h bc bs i) :
    (∃ (pc' : Nat) (L' : aq_L) (st' : List Value) (h' : aq_H) (bc' bs' : Nat), K pc' L' st' h' bc' bs' ∧ ∀ (Q' : Option Value → aq_H → Prop) (K' : aq_K), K' pc' L' st' h' bc' bs' → aq_stp E Q' K' L st h bc bs i) ∨ (∃ r : Option Value, Q r h ∧ ∀ (Q' : Option Value → aq_H → Prop) (K' : aq_K), Q' r h → aq_stp E Q' K' L st h bc bs i) := by
  unfold aq_stp at hh
  split at hh
  · exact Or.inl ⟨_, _, _, _, _, _, hh, fun Q' K' hk => by simp only [aq_stp]; exact hk⟩
  · exact Or.inl ⟨_, _, _, _, _, _, hh, fun Q' K' hk => by simp only [aq_stp]; exact hk⟩
  · exact Or.inl ⟨_, _, _, _, _, _, hh, fun Q' K' hk => by simp only [aq_stp]; exact hk⟩
  · exact Or.inl ⟨_, _, _, _, _, _, hh, fun Q' K' hk => by simp only [aq_stp]; exact hk⟩
  · exact Or.inl ⟨_, _, _, _, _, _, hh, fun Q' K' hk => by simp only [aq_stp]; exact hk⟩
  · obtain ⟨x, e, hz⟩ := aq_gI_inv hh
    exact Or.inl ⟨_, _, _, _, _, _, hz, fun Q' K' hk => (show aq_gI _ _ _ from aq_gI_of e hk)⟩
  · obtain ⟨x, e, hz⟩ := aq_gI_inv hh
    exact Or.inl ⟨_, _, _, _, _, _, hz, fun Q' K' hk => (show aq_gI _ _ _ from aq_gI_of e hk)⟩
  · obtain ⟨x, e, hz⟩ := aq_gL_inv hh
    exact Or.inl ⟨_, _, _, _, _, _, hz, fun Q' K' hk => (show aq_gL _ _ _ from aq_gL_of e hk)⟩
  · obtain ⟨x, e, hz⟩ := aq_gL_inv hh
    exact Or.inl ⟨_, _, _, _, _, _, hz, fun Q' K' hk => (show aq_gL _ _ _ from aq_gL_of e hk)⟩
  · obtain ⟨x, e, h1, hz⟩ := aq_gA_inv hh
    exact Or.inl ⟨_, _, _, _, _, _, hz, fun Q' K' hk => (show aq_gA _ _ _ from aq_gA_of e h1 hk)⟩
  · obtain ⟨x, e, h1, hz⟩ := aq_gA_inv hh
    exact Or.inl ⟨_, _, _, _, _, _, hz, fun Q' K' hk => (show aq_gA _ _ _ from aq_gA_of e h1 hk)⟩
  · obtain ⟨x, r, e0, h1, hw⟩ := aq_1i_inv hh; clear hh; subst e0; have hh := hw; clear hw; exact Or.inl ⟨_, _, _, _, _, _, hh, fun Q' K' hk => by simp only [aq_stp]; exact ⟨h1, hk⟩⟩
  · obtain ⟨x, r, e0, h1, hw⟩ := aq_1i_inv hh; clear hh; subst e0; have hh := hw; clear hw; exact Or.inl ⟨_, _, _, _, _, _, hh, fun Q' K' hk => by simp only [aq_stp]; exact ⟨h1, hk⟩⟩
  · obtain ⟨x, r, e0, h1, hw⟩ := aq_1l_inv hh; clear hh; subst e0; have hh := hw; clear hw; exact Or.inl ⟨_, _, _, _, _, _, hh, fun Q' K' hk => by simp only [aq_stp]; exact ⟨h1, hk⟩⟩
  · obtain ⟨x, r, e0, h1, hw⟩ := aq_1l_inv hh; clear hh; subst e0; have hh := hw; clear hw; exact Or.inl ⟨_, _, _, _, _, _, hh, fun Q' K' hk => by simp only [aq_stp]; exact ⟨h1, hk⟩⟩
  · obtain ⟨x, r, e0, h1, h2, hw⟩ := aq_1v_inv hh; clear hh; subst e0; have hh := hw; clear hw; exact Or.inl ⟨_, _, _, _, _, _, hh, fun Q' K' hk => by simp only [aq_stp]; exact ⟨h1, h2, hk⟩⟩
  · obtain ⟨x, r, e0, h1, h2, hw⟩ := aq_1v_inv hh; clear hh; subst e0; have hh := hw; clear hw; exact Or.inl ⟨_, _, _, _, _, _, hh, fun Q' K' hk => by simp only [aq_stp]; exact ⟨h1, h2, hk⟩⟩
  · obtain ⟨x, e, h1, hz⟩ := aq_gI_inv hh
    exact Or.inl ⟨_, _, _, _, _, _, hz, fun Q' K' hk => (show aq_gI _ _ _ from aq_gI_of e ⟨h1, hk⟩)⟩
  · obtain ⟨x, y, r, e0, hw⟩ := aq_2i_inv hh; clear hh; subst e0; have hh := hw; clear hw; exact Or.inl ⟨_, _, _, _, _, _, hh, fun Q' K' hk => by simp only [aq_stp]; exact hk⟩
  · obtain ⟨x, y, r, e0, hw⟩ := aq_2i_inv hh; clear hh; subst e0; have hh := hw; clear hw; exact Or.inl ⟨_, _, _, _, _, _, hh, fun Q' K' hk => by simp only [aq_stp]; exact hk⟩
  · obtain ⟨x, y, r, e0, hw⟩ := aq_2i_inv hh; clear hh; subst e0; have hh := hw; clear hw; exact Or.inl ⟨_, _, _, _, _, _, hh, fun Q' K' hk => by simp only [aq_stp]; exact hk⟩
  · obtain ⟨x, y, r, e0, hw⟩ := aq_2i_inv hh; clear hh; subst e0; have hh := hw; clear hw; exact Or.inl ⟨_, _, _, _, _, _, hh, fun Q' K' hk => by simp only [aq_stp]; exact hk⟩
  · obtain ⟨x, y, r, e0, hw⟩ := aq_2i_inv hh; clear hh; subst e0; have hh := hw; clear hw; exact Or.inl ⟨_, _, _, _, _, _, hh, fun Q' K' hk => by simp only [aq_stp]; exact hk⟩
  · obtain ⟨x, y, r, e0, hw⟩ := aq_2i_inv hh; clear hh; subst e0; have hh := hw; clear hw; exact Or.inl ⟨_, _, _, _, _, _, hh, fun Q' K' hk => by simp only [aq_stp]; exact hk⟩
  · obtain ⟨x, y, r, e0, hw⟩ := aq_2i_inv hh; clear hh; subst e0; have hh := hw; clear hw; exact Or.inl ⟨_, _, _, _, _, _, hh, fun Q' K' hk => by simp only [aq_stp]; exact hk⟩
  · obtain ⟨x, y, r, e0, hw⟩ := aq_2i_inv hh; clear hh; subst e0; have hh := hw; clear hw; exact Or.inl ⟨_, _, _, _, _, _, hh, fun Q' K' hk => by simp only [aq_stp]; exact hk⟩
  · obtain ⟨x, y, r, e0, hw⟩ := aq_2i_inv hh; clear hh; subst e0; have hh := hw; clear hw; exact Or.inl ⟨_, _, _, _, _, _, hh, fun Q' K' hk => by simp only [aq_stp]; exact hk⟩
  · obtain ⟨x, y, r, e0, h1, hw⟩ := aq_2i_inv hh; clear hh; subst e0; have hh := hw; clear hw; exact Or.inl ⟨_, _, _, _, _, _, hh, fun Q' K' hk => by simp only [aq_stp]; exact ⟨h1, hk⟩⟩
  · obtain ⟨x, y, r, e0, h1, hw⟩ := aq_2i_inv hh; clear hh; subst e0; have hh := hw; clear hw; exact Or.inl ⟨_, _, _, _, _, _, hh, fun Q' K' hk => by simp only [aq_stp]; exact ⟨h1, hk⟩⟩
  · obtain ⟨x, y, r, e0, hw⟩ := aq_2l_inv hh; clear hh; subst e0; have hh := hw; clear hw; exact Or.inl ⟨_, _, _, _, _, _, hh, fun Q' K' hk => by simp only [aq_stp]; exact hk⟩
  · obtain ⟨x, y, r, e0, hw⟩ := aq_2l_inv hh; clear hh; subst e0; have hh := hw; clear hw; exact Or.inl ⟨_, _, _, _, _, _, hh, fun Q' K' hk => by simp only [aq_stp]; exact hk⟩
  · obtain ⟨x, y, r, e0, hw⟩ := aq_2l_inv hh; clear hh; subst e0; have hh := hw; clear hw; exact Or.inl ⟨_, _, _, _, _, _, hh, fun Q' K' hk => by simp only [aq_stp]; exact hk⟩
  · obtain ⟨x, y, r, e0, hw⟩ := aq_2l_inv hh; clear hh; subst e0; have hh := hw; clear hw; exact Or.inl ⟨_, _, _, _, _, _, hh, fun Q' K' hk => by simp only [aq_stp]; exact hk⟩
  · obtain ⟨x, y, r, e0, hw⟩ := aq_2l_inv hh; clear hh; subst e0; have hh := hw; clear hw; exact Or.inl ⟨_, _, _, _, _, _, hh, fun Q' K' hk => by simp only [aq_stp]; exact hk⟩
  · obtain ⟨x, y, r, e0, hw⟩ := aq_2l_inv hh; clear hh; subst e0; have hh := hw; clear hw; exact Or.inl ⟨_, _, _, _, _, _, hh, fun Q' K' hk => by simp only [aq_stp]; exact hk⟩
  · obtain ⟨x, y, r, e0, h1, hw⟩ := aq_2l_inv hh; clear hh; subst e0; have hh := hw; clear hw; exact Or.inl ⟨_, _, _, _, _, _, hh, fun Q' K' hk => by simp only [aq_stp]; exact ⟨h1, hk⟩⟩
  · obtain ⟨x, y, r, e0, h1, hw⟩ := aq_2l_inv hh; clear hh; subst e0; have hh := hw; clear hw; exact Or.inl ⟨_, _, _, _, _, _, hh, fun Q' K' hk => by simp only [aq_stp]; exact ⟨h1, hk⟩⟩
  · obtain ⟨x, y, r, e0, hw⟩ := aq_2l_inv hh; clear hh; subst e0; have hh := hw; clear hw; exact Or.inl ⟨_, _, _, _, _, _, hh, fun Q' K' hk => by simp only [aq_stp]; exact hk⟩
  · obtain ⟨x, r, e0, hw⟩ := aq_1i_inv hh; clear hh; subst e0; have hh := hw; clear hw; exact Or.inl ⟨_, _, _, _, _, _, hh, fun Q' K' hk => by simp only [aq_stp]; exact hk⟩
  · obtain ⟨x, r, e0, hw⟩ := aq_1i_inv hh; clear hh; subst e0; have hh := hw; clear hw; exact Or.inl ⟨_, _, _, _, _, _, hh, fun Q' K' hk => by simp only [aq_stp]; exact hk⟩
  · obtain ⟨x, r, e0, hw⟩ := aq_1i_inv hh; clear hh; subst e0; have hh := hw; clear hw; exact Or.inl ⟨_, _, _, _, _, _, hh, fun Q' K' hk => by simp only [aq_stp]; exact hk⟩
  · obtain ⟨x, r, e0, hw⟩ := aq_1i_inv hh; clear hh; subst e0; have hh := hw; clear hw; exact Or.inl ⟨_, _, _, _, _, _, hh, fun Q' K' hk => by simp only [aq_stp]; exact hk⟩
  · obtain ⟨x, r, e0, hw⟩ := aq_1i_inv hh; clear hh; subst e0; have hh := hw; clear hw; exact Or.inl ⟨_, _, _, _, _, _, hh, fun Q' K' hk => by simp only [aq_stp]; exact hk⟩
  · obtain ⟨x, r, e0, hw⟩ := aq_1l_inv hh; clear hh; subst e0; have hh := hw; clear hw; exact Or.inl ⟨_, _, _, _, _, _, hh, fun Q' K' hk => by simp only [aq_stp]; exact hk⟩
  · obtain ⟨x, r, e0, hw⟩ := aq_1l_inv hh; clear hh; subst e0; have hh := hw; clear hw; exact Or.inl ⟨_, _, _, _, _, _, hh, fun Q' K' hk => by simp only [aq_stp]; exact hk⟩
  · obtain ⟨x, y, r, e0, hw⟩ := aq_li_inv hh; clear hh; subst e0; have hh := hw; clear hw; exact Or.inl ⟨_, _, _, _, _, _, hh, fun Q' K' hk => by simp only [aq_stp]; exact hk⟩
  · obtain ⟨x, y, r, e0, hw⟩ := aq_li_inv hh; clear hh; subst e0; have hh := hw; clear hw; exact Or.inl ⟨_, _, _, _, _, _, hh, fun Q' K' hk => by simp only [aq_stp]; exact hk⟩
  · obtain ⟨x, y, r, e0, hw⟩ := aq_li_inv hh; clear hh; subst e0; have hh := hw; clear hw; exact Or.inl ⟨_, _, _, _, _, _, hh, fun Q' K' hk => by simp only [aq_stp]; exact hk⟩
  · obtain ⟨v, r, e0, h1, hw⟩ := aq_1v_inv hh; clear hh; subst e0; have hh := hw; clear hw; exact Or.inl ⟨_, _, _, _, _, _, hh, fun Q' K' hk => by simp only [aq_stp]; exact ⟨h1, hk⟩⟩
  · obtain ⟨v, r, e0, h1, hw⟩ := aq_1v_inv hh; clear hh; subst e0; have hh := hw; clear hw; exact Or.inl ⟨_, _, _, _, _, _, hh, fun Q' K' hk => by simp only [aq_stp]; exact ⟨h1, hk⟩⟩
  · obtain ⟨v, w, r, e0, h1, h2, hw⟩ := aq_2v_inv hh; clear hh; subst e0; have hh := hw; clear hw; exact Or.inl ⟨_, _, _, _, _, _, hh, fun Q' K' hk => by simp only [aq_stp]; exact ⟨h1, h2, hk⟩⟩
  · obtain ⟨v, w, u, r, e0, h1, h2, h3, hw⟩ := aq_3v_inv hh; clear hh; subst e0; have hh := hw; clear hw; exact Or.inl ⟨_, _, _, _, _, _, hh, fun Q' K' hk => by simp only [aq_stp]; exact ⟨h1, h2, h3, hk⟩⟩
  · obtain ⟨v, r, e0, hz⟩ := aq_1v_inv hh; clear hh; subst e0
    by_cases hc : v.category = 2
    · rw [if_pos hc] at hz
      exact Or.inl ⟨_, _, _, _, _, _, hz, fun Q' K' hk => by simp only [aq_stp, aq_1v]; rw [if_pos hc]; exact hk⟩
    · rw [if_neg hc] at hz
      obtain ⟨w, r', e0, h1, hz2⟩ := aq_1v_inv hz; clear hz; subst e0
      exact Or.inl ⟨_, _, _, _, _, _, hz2, fun Q' K' hk => by simp only [aq_stp, aq_1v]; rw [if_neg hc]; exact ⟨h1, hk⟩⟩
  · obtain ⟨v, w, r, e0, h1, h2, hw⟩ := aq_2v_inv hh; clear hh; subst e0; have hh := hw; clear hw; exact Or.inl ⟨_, _, _, _, _, _, hh, fun Q' K' hk => by simp only [aq_stp]; exact ⟨h1, h2, hk⟩⟩
  · obtain ⟨v, w, u, r, e0, h1, h2, h3, hw⟩ := aq_3v_inv hh; clear hh; subst e0; have hh := hw; clear hw; exact Or.inl ⟨_, _, _, _, _, _, hh, fun Q' K' hk => by simp only [aq_stp]; exact ⟨h1, h2, h3, hk⟩⟩
  · obtain ⟨x, r, e0, hw⟩ := aq_1i_inv hh; clear hh; subst e0; have hz := hw; clear hw
    split at hz
    · rename_i hc; exact Or.inl ⟨_, _, _, _, _, _, hz, fun Q' K' hk => by simp only [aq_stp]; show (if _ then _ else _); rw [if_pos hc]; exact hk⟩
    · rename_i hc; exact Or.inl ⟨_, _, _, _, _, _, hz, fun Q' K' hk => by simp only [aq_stp]; show (if _ then _ else _); rw [if_neg hc]; exact hk⟩
  · obtain ⟨x, y, r, e0, hw⟩ := aq_2i_inv hh; clear hh; subst e0; have hz := hw; clear hw
    split at hz
    · rename_i hc; exact Or.inl ⟨_, _, _, _, _, _, hz, fun Q' K' hk => by simp only [aq_stp]; show (if _ then _ else _); rw [if_pos hc]; exact hk⟩
    · rename_i hc; exact Or.inl ⟨_, _, _, _, _, _, hz, fun Q' K' hk => by simp only [aq_stp]; show (if _ then _ else _); rw [if_neg hc]; exact hk⟩
  · obtain ⟨x, r, e0, hw⟩ := aq_1i_inv hh; clear hh; subst e0; have hz := hw; clear hw
    split at hz
    · rename_i hc; exact Or.inl ⟨_, _, _, _, _, _, hz, fun Q' K' hk => by simp only [aq_stp]; show (if _ then _ else _); rw [if_pos hc]; exact hk⟩
    · rename_i hc; exact Or.inl ⟨_, _, _, _, _, _, hz, fun Q' K' hk => by simp only [aq_stp]; show (if _ then _ else _); rw [if_neg hc]; exact hk⟩
  · obtain ⟨x, y, r, e0, hw⟩ := aq_2i_inv hh; clear hh; subst e0; have hz := hw; clear hw
    split at hz
    · rename_i hc; exact Or.inl ⟨_, _, _, _, _, _, hz, fun Q' K' hk => by simp only [aq_stp]; show (if _ then _ else _); rw [if_pos hc]; exact hk⟩
    · rename_i hc; exact Or.inl ⟨_, _, _, _, _, _, hz, fun Q' K' hk => by simp only [aq_stp]; show (if _ then _ else _); rw [if_neg hc]; exact hk⟩
  · obtain ⟨x, r, e0, hw⟩ := aq_1i_inv hh; clear hh; subst e0; have hz := hw; clear hw
    split at hz
    · rename_i hc; exact Or.inl ⟨_, _, _, _, _, _, hz, fun Q' K' hk => by simp only [aq_stp]; show (if _ then _ else _); rw [if_pos hc]; exact hk⟩
    · rename_i hc; exact Or.inl ⟨_, _, _, _, _, _, hz, fun Q' K' hk => by simp only [aq_stp]; show (if _ then _ else _); rw [if_neg hc]; exact hk⟩
  · obtain ⟨x, y, r, e0, hw⟩ := aq_2i_inv hh; clear hh; subst e0; have hz := hw; clear hw
    split at hz
    · rename_i hc; exact Or.inl ⟨_, _, _, _, _, _, hz, fun Q' K' hk => by simp only [aq_stp]; show (if _ then _ else _); rw [if_pos hc]; exact hk⟩
    · rename_i hc; exact Or.inl ⟨_, _, _, _, _, _, hz, fun Q' K' hk => by simp only [aq_stp]; show (if _ then _ else _); rw [if_neg hc]; exact hk⟩
  · obtain ⟨x, r, e0, hw⟩ := aq_1i_inv hh; clear hh; subst e0; have hz := hw; clear hw
    split at hz
    · rename_i hc; exact Or.inl ⟨_, _, _, _, _, _, hz, fun Q' K' hk => by simp only [aq_stp]; show (if _ then _ else _); rw [if_pos hc]; exact hk⟩
    · rename_i hc; exact Or.inl ⟨_, _, _, _, _, _, hz, fun Q' K' hk => by simp only [aq_stp]; show (if _ then _ else _); rw [if_neg hc]; exact hk⟩
  · obtain ⟨x, y, r, e0, hw⟩ := aq_2i_inv hh; clear hh; subst e0; have hz := hw; clear hw
    split at hz
    · rename_i hc; exact Or.inl ⟨_, _, _, _, _, _, hz, fun Q' K' hk => by simp only [aq_stp]; show (if _ then _ else _); rw [if_pos hc]; exact hk⟩
    · rename_i hc; exact Or.inl ⟨_, _, _, _, _, _, hz, fun Q' K' hk => by simp only [aq_stp]; show (if _ then _ else _); rw [if_neg hc]; exact hk⟩
  · obtain ⟨x, r, e0, hw⟩ := aq_1i_inv hh; clear hh; subst e0; have hz := hw; clear hw
    split at hz
    · rename_i hc; exact Or.inl ⟨_, _, _, _, _, _, hz, fun Q' K' hk => by simp only [aq_stp]; show (if _ then _ else _); rw [if_pos hc]; exact hk⟩
    · rename_i hc; exact Or.inl ⟨_, _, _, _, _, _, hz, fun Q' K' hk => by simp only [aq_stp]; show (if _ then _ else _); rw [if_neg hc]; exact hk⟩
  · obtain ⟨x, y, r, e0, hw⟩ := aq_2i_inv hh; clear hh; subst e0; have hz := hw; clear hw
    split at hz
    · rename_i hc; exact Or.inl ⟨_, _, _, _, _, _, hz, fun Q' K' hk => by simp only [aq_stp]; show (if _ then _ else _); rw [if_pos hc]; exact hk⟩
    · rename_i hc; exact Or.inl ⟨_, _, _, _, _, _, hz, fun Q' K' hk => by simp only [aq_stp]; show (if _ then _ else _); rw [if_neg hc]; exact hk⟩
  · obtain ⟨x, r, e0, hw⟩ := aq_1i_inv hh; clear hh; subst e0; have hz := hw; clear hw
    split at hz
    · rename_i hc; exact Or.inl ⟨_, _, _, _, _, _, hz, fun Q' K' hk => by simp only [aq_stp]; show (if _ then _ else _); rw [if_pos hc]; exact hk⟩
    · rename_i hc; exact Or.inl ⟨_, _, _, _, _, _, hz, fun Q' K' hk => by simp only [aq_stp]; show (if _ then _ else _); rw [if_neg hc]; exact hk⟩
  · obtain ⟨x, y, r, e0, hw⟩ := aq_2i_inv hh; clear hh; subst e0; have hz := hw; clear hw
    split at hz
    · rename_i hc; exact Or.inl ⟨_, _, _, _, _, _, hz, fun Q' K' hk => by simp only [aq_stp]; show (if _ then _ else _); rw [if_pos hc]; exact hk⟩
    · rename_i hc; exact Or.inl ⟨_, _, _, _, _, _, hz, fun Q' K' hk => by simp only [aq_stp]; show (if _ then _ else _); rw [if_neg hc]; exact hk⟩
  · obtain ⟨x, r, e0, h1, hw⟩ := aq_1v_inv hh; clear hh; subst e0; have hz := hw; clear hw
    split at hz
    · rename_i hc; exact Or.inl ⟨_, _, _, _, _, _, hz, fun Q' K' hk => by simp only [aq_stp]; exact (⟨h1, by rw [if_pos hc]; exact hk⟩)⟩
    · rename_i hc; exact Or.inl ⟨_, _, _, _, _, _, hz, fun Q' K' hk => by simp only [aq_stp]; exact (⟨h1, by rw [if_neg hc]; exact hk⟩)⟩
  · obtain ⟨x, r, e0, h1, hw⟩ := aq_1v_inv hh; clear hh; subst e0; have hz := hw; clear hw
    split at hz
    · rename_i hc; exact Or.inl ⟨_, _, _, _, _, _, hz, fun Q' K' hk => by simp only [aq_stp]; exact (⟨h1, by rw [if_pos hc]; exact hk⟩)⟩
    · rename_i hc; exact Or.inl ⟨_, _, _, _, _, _, hz, fun Q' K' hk => by simp only [aq_stp]; exact (⟨h1, by rw [if_neg hc]; exact hk⟩)⟩
  · exact Or.inl ⟨_, _, _, _, _, _, hh, fun Q' K' hk => by simp only [aq_stp]; exact hk⟩
  · obtain ⟨x, r, e0, hw⟩ := aq_1i_inv hh; clear hh; subst e0; have hh := hw; clear hw
    obtain ⟨t, e, hh⟩ := aq_sm_inv hh
    exact Or.inl ⟨_, _, _, _, _, _, hh, fun Q' K' hk => by simp only [aq_stp]; exact aq_sm_of e (hk)⟩
  · obtain ⟨x, r, e0, hw⟩ := aq_1i_inv hh; clear hh; subst e0; have hh := hw; clear hw; exact Or.inl ⟨_, _, _, _, _, _, hh, fun Q' K' hk => by simp only [aq_stp]; exact hk⟩
  · obtain ⟨a, r, e0, hw⟩ := aq_1a_inv hh; clear hh; subst e0; have hh := hw; clear hw
    obtain ⟨q, e, hh⟩ := aq_sm_inv hh
    obtain ⟨ci, fs, e2, h1, hh⟩ := aq_ob_inv hh
    obtain ⟨v, e3, hh⟩ := aq_sm_inv hh
    exact Or.inl ⟨_, _, _, _, _, _, hh, fun Q' K' hk => by simp only [aq_stp]; exact aq_sm_of e (aq_ob_of e2 ⟨h1, aq_sm_of e3 (hk)⟩)⟩
  · obtain ⟨a, v, r, e0, hw⟩ := aq_va_inv hh; clear hh; subst e0; have hh := hw; clear hw
    obtain ⟨q, e, h1, h2, h3, hh⟩ := aq_sm_inv hh
    obtain ⟨ci, fs, e2, h4, h5, hh⟩ := aq_ob_inv hh
    exact Or.inl ⟨_, _, _, _, _, _, hh, fun Q' K' hk => by simp only [aq_stp]; exact aq_sm_of e ⟨h1, h2, h3, aq_ob_of e2 ⟨h4, h5, hk⟩⟩⟩
  · rcases hh with hh | hh
    · obtain ⟨a, i, r, e0, hz1⟩ := aq_ia_inv hh; clear hh; subst e0
      obtain ⟨m, f, e, h1, hz⟩ := aq_arI_inv hz1
      exact Or.inl ⟨_, _, _, _, _, _, hz, fun Q' K' hk => by simp only [aq_stp]; exact Or.inl (show aq_arI h a .int _ from aq_arI_of e ⟨h1, hk⟩)⟩
    · obtain ⟨v, w, r, e0, i, h1, h2, hz1⟩ := aq_2v_inv hh; clear hh; subst e0
      obtain ⟨q, e, h3, hz⟩ := aq_sm_inv hz1
      exact Or.inl ⟨_, _, _, _, _, _, hz, fun Q' K' hk => by simp only [aq_stp]; exact Or.inr ⟨i, h1, h2, aq_sm_of e ⟨h3, hk⟩⟩⟩
  · obtain ⟨a, i, r, e0, hw⟩ := aq_ia_inv hh; clear hh; subst e0; have hh := hw; clear hw
    obtain ⟨t, m, f, e, hb, h1, hh⟩ := aq_arB_inv hh
    exact Or.inl ⟨_, _, _, _, _, _, hh, fun Q' K' hk => by simp only [aq_stp]; exact aq_arB_of e hb ⟨h1, hk⟩⟩
  · obtain ⟨a, i, r, e0, hw⟩ := aq_ia_inv hh; clear hh; subst e0; have hh := hw; clear hw
    obtain ⟨m, f, e, h1, hh⟩ := aq_arL_inv hh
    exact Or.inl ⟨_, _, _, _, _, _, hh, fun Q' K' hk => by simp only [aq_stp]; exact aq_arL_of e ⟨h1, hk⟩⟩
  · obtain ⟨a, i, r, e0, hw⟩ := aq_ia_inv hh; clear hh; subst e0; have hh := hw; clear hw
    obtain ⟨t, m, f, e, h0, h1, hh⟩ := aq_arA_inv hh
    exact Or.inl ⟨_, _, _, _, _, _, hh, fun Q' K' hk => by simp only [aq_stp]; exact aq_arA_of e ⟨h0, h1, hk⟩⟩
  · obtain ⟨a, i, x, r, e0, hw⟩ := aq_iia_inv hh; clear hh; subst e0; have hh := hw; clear hw
    obtain ⟨m, f, e, h1, hh⟩ := aq_arI_inv hh
    exact Or.inl ⟨_, _, _, _, _, _, hh, fun Q' K' hk => by simp only [aq_stp]; exact aq_arI_of e ⟨h1, hk⟩⟩
  · obtain ⟨a, i, x, r, e0, hw⟩ := aq_iia_inv hh; clear hh; subst e0; have hh := hw; clear hw
    obtain ⟨t, m, f, e, hb, h1, hh⟩ := aq_arB_inv hh
    exact Or.inl ⟨_, _, _, _, _, _, hh, fun Q' K' hk => by simp only [aq_stp]; exact aq_arB_of e hb ⟨h1, hk⟩⟩
  · obtain ⟨a, i, x, r, e0, hw⟩ := aq_lia_inv hh; clear hh; subst e0; have hh := hw; clear hw
    obtain ⟨m, f, e, h1, hh⟩ := aq_arL_inv hh
    exact Or.inl ⟨_, _, _, _, _, _, hh, fun Q' K' hk => by simp only [aq_stp]; exact aq_arL_of e ⟨h1, hk⟩⟩
  · rcases hh with hh | hh
    · obtain ⟨a, r, e0, hz1⟩ := aq_1a_inv hh; clear hh; subst e0
      obtain ⟨t, x, e, h0, hz⟩ := aq_arN_inv hz1
      exact Or.inl ⟨_, _, _, _, _, _, hz, fun Q' K' hk => by simp only [aq_stp]; exact Or.inl (show aq_arN h a (fun t m => t ∈ [FieldType.int, .boolean, .long, .byte, .array .long] ∧ K' _ L (.int (Int32.ofNat m) :: r) h bc bs) from aq_arN_of e ⟨h0, hk⟩)⟩
    · obtain ⟨v, r, e0, h1, hz1⟩ := aq_1v_inv hh; clear hh; subst e0
      obtain ⟨q, e, hz⟩ := aq_sm_inv hz1
      exact Or.inl ⟨_, _, _, _, _, _, hz, fun Q' K' hk => by simp only [aq_stp]; exact Or.inr ⟨h1, aq_sm_of e hk⟩⟩
  · obtain ⟨x, r, e0, h1, h2, h3, h4, hw⟩ := aq_1i_inv hh; clear hh; subst e0; have hh := hw; clear hw
    exact Or.inl ⟨_, _, _, _, _, _, hh, fun Q' K' hk => by simp only [aq_stp]; exact ⟨h1, h2, h3, h4, hk⟩⟩
  · obtain ⟨x, r, e0, h1, h2, h3, h4, hw⟩ := aq_1i_inv hh; clear hh; subst e0; have hh := hw; clear hw
    exact Or.inl ⟨_, _, _, _, _, _, hh, fun Q' K' hk => by simp only [aq_stp]; exact ⟨h1, h2, h3, h4, hk⟩⟩
  · obtain ⟨x, r, e0, h1, h2, h3, h4, hw⟩ := aq_1i_inv hh; clear hh; subst e0; have hh := hw; clear hw
    exact Or.inl ⟨_, _, _, _, _, _, hh, fun Q' K' hk => by simp only [aq_stp]; exact ⟨h1, h2, h3, h4, hk⟩⟩
  · obtain ⟨x, r, e0, h1, h2, h3, h4, hw⟩ := aq_1i_inv hh; clear hh; subst e0; have hh := hw; clear hw
    exact Or.inl ⟨_, _, _, _, _, _, hh, fun Q' K' hk => by simp only [aq_stp]; exact ⟨h1, h2, h3, h4, hk⟩⟩
  · obtain ⟨x, y, r, e0, h1, h2, h3, h4, h5, h6, hw⟩ := aq_2i_inv hh; clear hh; subst e0; have hh := hw; clear hw
    exact Or.inl ⟨_, _, _, _, _, _, hh, fun Q' K' hk => by simp only [aq_stp]; exact ⟨h1, h2, h3, h4, h5, h6, hk⟩⟩
  · obtain ⟨q, e, h1, h2, hh⟩ := aq_sm_inv hh
    exact Or.inl ⟨_, _, _, _, _, _, hh, fun Q' K' hk => by simp only [aq_stp]; exact aq_sm_of e ⟨h1, h2, hk⟩⟩
  · obtain ⟨q, e, h1, hh⟩ := aq_sm_inv hh
    exact Or.inl ⟨_, _, _, _, _, _, hh, fun Q' K' hk => by simp only [aq_stp]; exact aq_sm_of e ⟨h1, hk⟩⟩
  · obtain ⟨q, e, h1, hh⟩ := aq_sm_inv hh
    exact Or.inl ⟨_, _, _, _, _, _, hh, fun Q' K' hk => by simp only [aq_stp]; exact aq_sm_of e ⟨h1, hk⟩⟩
  · obtain ⟨s', h', b', c', hz, hk⟩ := aq_call_det hh
    exact Or.inl ⟨_, _, _, _, _, _, hz, fun Q' K' hq => hk _ hq⟩
  · obtain ⟨s', h', b', c', hz, hk⟩ := aq_call_det hh
    exact Or.inl ⟨_, _, _, _, _, _, hz, fun Q' K' hq => hk _ hq⟩
  · split at hh
    · rename_i hc
      obtain ⟨a, r, e0, h0, h1, hz⟩ := aq_1a_inv hh; clear hh; subst e0
      exact Or.inl ⟨_, _, _, _, _, _, hz, fun Q' K' hk => by simp only [aq_stp]; rw [if_pos hc]; exact ⟨h0, h1, hk⟩⟩
    · rename_i hc
      obtain ⟨s', h', b', c', hz, hk⟩ := aq_call_det hh
      exact Or.inl ⟨_, _, _, _, _, _, hz, fun Q' K' hq => by simp only [aq_stp]; rw [if_neg hc]; exact hk _ hq⟩
  · obtain ⟨x, r, e0, h2, h3⟩ := aq_1i_inv hh
    subst e0
    obtain ⟨ty, e, h4, h5⟩ := aq_sm_inv h3
    exact Or.inr ⟨_, h5, fun Q' K' hq => (show _ ∧ _ from ⟨h2, aq_sm_of e ⟨h4, hq⟩⟩)⟩
  · obtain ⟨x, r, e0, h2, h3, h4⟩ := aq_1l_inv hh
    subst e0
    exact Or.inr ⟨_, h4, fun Q' K' hq => (show _ ∧ _ from ⟨h2, h3, hq⟩)⟩
  · exact Or.inr ⟨_, hh.2.2, fun Q' K' hq => (show _ ∧ _ from ⟨hh.1, hh.2.1, hq⟩)⟩
  · exact hh.elim
theorem aq_W_ex {E : aq_Env} {Q : Option Value → aq_H → Prop} {pc : Nat} {L : aq_L} {st : List Value} {h : aq_H} {bc bs : Nat} (hw : aq_W E Q pc L st h bc bs) : ∃ r h', Q r h' ∧ aq_W E (fun r' h'' => r' = r ∧ h'' = h') pc L st h bc bs := by
  refine hw (fun pc L st h bc bs => ∃ r h', Q r h' ∧ aq_W E (fun r' h'' => r' = r ∧ h'' = h') pc L st h bc bs) ?_
  intro pc L st h bc bs i hi hs
  rcases aq_stp_det hs with ⟨pc', L', st', h', bc', bs', ⟨r, h2, hq, hw2⟩, hk⟩ | ⟨r, hq, hk⟩
  · exact ⟨r, h2, hq, aq_go hi (hk _ _ hw2)⟩
  · exact ⟨r, h, hq, aq_go hi (hk _ _ ⟨rfl, rfl⟩)⟩
/-- a triple -/
def aq_T (E : aq_Env) (maxL mc ms : Nat) (as : List Value) (h : aq_H) (Q : Option Value → aq_H → Prop) : Prop := (aq_en as).length ≤ maxL ∧ aq_W E Q 0 (aq_pad maxL as) [] h mc ms
theorem aq_T.ex {E : aq_Env} {maxL mc ms : Nat} {as : List Value} {h : aq_H} {Q : Option Value → aq_H → Prop} (hT : aq_T E maxL mc ms as h Q) : ∃ r h', aq_R E maxL mc ms as h r h' ∧ Q r h' := by
  obtain ⟨r, h', hq, hw⟩ := aq_W_ex hT.2
  exact ⟨r, h', ⟨hT.1, hw⟩, hq⟩
theorem aq_T.use {E : aq_Env} {maxL mc ms : Nat} {as : List Value} {h : aq_H} {Q : Option Value → aq_H → Prop} {P : Option Value → aq_H → Prop} (hT : aq_T E maxL mc ms as h Q) (k : ∀ r h', Q r h' → P r h') : ∃ r h', aq_R E maxL mc ms as h r h' ∧ P r h' := by
  obtain ⟨r, h', h1, h2⟩ := hT.ex
  exact ⟨r, h', h1, k r h' h2⟩
theorem aq_T.mo {E : aq_Env} {maxL mc ms : Nat} {as : List Value} {h : aq_H} {Q P : Option Value → aq_H → Prop} (hT : aq_T E maxL mc ms as h Q) (k : ∀ r h', Q r h' → P r h') : aq_T E maxL mc ms as h P := ⟨hT.1, aq_W_Q k hT.2⟩
