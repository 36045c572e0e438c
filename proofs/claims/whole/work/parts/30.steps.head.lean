theorem aq_ldR {E : aq_Env} {Q : Option Value → aq_H → Prop} {K : aq_K} {L : aq_L} {r : List Value} {h : aq_H} {bc bs n : Nat} {ts : List Nat} {i : Int32} {a : Nat} : aq_stp E Q K L (.int i :: .ref a :: r) h bc bs (.iaload, n, ts) = aq_arI h a .int (fun m f => vp_in i m ∧ K n L (.int (f i.toNatClampNeg) :: r) h bc bs) := by
  apply propext
  constructor
  · intro hh
    rcases hh with hh | hh
    · exact hh
    · obtain ⟨v, w, r', e0, j, h1, h2, -⟩ := aq_2v_inv hh
      cases e0
      cases h2
  · exact Or.inl
theorem aq_ldS {E : aq_Env} {Q : Option Value → aq_H → Prop} {K : aq_K} {L : aq_L} {r : List Value} {h : aq_H} {bc bs n : Nat} {ts : List Nat} {i : Int32} {sL : Nat} {sX : Nat → Int32} (hE : E.2.2.2.2.2.2.2 = some (sL, sX) := by rfl) : aq_stp E Q K L (.int i :: .retAddr 0 :: r) h bc bs (.iaload, n, ts) = (vp_in i sL ∧ K n L (.int (sX i.toNatClampNeg) :: r) h bc bs) := by
  apply propext
  constructor
  · intro hh
    rcases hh with hh | hh
    · obtain ⟨a, j, r', e0, -⟩ := aq_ia_inv hh
      cases e0
    · obtain ⟨v, w, r', e0, j, h1, h2, h3⟩ := aq_2v_inv hh
      cases e0
      cases h1
      rw [hE] at h3
      exact h3
  · intro hh
    refine Or.inr ⟨i, rfl, rfl, ?_⟩
    rw [hE]
    exact hh
theorem aq_lnR {E : aq_Env} {Q : Option Value → aq_H → Prop} {K : aq_K} {L : aq_L} {r : List Value} {h : aq_H} {bc bs n : Nat} {ts : List Nat} {a : Nat} : aq_stp E Q K L (.ref a :: r) h bc bs (.arraylength, n, ts) = aq_arN h a (fun t m => t ∈ [FieldType.int, .boolean, .long, .byte, .array .long] ∧ K n L (.int (Int32.ofNat m) :: r) h bc bs) := by
  apply propext
  constructor
  · intro hh
    rcases hh with hh | hh
    · exact hh
    · obtain ⟨v, r', e0, h1, -⟩ := aq_1v_inv hh
      cases e0
      cases h1
  · exact Or.inl
theorem aq_lnS {E : aq_Env} {Q : Option Value → aq_H → Prop} {K : aq_K} {L : aq_L} {r : List Value} {h : aq_H} {bc bs n : Nat} {ts : List Nat} {sL : Nat} {sX : Nat → Int32} (hE : E.2.2.2.2.2.2.2 = some (sL, sX) := by rfl) : aq_stp E Q K L (.retAddr 0 :: r) h bc bs (.arraylength, n, ts) = K n L (.int (Int32.ofNat sL) :: r) h bc bs := by
  apply propext
  constructor
  · intro hh
    rcases hh with hh | hh
    · obtain ⟨a, r', e0, -⟩ := aq_1a_inv hh
      cases e0
    · obtain ⟨v, r', e0, h1, h3⟩ := aq_1v_inv hh
      cases e0
      rw [hE] at h3
      exact h3
  · intro hh
    refine Or.inr ⟨rfl, ?_⟩
    rw [hE]
    exact hh
theorem aq_d2 {E : aq_Env} {Q : Option Value → aq_H → Prop} {K : aq_K} {L : aq_L} {r : List Value} {h : aq_H} {bc bs n : Nat} {ts : List Nat} {x : Int32} {w : Value} : aq_stp E Q K L (.int x :: w :: r) h bc bs (.dup2, n, ts) = (w.category = 1 ∧ K n L (.int x :: w :: .int x :: w :: r) h bc bs) := by
  simp only [aq_stp, aq_1v]
  rw [if_neg (by simp [Value.category])]
theorem aq_inc {E : aq_Env} {Q : Option Value → aq_H → Prop} {K : aq_K} {L : aq_L} {r : List Value} {h : aq_H} {bc bs n k : Nat} {ts : List Nat} {d : Int} {v : Int32} (hd : Int32.ofInt d = v) : aq_stp E Q K L r h bc bs (.iinc k d, n, ts) = aq_gI L k (fun x => k < L.length ∧ K n (aq_s1 L k (.int (x + v))) r h bc bs) := by
  subst hd
  rfl
section CLS
variable {E : aq_Env} {Q : Option Value → aq_H → Prop} {K : aq_K} {L : aq_L} {st r as : List Value} {h : aq_H} {bc bs n idx ci np mc ms a : Nat} {ts : List Nat} {F : aq_F}
theorem aq_cl0 (hl : aq_lk E.2.2.1 idx = some (0, ci, np, mc, ms, F)) (hp : aq_pop np st [] = some (as, r)) : aq_stp E Q K L st h bc bs (.invokestatic idx, n, ts) = (aq_sh r = true ∧ mc ≤ bc ∧ ms ≤ bs ∧ ∃ r' h', F as h r' h' ∧ K n L (r'.toList ++ r) h' (bc - mc) (bs - ms)) := by
  simp only [aq_stp, aq_call, hl, aq_sm, if_true, hp, true_and]
theorem aq_cl0z (hl : aq_lk E.2.2.1 idx = some (0, ci, np, 0, 0, F)) (hp : aq_pop np st [] = some (as, r)) : aq_stp E Q K L st h bc bs (.invokestatic idx, n, ts) = (aq_sh r = true ∧ ∃ r' h', F as h r' h' ∧ K n L (r'.toList ++ r) h' bc bs) := by
  rw [aq_cl0 hl hp]
  simp only [Nat.zero_le, true_and, Nat.sub_zero]
theorem aq_cl1 (hl : aq_lk E.2.2.1 idx = some (1, ci, np, mc, ms, F)) (hp : aq_pop (np + 1) st [] = some (.ref a :: as, r)) : aq_stp E Q K L st h bc bs (.invokevirtual idx, n, ts) = (aq_sh r = true ∧ mc ≤ bc ∧ ms ≤ bs ∧ aq_ob h a (fun c _ => c = ci) ∧ ∃ r' h', F (.ref a :: as) h r' h' ∧ K n L (r'.toList ++ r) h' (bc - mc) (bs - ms)) := by
  simp only [aq_stp, aq_call, hl, aq_sm, Nat.one_ne_zero, if_false, hp, if_true, true_and, aq_rv, aq_rc]
theorem aq_cl1z (hl : aq_lk E.2.2.1 idx = some (1, ci, np, 0, 0, F)) (hp : aq_pop (np + 1) st [] = some (.ref a :: as, r)) : aq_stp E Q K L st h bc bs (.invokevirtual idx, n, ts) = (aq_sh r = true ∧ aq_ob h a (fun c _ => c = ci) ∧ ∃ r' h', F (.ref a :: as) h r' h' ∧ K n L (r'.toList ++ r) h' bc bs) := by
  rw [aq_cl1 hl hp]
  simp only [Nat.zero_le, true_and, Nat.sub_zero]
theorem aq_cl1sz (hl : aq_lk E.2.2.1 idx = some (1, 1001, np, 0, 0, F)) (hp : aq_pop (np + 1) st [] = some (.retAddr 1 :: as, r)) : aq_stp E Q K L st h bc bs (.invokevirtual idx, n, ts) = (aq_sh r = true ∧ ∃ r' h', F (.retAddr 1 :: as) h r' h' ∧ K n L (r'.toList ++ r) h' bc bs) := by
  simp only [aq_stp, aq_call, hl, aq_sm, Nat.one_ne_zero, if_false, hp, if_true, true_and, aq_rv, aq_rc, Nat.zero_le, Nat.sub_zero]
theorem aq_cl2 (ho : ¬ idx = E.2.2.2.2.2.2.1) (hl : aq_lk E.2.2.1 idx = some (2, ci, np, mc, ms, F)) (hp : aq_pop (np + 1) st [] = some (.ref a :: as, r)) : aq_stp E Q K L st h bc bs (.invokespecial idx, n, ts) = (aq_sh r = true ∧ mc ≤ bc ∧ ms ≤ bs ∧ ∃ r' h', F (.ref a :: as) h r' h' ∧ K n L (r'.toList ++ r) h' (bc - mc) (bs - ms)) := by
  simp only [aq_stp]
  rw [if_neg ho]
  simp only [aq_call, hl, aq_sm, show ¬ (2 : Nat) = 0 from by decide, show ¬ (2 : Nat) = 1 from by decide, if_false, hp, true_and, aq_rv, aq_rn]
theorem aq_cl2z (ho : ¬ idx = E.2.2.2.2.2.2.1) (hl : aq_lk E.2.2.1 idx = some (2, ci, np, 0, 0, F)) (hp : aq_pop (np + 1) st [] = some (.ref a :: as, r)) : aq_stp E Q K L st h bc bs (.invokespecial idx, n, ts) = (aq_sh r = true ∧ ∃ r' h', F (.ref a :: as) h r' h' ∧ K n L (r'.toList ++ r) h' bc bs) := by
  rw [aq_cl2 ho hl hp]
  simp only [Nat.zero_le, true_and, Nat.sub_zero]
end CLS
