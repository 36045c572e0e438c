-- dep 80.cyc 81.lay 82.pop 83.join 84.make
/-! desk and model end with the same tree -/
theorem gEn_uniq {w ht root : Nat} {wx wy : Bool} {cb : Nat → Bool} {seed : Int32} {p p' : Nat → Nat} {k k' : Nat} (h : gEn w ht wx wy cb seed root p k) (h' : gEn w ht wx wy cb seed root p' k') : p = p' ∧ k = k' :=
  Pops_uniq (Tr_term (fun z => z.2.2 rfl) h.2) (Tr_term (fun z => z.2.2 rfl) h'.2) h.1.1 h'.1.1
theorem gOv_no {w ht root : Nat} {wx wy : Bool} {cb : Nat → Bool} {seed : Int32} {p : Nat → Nat} {k : Nat} (ho : gOv w ht wx wy cb seed root) (h : gEn w ht wx wy cb seed root p k) : False := by
  obtain ⟨j, p', h1, c, h2⟩ := ho
  have := Pops_over (Tr_term (fun z => z.2.2 rfl) h.2) h.1.1 h1 c
  have := h.1.2 c
  omega
