/-! rows for the runs of the abstract machine -/
theorem aq_n1 (x : Int32) : (narrow .int (.int x) = .int x) = True := eq_true rfl
theorem aq_n2 (x : Int64) : (narrow .long (.long x) = .long x) = True := eq_true rfl
theorem aq_n3 (t : FieldType) (k : Nat) : (narrow (.array t) (.ref k) = .ref k) = True := eq_true rfl
theorem aq_n4 (t : String) (k : Nat) : (narrow (.object t) (.ref k) = .ref k) = True := eq_true rfl
theorem aq_f1 (x : Int32) : (fits .int (.int x) = true) = True := eq_true rfl
theorem aq_f2 (x : Int64) : (fits .long (.long x) = true) = True := eq_true rfl
theorem aq_f3 (t : FieldType) (k : Nat) : (fits (.array t) (.ref k) = true) = True := eq_true rfl
theorem aq_f4 (t : String) (k : Nat) : (fits (.object t) (.ref k) = true) = True := eq_true rfl
theorem aq_gs (h : aq_H) (i j : Nat) (e : aq_E) : (h.set i e)[j]? = if i = j then h[i]?.map (fun _ => e) else h[j]? := by
  rw [List.getElem?_set]
  by_cases c : i = j
  · rw [if_pos c, if_pos c]
    by_cases d : i < h.length
    · rw [if_pos d, List.getElem?_eq_getElem d]
      rfl
    · rw [if_neg d, List.getElem?_eq_none (by omega)]
      rfl
  · rw [if_neg c, if_neg c]
theorem aq_ty1 : (FieldType.int ∈ [FieldType.int, .boolean, .long, .byte, .array .long]) = True := eq_true (by decide)
theorem aq_ty2 : (FieldType.boolean ∈ [FieldType.int, .boolean, .long, .byte, .array .long]) = True := eq_true (by decide)
theorem aq_ty3 : (FieldType.long ∈ [FieldType.int, .boolean, .long, .byte, .array .long]) = True := eq_true (by decide)
theorem aq_ty4 : (FieldType.byte ∈ [FieldType.int, .boolean, .long, .byte, .array .long]) = True := eq_true (by decide)
theorem aq_ty5 : (FieldType.array .long ∈ [FieldType.int, .boolean, .long, .byte, .array .long]) = True := eq_true (by decide)
theorem one_ne_zero_a : ((1 : Int32) = 0) = False := eq_false (by decide)
theorem zero_ne_one_a : ((0 : Int32) = 1) = False := eq_false (by decide)
/-- a truth value, as an int -/
def bI (p : Prop) [Decidable p] : Int32 := if p then 1 else 0
theorem bI_t {p : Prop} [Decidable p] (h : p) : bI p = 1 := if_pos h
theorem bI_f {p : Prop} [Decidable p] (h : ¬ p) : bI p = 0 := if_neg h
theorem bI_n (p : Prop) [Decidable p] : narrow .boolean (.int (bI p)) = .int (bI p) := by
  unfold bI
  split <;> rfl
theorem bI_n1 : narrow .boolean (.int 1) = .int 1 := rfl
theorem bI_n0 : narrow .boolean (.int 0) = .int 0 := rfl
