/-! more evaluation rows -/
theorem aq_nb (b : Bool) : (narrow .boolean (.int (bB b)) = .int (bB b)) = True := eq_true (by cases b <;> rfl)
theorem aq_nb1 : (narrow .boolean (.int 1) = .int 1) = True := eq_true rfl
theorem aq_nb0 : (narrow .boolean (.int 0) = .int 0) = True := eq_true rfl
theorem aq_fb (b : Bool) : (fits .boolean (.int (bB b)) = true) = True := eq_true (by cases b <;> rfl)
theorem aq_fb1 : (fits .boolean (.int 1) = true) = True := eq_true rfl
theorem aq_fb0 : (fits .boolean (.int 0) = true) = True := eq_true rfl
theorem nI_c1 {k : Nat} (h : k < 2 ^ 31) : nI k = 1 ↔ k = 1 := by rw [nI_one]; exact nI_eq h (by decide)
theorem nI_c0 {k : Nat} (h : k < 2 ^ 31) : nI k = 0 ↔ k = 0 := by rw [← nI_0]; exact nI_eq h (by decide)
theorem aq_ofN (n : Nat) : Int32.ofNat n = nI n := rfl
