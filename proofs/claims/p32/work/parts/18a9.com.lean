/-! small functions in words -/
theorem zz_sml {x : Int} (h : -50000 ≤ x ∧ x ≤ 50000) : zz_in x := ⟨by omega, by omega⟩
theorem zz_n10 : ¬ ((1 : Int) = 0) := by decide
theorem zz_n01 : ¬ ((0 : Int) = 1) := by decide
theorem zz_00 : (0 : Int) = 0 := rfl
theorem zz_max {u : fx_U} {a b : Int} : f_J9_max_7cf53 u a b = max a b := by
  unfold f_J9_max_7cf53
  rw [Int.max_def]
  split <;> split <;> omega
theorem zz_is {u : fx_U} {x a b : Int} : f_X11_isIn u x a b = if a ≤ x ∧ x ≤ b then 1 else 0 := by
  unfold f_X11_isIn
  by_cases h1 : x < a
  · rw [if_pos h1, if_neg (by omega)]
  · by_cases h2 : b < x
    · rw [if_neg h1, if_pos h2, if_neg (by omega)]
    · rw [if_neg h1, if_neg h2, if_pos (by omega)]
theorem zz_is2 {u : fx_U} {x a b : Int} : f_X12_in u x a b = if a ≤ x ∧ x ≤ b then 1 else 0 := by
  unfold f_X12_in
  by_cases h1 : x < a
  · rw [if_pos h1, if_neg (by omega)]
  · by_cases h2 : b < x
    · rw [if_neg h1, if_pos h2, if_neg (by omega)]
    · rw [if_neg h1, if_neg h2, if_pos (by omega)]
theorem zz_and {y : Int} (h : -128 ≤ y ∧ y ≤ 127) : fx_b_and y 255 = y % 256 := by
  unfold fx_b_and
  rw [zz_and255]
  have h1 := zz_nat (Int32.ofInt y)
  have h2 := zz_lt (Int32.ofInt y)
  rw [zz_ofInt ⟨by omega, by omega⟩] at h1
  generalize (Int32.ofInt y).toBitVec.toNat = N at *
  split at h1 <;> omega
