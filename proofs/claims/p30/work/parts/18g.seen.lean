/-! HOW FAR ONE SEES: the dot just ahead alone can hide one -/
theorem zz_slope {r : Nat → Int} : ∀ f : Nat, (∀ j : Nat, 2 ≤ j → j ≤ f → r (j - 1) * (j : Int) ≤ r j * ((j : Int) - 1)) → ∀ k : Nat, 1 ≤ k → k < f → r k * (f : Int) ≤ r f * (k : Int) := by
  intro f
  induction f with
  | zero => intro _ k _ h; omega
  | succ f ih =>
    intro hN k h1 h2
    have q := hN (f + 1) (by omega) (Nat.le_refl _)
    rw [Nat.add_sub_cancel] at q
    have e1 : ((f + 1 : Nat) : Int) - 1 = (f : Int) := by omega
    rw [e1] at q
    by_cases hk : k = f
    · subst hk
      exact q
    · have i := ih (fun j a b => hN j a (by omega)) k h1 (by omega)
      have hf : (0 : Int) < (f : Int) := by omega
      have hk0 : (0 : Int) ≤ (k : Int) := by omega
      have a1 := Int.mul_le_mul_of_nonneg_right i (show (0 : Int) ≤ ((f + 1 : Nat) : Int) by omega)
      have a2 := Int.mul_le_mul_of_nonneg_right q hk0
      have e2 : r f * (k : Int) * ((f + 1 : Nat) : Int) = r f * ((f + 1 : Nat) : Int) * (k : Int) := Int.mul_right_comm _ _ _
      have e3 : r k * (f : Int) * ((f + 1 : Nat) : Int) = r k * ((f + 1 : Nat) : Int) * (f : Int) := Int.mul_right_comm _ _ _
      have e4 : r (f + 1) * (f : Int) * (k : Int) = r (f + 1) * (k : Int) * (f : Int) := Int.mul_right_comm _ _ _
      rw [e2, e3] at a1
      rw [e4] at a2
      exact Int.le_of_mul_le_mul_right (Int.le_trans a1 a2) hf
/-- the reference's look at all between -/
theorem zz_hid {far fr to st base : Int} {v : fx_U} {bn : Nat} {h : Int → Int} (hf : 1 ≤ far ∧ far ≤ 64) (hfr : -200 ≤ fr ∧ fr ≤ 200) (hto : -200 ≤ to ∧ to ≤ 200) (hh : ∀ k : Int, 1 ≤ k → k < far → v bn (base + st * k).toNat = h k ∧ -200 ≤ h k ∧ h k ≤ 200) :
    ∀ (f : Nat) (k : Int), 1 ≤ k → (64 - k).toNat < f → (kL_X12_isHidden_32 far fr to st base v bn f k = 1 ∧ ∃ j : Int, k ≤ j ∧ j < far ∧ (to - fr) * j < (h j - fr) * far) ∨ (kL_X12_isHidden_32 far fr to st base v bn f k = 0 ∧ ∀ j : Int, k ≤ j → j < far → (h j - fr) * far ≤ (to - fr) * j) := by
  intro f
  induction f with
  | zero => intro k _ hk; omega
  | succ f ih =>
    intro k hk hfu
    have eK : kL_X12_isHidden_32 far fr to st base v bn (f + 1) k = kB_X12_isHidden_32 (kL_X12_isHidden_32 far fr to st base v bn f) far fr to st base v bn k := rfl
    rw [eK]
    unfold kB_X12_isHidden_32
    by_cases g : k < far
    · obtain ⟨v1, v2, v3⟩ := hh k hk g
      simp only [fz_lt, if_pos g, v1]
      have b1 := q_mulB (x := fr) (y := far) (a := -200) (b := 200) (c := 1) (d := 64) (lo := -12800) (hi := 12800) hfr hf (by decide)
      have b2 := q_mulB (x := to - fr) (y := k) (a := -400) (b := 400) (c := 1) (d := 64) (lo := -25600) (hi := 25600) (by omega) (by omega) (by decide)
      have b3 := q_mulB (x := h k) (y := far) (a := -200) (b := 200) (c := 1) (d := 64) (lo := -12800) (hi := 12800) ⟨v2, v3⟩ hf (by decide)
      have n1 : fx_b_mul fr far = fr * far := zz_wmul ⟨by omega, by omega⟩ ⟨by omega, by omega⟩ ⟨by omega, by omega⟩
      have n2 : fx_b_sub to fr = to - fr := zz_wsub ⟨by omega, by omega⟩ ⟨by omega, by omega⟩ ⟨by omega, by omega⟩
      have n3 : fx_b_mul (to - fr) k = (to - fr) * k := zz_wmul ⟨by omega, by omega⟩ ⟨by omega, by omega⟩ ⟨by omega, by omega⟩
      have n4 : fx_b_add (fr * far) ((to - fr) * k) = fr * far + (to - fr) * k := zz_wadd ⟨by omega, by omega⟩ ⟨by omega, by omega⟩ ⟨by omega, by omega⟩
      have n5 : fx_b_mul (h k) far = h k * far := zz_wmul ⟨by omega, by omega⟩ ⟨by omega, by omega⟩ ⟨by omega, by omega⟩
      rw [n1, n2, n3, n4, n5]
      have e : (h k - fr) * far = h k * far - fr * far := Int.sub_mul _ _ _
      by_cases c : fr * far + (to - fr) * k < h k * far
      · rw [if_pos c]
        exact Or.inl ⟨rfl, k, Int.le_refl _, g, by rw [e]; omega⟩
      · rw [if_neg c]
        rcases ih (k + 1) (by omega) (by omega) with ⟨z0, j, z1, z2, z3⟩ | ⟨z0, z1⟩
        · exact Or.inl ⟨z0, j, by omega, z2, z3⟩
        · refine Or.inr ⟨z0, fun j w1 w2 => ?_⟩
          by_cases ej : j = k
          · subst ej
            rw [e]
            omega
          · exact z1 j (by omega) w2
    · rw [if_neg g]
      exact Or.inr ⟨rfl, fun j w1 w2 => by omega⟩
