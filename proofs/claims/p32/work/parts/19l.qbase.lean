/-! what the night takes of the plan (19a, 19d, 19e) -/
def zp_dis (n : Nat) (K : Nat → Nat) : Prop := ∀ i j : Nat, i < n → j < n → i ≠ j → K i ≠ K j
def zp_bd (A B : Int → Int → Int → Int) (D : Int) : Prop := ∀ i t p : Int, 0 ≤ i → i < D → (p = 0 ∨ p = 1) → (1 ≤ A i t p ∧ A i t p ≤ 9) ∧ 0 ≤ B i t p ∧ B i t p ≤ 99
def zp_in (lo hi : Int) (r : Int × fx_U) : Prop := lo ≤ r.1 ∧ r.1 ≤ hi
theorem zp_rng {n lo hi x : Int} {a2 b3 b4 b5 : Nat} (h : lo ≤ hi) : ∀ (f : Nat) (j : Int) (w : fx_U), n - j < (f : Int) → 0 < f → zp_in lo hi (kL_X12_byLaw_3 n a2 x b4 b5 b3 lo hi f j w) := by
  intro f
  induction f with
  | zero => intro j w _ h; omega
  | succ f ih =>
    intro j w hf _
    show zp_in lo hi (kB_X12_byLaw_3 (kL_X12_byLaw_3 n a2 x b4 b5 b3 lo hi f) n a2 x b4 b5 b3 lo hi j w)
    unfold kB_X12_byLaw_3 kJ_X12_byLaw_91
    simp only [fz_lt, fz_lr, fz_lc]
    by_cases g : j < n
    · have nx : ∀ q : fx_U, zp_in lo hi (kL_X12_byLaw_3 n a2 x b4 b5 b3 lo hi f (j + 1) q) := fun q => ih (j + 1) q (by omega) (by omega)
      rw [if_pos g]
      split
      · split
        · split
          · exact ⟨Int.le_refl lo, h⟩
          · split
            · exact ⟨h, Int.le_refl hi⟩
            · refine ⟨?_, ?_⟩ <;> (dsimp only; omega)
        · exact nx _
      · exact nx _
    · rw [if_neg g]
      exact ⟨Int.le_refl lo, h⟩
def zp_A (v : fx_U) (a2 : Nat) (x lo hi i t p : Int) : Int := (f_X12_byLaw (f_X12_feels v a2 i t p 0) a2 x lo hi).1
