/-! what stands at a place of the tape; a fault's number (for claims that have no row: else 18d, 18e say it) -/
def zz_pk (T : Nat → Int) (n p : Int) : Int := if p < n then T p.toNat else -1
def zz_ft (k p : Int) : Int := fx_b_sub (fx_b_mul (-1000) k) p
theorem zz_pk_lt {T : Nat → Int} {n p : Int} (h : zz_pk T n p ≠ -1) : p < n := by
  by_cases k : p < n
  · exact k
  · unfold zz_pk at h
    rw [if_neg k] at h
    exact absurd rfl h
theorem zz_ft_neg {k p : Int} (hk : 1 ≤ k ∧ k ≤ 6) (hp : 0 ≤ p ∧ p ≤ 1000) : zz_ft k p < 0 := by
  unfold zz_ft
  rw [zz_wmul ⟨by omega, by omega⟩ ⟨by omega, by omega⟩ ⟨by omega, by omega⟩, zz_wsub ⟨by omega, by omega⟩ ⟨by omega, by omega⟩ ⟨by omega, by omega⟩]
  omega
theorem zz_wrong {u : fx_U} {a : Nat} {k p : Int} : f_X12_wrongAt u a k p = (0, fx_pt u a 7 (zz_ft k p)) := rfl
