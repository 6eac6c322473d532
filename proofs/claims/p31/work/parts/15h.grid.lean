/-! THE GRID OF THE CLASS: its rows lie one behind another -/
def zz_gd (τ : q_T) (σ : q_V) (so M : Nat) : Prop := (τ so = some (8, 1) ∧ τ M = some (400, 5)) ∧ σ so 0 = .ref M ∧ ∀ j : Nat, j < 5 → σ M j = .ref (M + 1 + j)
section Grid
variable {τ τ1 : q_T} {σ σ1 : q_V} {so M a k : Nat}
theorem zz_gd.new (r : zz_gd τ σ so M) (x : ∀ (b : Nat) (x : Nat × Nat), τ b = some x → τ1 b = some x ∧ σ1 b = σ b) : zz_gd τ1 σ1 so M := by
  obtain ⟨⟨t0, t1⟩, r1, r2⟩ := r
  obtain ⟨a1, a2⟩ := x so _ t0
  obtain ⟨b1, b2⟩ := x M _ t1
  exact ⟨⟨a1, b1⟩, by rw [a2]; exact r1, fun j hj => by rw [b2]; exact r2 j hj⟩
theorem zz_gd.put (r : zz_gd τ σ so M) (x : ∀ b, b ≠ a → σ1 b = σ b) (ta : τ a = some (k, 0)) : zz_gd τ σ1 so M := by
  obtain ⟨⟨t0, t1⟩, r1, r2⟩ := r
  have ne : ∀ {b n m : Nat}, τ b = some (n, m) → m ≠ 0 → σ1 b = σ b := fun hb hm => x _ (fun e => by
    rw [e, ta] at hb
    cases hb
    exact hm rfl)
  exact ⟨⟨t0, t1⟩, by rw [ne t0 (by decide)]; exact r1, fun j hj => by rw [ne t1 (by decide)]; exact r2 j hj⟩
theorem zz_gd.call (r : zz_gd τ σ so M) (x : ∀ (b : Nat) (x : Nat × Nat), b ≠ a → τ b = some x → τ1 b = some x ∧ (x = (9, 0) ∨ x = (4, 0) ∨ x = (118, 64) ∨ x = (8, 1) ∨ x = (400, 5) → σ1 b = σ b) ∧ (x = (6, 1) → ∀ j, j < 4 → σ1 b j = σ b j)) (ta : τ a = some (k, 0)) : zz_gd τ1 σ1 so M := by
  obtain ⟨⟨t0, t1⟩, r1, r2⟩ := r
  have ne : ∀ {b n m : Nat}, τ b = some (n, m) → m ≠ 0 → b ≠ a := fun hb hm e => by
    rw [e, ta] at hb
    cases hb
    exact hm rfl
  obtain ⟨a1, a2, -⟩ := x so _ (ne t0 (by decide)) t0
  obtain ⟨b1, b2, -⟩ := x M _ (ne t1 (by decide)) t1
  have e1 := a2 (Or.inr (Or.inr (Or.inr (Or.inl rfl))))
  have e2 := b2 (Or.inr (Or.inr (Or.inr (Or.inr rfl))))
  exact ⟨⟨a1, b1⟩, by rw [e1]; exact r1, fun j hj => by rw [e2]; exact r2 j hj⟩
end Grid
