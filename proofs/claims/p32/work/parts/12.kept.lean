/-! rows that are copied place by place; the lights' green -/
theorem q_nastG {X : q_X} {cc : ByteArray} {own : String} {nL : Nat} {ret : Option FieldType} {fr lo mc ms cells slots pc : Nat} {τ : q_T} {σ σ0 : q_V} {lv : List (Nat × Value)} {st : List Value} {md : List (Nat × Nat)} {a n : Nat} {i x : Int32} (hG : q_G X cc own nL ret fr lo mc ms) (hd : decode cc pc = .ok (.iastore, 1)) (hS : q_S md τ σ0 σ) (hT : τ a = some (100, n)) (hi : 0 ≤ i.toInt ∧ i.toInt < n) (hv : q_v τ (q_f 100 i.toInt.toNat) (.int x)) (hm : md.contains (100, 0) = true)
    (kk : ∀ σ1 : q_V, σ1 = q_up σ a i.toInt.toNat (.int x) → q_S md τ σ0 σ1 → q_O X cells slots τ σ1 (pc + 1) lv st) : q_O X cells slots τ σ pc lv (.int x :: .int i :: .ref a :: st) :=
  q_iastV hG hd hT (by decide) (by decide) hi (kk _ rfl (hS.put hT (q_mdA (by decide) hm) (fun _ => hv)))
theorem q_cpyM {σ σ2 σ1 : q_V} {a0 a1 : Nat} {x x2 v : Int32} (h : ∀ j : Nat, (j : Int) < x.toInt → σ2 a1 j = σ a0 j) (u : σ1 = q_up σ2 a1 x.toInt.toNat (.int v)) (f : σ a0 x.toInt.toNat = .int v) (hx : 0 ≤ x.toInt) (e : x2.toInt = x.toInt + 1) : ∀ j : Nat, (j : Int) < x2.toInt → σ1 a1 j = σ a0 j := by
  intro j hj
  rw [u]
  by_cases hjx : j = x.toInt.toNat
  · rw [hjx, f]
    exact q_up_same
  · rw [q_up_slot hjx]
    exact h j (by omega)
/-- what is kept may be put back -/
def q_kp (τ : q_T) (σ : q_V) (a : Nat) : Prop := ∀ (x : Int32) (b : Nat), σ a 45 = .int x → x.toInt ≠ 0 → σ a 2 = .ref b → ∀ j : Nat, j < 549 → q_v τ (q_f 100 j) (σ b j)
def q_gn (m e g r : Int) : Prop := (e = 0 ∧ m % (2 * g + 2 * r) < g) ∨ (e ≠ 0 ∧ g + r ≤ m % (2 * g + 2 * r) ∧ m % (2 * g + 2 * r) ≤ 2 * g + r - 1)
/-- how many minutes until it's green -/
def q_gw (m e g r : Int) : Int := if e = 0 then (if m % (2 * g + 2 * r) < g then 0 else 2 * g + 2 * r - m % (2 * g + 2 * r)) else (if m % (2 * g + 2 * r) < g + r then g + r - m % (2 * g + 2 * r) else if m % (2 * g + 2 * r) ≤ 2 * g + r - 1 then 0 else 3 * g + 3 * r - m % (2 * g + 2 * r))
theorem q_gw_le {m e g r : Int} (hg : 1 ≤ g ∧ g ≤ 20) (hr : 0 ≤ r ∧ r ≤ 9) : 0 ≤ q_gw m e g r ∧ q_gw m e g r ≤ 38 := by
  have h1 := Int.emod_nonneg m (show 2 * g + 2 * r ≠ 0 by omega)
  have h2 := Int.emod_lt_of_pos m (show 0 < 2 * g + 2 * r by omega)
  unfold q_gw
  generalize m % (2 * g + 2 * r) = t at *
  repeat' split
  all_goals omega
theorem q_mod1 {m P : Int} (hP : 0 < P) : (m % P + 1 < P ∧ (m + 1) % P = m % P + 1) ∨ (m % P + 1 = P ∧ (m + 1) % P = 0) := by
  have h1 := Int.emod_nonneg m (show P ≠ 0 by omega)
  have h2 := Int.emod_lt_of_pos m hP
  have h3 := Int.mul_ediv_add_emod m P
  have h4 : (m + 1) % P = (m % P + 1) % P := by
    rw [Int.emod_add_emod]
  by_cases h : m % P + 1 < P
  · exact Or.inl ⟨h, by rw [h4]; exact Int.emod_eq_of_lt (by omega) h⟩
  · have h5 : m % P + 1 = P := by omega
    exact Or.inr ⟨h5, by rw [h4, h5]; exact Int.emod_self⟩
theorem q_gw_step {m e g r : Int} (hg : 1 ≤ g) (hr : 0 ≤ r) (h : ¬ q_gn m e g r) : q_gw (m + 1) e g r + 1 = q_gw m e g r := by
  have hP : 0 < 2 * g + 2 * r := by omega
  have h1 := Int.emod_nonneg m (show 2 * g + 2 * r ≠ 0 by omega)
  have h2 := Int.emod_lt_of_pos m hP
  have h3 := q_mod1 (m := m) hP
  unfold q_gn at h
  unfold q_gw
  generalize (m + 1) % (2 * g + 2 * r) = u at *
  generalize m % (2 * g + 2 * r) = t at *
  repeat' split
  all_goals omega
