/-! TWO LAWS of the class, as it is made: the one in force, and the reader's -/
def zz_lp (σ : q_V) (lf lr : Nat) : Prop := ∃ s1 v1 x5 x6 x7 s2 v2 y5 y6 y7 : Nat, (σ lf 3 = .ref s1 ∧ σ lf 4 = .ref v1 ∧ σ lf 5 = .ref x5 ∧ σ lf 6 = .ref x6 ∧ σ lf 7 = .ref x7) ∧ (σ lr 3 = .ref s2 ∧ σ lr 4 = .ref v2 ∧ σ lr 5 = .ref y5 ∧ σ lr 6 = .ref y6 ∧ σ lr 7 = .ref y7) ∧ s1 ≠ s2 ∧ v1 ≠ v2 ∧ x5 ≠ y5 ∧ x6 ≠ y6 ∧ x7 ≠ y7
def zz_lz (σ : q_V) (q lr lf : Nat) : Prop := σ q 4 = .ref lr ∧ lf ≠ lr ∧ zz_lp σ lf lr ∧ (σ lf 0 = .int 0 ∧ σ lf 1 = .int 0 ∧ σ lf 2 = .int 0)
def zz_ld (τ : q_T) (σ : q_V) (q lr lf : Nat) : Prop := (τ q = some (4, 1) ∧ τ lr = some (3, 1) ∧ τ lf = some (3, 1)) ∧ zz_lz σ q lr lf
section Laws
variable {τ τ1 : q_T} {σ σ1 : q_V} {q lr lf a h k : Nat}
theorem zz_lz.S (h : zz_lz σ q lr lf) (e1 : σ1 q = σ q) (e2 : σ1 lr = σ lr) (e3 : σ1 lf = σ lf) : zz_lz σ1 q lr lf := by
  unfold zz_lz zz_lp
  rw [e1, e2, e3]
  exact h
theorem zz_ld.new (r : zz_ld τ σ q lr lf) (x : ∀ (b : Nat) (x : Nat × Nat), τ b = some x → τ1 b = some x ∧ σ1 b = σ b) : zz_ld τ1 σ1 q lr lf := by
  obtain ⟨⟨t0, t1, t2⟩, r⟩ := r
  obtain ⟨a1, a2⟩ := x q _ t0
  obtain ⟨b1, b2⟩ := x lr _ t1
  obtain ⟨c1, c2⟩ := x lf _ t2
  exact ⟨⟨a1, b1, c1⟩, r.S a2 b2 c2⟩
theorem zz_ld.put (r : zz_ld τ σ q lr lf) (x : ∀ b, b ≠ a → σ1 b = σ b) (ta : τ a = some (k, 0)) : zz_ld τ σ1 q lr lf := by
  obtain ⟨⟨t0, t1, t2⟩, r⟩ := r
  have ne : ∀ {b n m : Nat}, τ b = some (n, m) → m ≠ 0 → σ1 b = σ b := fun hb hm => x _ (fun e => by
    rw [e, ta] at hb
    cases hb
    exact hm rfl)
  exact ⟨⟨t0, t1, t2⟩, r.S (ne t0 (by decide)) (ne t1 (by decide)) (ne t2 (by decide))⟩
def zz_lx (τ τ1 : q_T) (σ σ1 : q_V) (a : Nat) : Prop := ∀ (b : Nat) (x : Nat × Nat), b ≠ a → τ b = some x → τ1 b = some x ∧ (x = (9, 0) ∨ x = (4, 0) ∨ x = (118, 64) ∨ x = (4, 1) ∨ x = (3, 1) → σ1 b = σ b) ∧ (x = (6, 1) → ∀ j, j < 4 → σ1 b j = σ b j)
theorem zz_ld.call (r : zz_ld τ σ q lr lf) (x : zz_lx τ τ1 σ σ1 a) (ta : τ a = some (k, 0)) : zz_ld τ1 σ1 q lr lf := by
  obtain ⟨⟨t0, t1, t2⟩, r⟩ := r
  have ne : ∀ {b n m : Nat}, τ b = some (n, m) → m ≠ 0 → b ≠ a := fun hb hm e => by
    rw [e, ta] at hb
    cases hb
    exact hm rfl
  obtain ⟨a1, a2, -⟩ := x q _ (ne t0 (by decide)) t0
  obtain ⟨b1, b2, -⟩ := x lr _ (ne t1 (by decide)) t1
  obtain ⟨c1, c2, -⟩ := x lf _ (ne t2 (by decide)) t2
  exact ⟨⟨a1, b1, c1⟩, r.S (a2 (Or.inr (Or.inr (Or.inr (Or.inl rfl))))) (b2 (Or.inr (Or.inr (Or.inr (Or.inr rfl))))) (c2 (Or.inr (Or.inr (Or.inr (Or.inr rfl)))))⟩
theorem zz_ld.mk (I0 : q_I τ σ) (Tq : τ q = some (4, 1)) (Th : τ h = some (3, 0)) (T1 : τ1 h = some (3, 1)) (x : zz_lx τ τ1 σ σ1 h) (Q : ∃ sg vl l5 l6 l7 : Nat, (σ1 h 3 = .ref sg ∧ σ1 h 4 = .ref vl ∧ σ1 h 5 = .ref l5 ∧ σ1 h 6 = .ref l6 ∧ σ1 h 7 = .ref l7) ∧ (τ sg = none ∧ τ vl = none ∧ τ l5 = none ∧ τ l6 = none ∧ τ l7 = none) ∧ σ1 h 0 = .int 0 ∧ σ1 h 1 = .int 0 ∧ σ1 h 2 = .int 0) : ∃ lr : Nat, zz_ld τ1 σ1 q lr h := by
  obtain ⟨lr, e4, Tl⟩ := (I0 q 4 1 Tq 4 (by decide)).ref (k := 3) (n := 1) rfl
  have nl : lr ≠ h := fun e => by
    rw [e, Th] at Tl
    cases Tl
  have nq : q ≠ h := fun e => by
    rw [e, Th] at Tq
    cases Tq
  obtain ⟨a1, a2, -⟩ := x q _ nq Tq
  obtain ⟨b1, b2, -⟩ := x lr _ nl Tl
  have eq := a2 (Or.inr (Or.inr (Or.inr (Or.inl rfl))))
  have el := b2 (Or.inr (Or.inr (Or.inr (Or.inr rfl))))
  obtain ⟨s2, f3, U3⟩ := (I0 lr 3 1 Tl 3 (by decide)).ref (k := 112) (n := 240) rfl
  obtain ⟨v2, f4, U4⟩ := (I0 lr 3 1 Tl 4 (by decide)).ref (k := 113) (n := 240) rfl
  obtain ⟨y5, f5, U5⟩ := (I0 lr 3 1 Tl 5 (by decide)).ref (k := 114) (n := 16) rfl
  obtain ⟨y6, f6, U6⟩ := (I0 lr 3 1 Tl 6 (by decide)).ref (k := 115) (n := 16) rfl
  obtain ⟨y7, f7, U7⟩ := (I0 lr 3 1 Tl 7 (by decide)).ref (k := 116) (n := 16) rfl
  obtain ⟨sg, vl, l5, l6, l7, hp, ⟨n3, n4, n5, n6, n7⟩, hz⟩ := Q
  have nn : ∀ {b c : Nat} {z : Nat × Nat}, τ b = none → τ c = some z → b ≠ c := fun hb hc e => by
    rw [e, hc] at hb
    cases hb
  refine ⟨lr, ⟨a1, b1, T1⟩, ?_, Ne.symm nl, ⟨sg, vl, l5, l6, l7, s2, v2, y5, y6, y7, hp, ?_, nn n3 U3, nn n4 U4, nn n5 U5, nn n6 U6, nn n7 U7⟩, hz⟩
  · rw [eq]
    exact e4
  · rw [el]
    exact ⟨f3, f4, f5, f6, f7⟩
end Laws
