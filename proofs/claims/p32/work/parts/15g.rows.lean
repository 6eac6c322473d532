/-! THE THREE ROWS OF A ROAD (kerb, height, wear): cells of kind 118 -/
/-- all other such rows are as they were -/
def zz_rx (τ : q_T) (σ σ1 : q_V) (c0 c1 c2 : Nat) : Prop := ∀ c : Nat, τ c = some (118, 64) → c ≠ c0 → c ≠ c1 → c ≠ c2 → σ1 c = σ c
/-- they are 0 ahead of a place -/
def zz_rz (σ : q_V) (c0 c1 c2 : Nat) (n : Int) : Prop := ∀ j : Nat, (j : Int) < n → σ c0 j = .int 0 ∧ σ c1 j = .int 0 ∧ σ c2 j = .int 0
/-- they hold what three others held -/
def zz_rc (σ σ1 : q_V) (c0 c1 c2 d0 d1 d2 : Nat) : Prop := ∀ j : Nat, j < 64 → σ1 c0 j = σ d0 j ∧ σ1 c1 j = σ d1 j ∧ σ1 c2 j = σ d2 j
/-- three and three are apart -/
def zz_a6 (c0 c1 c2 d0 d1 d2 : Nat) : Prop := (c0 ≠ c1 ∧ c0 ≠ c2 ∧ c1 ≠ c2) ∧ (d0 ≠ d1 ∧ d0 ≠ d2 ∧ d1 ≠ d2) ∧ (d0 ≠ c0 ∧ d0 ≠ c1 ∧ d0 ≠ c2) ∧ (d1 ≠ c0 ∧ d1 ≠ c1 ∧ d1 ≠ c2) ∧ (d2 ≠ c0 ∧ d2 ≠ c1 ∧ d2 ≠ c2)
/-- the reference's rows are 0 ahead of a place -/
def zz_qz (σ : q_V) (b : Nat) (n : Int) : Prop := ∀ j : Nat, (j : Int) < n → σ b j = .int 0 ∧ σ b (64 + j) = .int 0 ∧ σ b (128 + j) = .int 0
section Rows
variable {τ : q_T} {σ σ1 σ2 s1 s2 s3 : q_V} {c c0 c1 c2 d0 d1 d2 a b k n j : Nat} {v : Value} {m m2 : Int} {md : List (Nat × Nat)}
theorem zz_neT {x y : Nat × Nat} (hb : τ b = some x) (hc : τ c = some y) (h : x ≠ y) : b ≠ c := fun e => by
  rw [e, hc] at hb
  exact h (Option.some.inj hb).symm
theorem zz_refT {k2 n2 : Nat} (hI : q_I τ σ) (hT : τ a = some (k, 1)) (hj : j < q_lim k 1) (hb : σ a j = .ref b) (ht : q_f k j = (1, (k2 : Int), (n2 : Int))) : τ b = some (k2, n2) := by
  obtain ⟨b2, e1, e2⟩ := (hI a k 1 hT j hj).ref ht
  rw [hb] at e1
  cases e1
  exact e2
/-! a row stays -/
theorem zz_sP (e : σ2 = q_up σ1 a j v) (hA : τ a = some (k, n)) (hk : (118, 64) ≠ (k, n)) (hc : τ c = some (118, 64)) : σ2 c = σ1 c := by
  rw [e, q_up_ne (zz_neT hc hA hk)]
theorem zz_sY {N : Nat} (e : σ2 = q_cp σ1 b a N) (hA : τ a = some (k, n)) (hk : (118, 64) ≠ (k, n)) (hc : τ c = some (118, 64)) : σ2 c = σ1 c := by
  rw [e, q_cp_ne (zz_neT hc hA hk)]
theorem zz_sC (hS : q_S md τ σ1 σ2) (hm : md.contains (118, 0) = false) (hc : τ c = some (118, 64)) : σ2 c = σ1 c := funext fun _ => hS.2.arr hc (by decide) hm
theorem zz_rx.rf : zz_rx τ σ σ c0 c1 c2 := fun _ _ _ _ _ => rfl
theorem zz_rx.S (h : zz_rx τ σ σ1 c0 c1 c2) (hs : ∀ c : Nat, τ c = some (118, 64) → σ2 c = σ1 c) : zz_rx τ σ σ2 c0 c1 c2 := fun c hc h0 h1 h2 => (hs c hc).trans (h c hc h0 h1 h2)
theorem zz_rx.P (h : zz_rx τ σ σ1 c0 c1 c2) (e : σ2 = q_up σ1 a j v) (ha : a = c0 ∨ a = c1 ∨ a = c2) : zz_rx τ σ σ2 c0 c1 c2 := fun c hc h0 h1 h2 => by
  rw [e, q_up_ne (show c ≠ a by rcases ha with q | q | q <;> rw [q] <;> assumption)]
  exact h c hc h0 h1 h2
theorem zz_rx.Y {N : Nat} (h : zz_rx τ σ σ1 c0 c1 c2) (e : σ2 = q_cp σ1 b a N) (ha : a = c0 ∨ a = c1 ∨ a = c2) : zz_rx τ σ σ2 c0 c1 c2 := fun c hc h0 h1 h2 => by
  rw [e, q_cp_ne (show c ≠ a by rcases ha with q | q | q <;> rw [q] <;> assumption)]
  exact h c hc h0 h1 h2
theorem zz_rz.S (h : zz_rz σ1 c0 c1 c2 m) (h0 : σ2 c0 = σ1 c0) (h1 : σ2 c1 = σ1 c1) (h2 : σ2 c2 = σ1 c2) : zz_rz σ2 c0 c1 c2 m := fun j hj => by
  rw [h0, h1, h2]
  exact h j hj
theorem zz_rz.le (h : zz_rz σ1 c0 c1 c2 m) (hm : m2 ≤ m) : zz_rz σ1 c0 c1 c2 m2 := fun j hj => h j (by omega)
theorem zz_z0 {s t : q_V} {a b i j : Nat} (e : t = q_up s a i (.int 0)) (h : s b j = .int 0) : t b j = .int 0 := by
  rw [e]
  by_cases q1 : b = a
  · by_cases q2 : j = i
    · rw [q1, q2, q_up_same]
    · rw [q_up_else (Or.inr q2)]
      exact h
  · rw [q_up_else (Or.inl q1)]
    exact h
theorem zz_rz.it {x : Int32} (h : zz_rz σ c0 c1 c2 x.toInt) (e1 : s1 = q_up σ c0 x.toInt.toNat (.int 0)) (e2 : s2 = q_up s1 c1 x.toInt.toNat (.int 0)) (e3 : s3 = q_up s2 c2 x.toInt.toNat (.int 0)) : zz_rz s3 c0 c1 c2 (x.toInt + 1) := fun j hj => by
  by_cases q : (j : Int) < x.toInt
  · obtain ⟨g0, g1, g2⟩ := h j q
    exact ⟨zz_z0 e3 (zz_z0 e2 (zz_z0 e1 g0)), zz_z0 e3 (zz_z0 e2 (zz_z0 e1 g1)), zz_z0 e3 (zz_z0 e2 (zz_z0 e1 g2))⟩
  · have ej : j = x.toInt.toNat := by omega
    have a0 : s1 c0 j = .int 0 := by rw [e1, ej, q_up_same]
    have a1 : s2 c1 j = .int 0 := by rw [e2, ej, q_up_same]
    have a2 : s3 c2 j = .int 0 := by rw [e3, ej, q_up_same]
    exact ⟨zz_z0 e3 (zz_z0 e2 a0), zz_z0 e3 a1, a2⟩
theorem zz_rc.S (h : zz_rc σ σ1 c0 c1 c2 d0 d1 d2) (h0 : σ2 c0 = σ1 c0) (h1 : σ2 c1 = σ1 c1) (h2 : σ2 c2 = σ1 c2) : zz_rc σ σ2 c0 c1 c2 d0 d1 d2 := fun j hj => by
  rw [h0, h1, h2]
  exact h j hj
theorem zz_rc.B (h : zz_rc σ1 σ2 c0 c1 c2 d0 d1 d2) (h0 : σ1 d0 = σ d0) (h1 : σ1 d1 = σ d1) (h2 : σ1 d2 = σ d2) : zz_rc σ σ2 c0 c1 c2 d0 d1 d2 := fun j hj => by
  rw [← h0, ← h1, ← h2]
  exact h j hj
theorem zz_rc.it (e1 : s1 = q_cp σ d0 c0 64) (e2 : s2 = q_cp s1 d1 c1 64) (e3 : s3 = q_cp s2 d2 c2 64) (p : zz_a6 c0 c1 c2 d0 d1 d2) : zz_rc σ s3 c0 c1 c2 d0 d1 d2 := fun j hj => by
  obtain ⟨⟨p1, p2, p3⟩, -, -, ⟨p4, -, -⟩, p5, p6, -⟩ := p
  refine ⟨?_, ?_, ?_⟩
  · rw [e3, q_cp_ne p2, e2, q_cp_ne p1, e1, q_cp_at hj]
  · rw [e3, q_cp_ne p3, e2, q_cp_at hj, e1, q_cp_ne p4]
  · rw [e3, q_cp_at hj, e2, q_cp_ne p6, e1, q_cp_ne p5]
/-! the reference -/
theorem zz_qz.kr (h : zz_qz σ1 b m) (hm : m ≤ 64) (hk : fx_kr σ1 σ2 b) : zz_qz σ2 b m := fun j hj => by
  rw [hk j (by omega), hk (64 + j) (by omega), hk (128 + j) (by omega)]
  exact h j hj
theorem zz_qz.le (h : zz_qz σ1 b m) (hm : m2 ≤ m) : zz_qz σ1 b m2 := fun j hj => h j (by omega)
theorem zz_qz.it {x y0 y1 y2 : Int32} (h : zz_qz σ b x.toInt) (hx : q_r x 0 63) (e1 : s1 = q_up σ b y0.toInt.toNat (.int 0)) (e2 : s2 = q_up s1 b y1.toInt.toNat (.int 0)) (e3 : s3 = q_up s2 b y2.toInt.toNat (.int 0)) (q0 : y0.toInt = x.toInt) (q1 : y1.toInt = 64 + x.toInt) (q2 : y2.toInt = 128 + x.toInt) : zz_qz s3 b (x.toInt + 1) := fun j hj => by
  unfold q_r at hx
  by_cases q : (j : Int) < x.toInt
  · obtain ⟨g0, g1, g2⟩ := h j q
    exact ⟨zz_z0 e3 (zz_z0 e2 (zz_z0 e1 g0)), zz_z0 e3 (zz_z0 e2 (zz_z0 e1 g1)), zz_z0 e3 (zz_z0 e2 (zz_z0 e1 g2))⟩
  · have a0 : s1 b j = .int 0 := by rw [e1, show y0.toInt.toNat = j by omega, q_up_same]
    have a1 : s2 b (64 + j) = .int 0 := by rw [e2, show y1.toInt.toNat = 64 + j by omega, q_up_same]
    have a2 : s3 b (128 + j) = .int 0 := by rw [e3, show y2.toInt.toNat = 128 + j by omega, q_up_same]
    exact ⟨zz_z0 e3 (zz_z0 e2 a0), zz_z0 e3 a1, a2⟩
end Rows
/-- a road that is made: its rows are apart, it has 16 dots, its rows are 0 -/
def zz_rd (τ : q_T) (σ : q_V) (h c0 c1 c2 : Nat) : Prop := τ h = some (6, 1) ∧ (τ c0 = some (118, 64) ∧ τ c1 = some (118, 64) ∧ τ c2 = some (118, 64)) ∧ (σ h 1 = .ref c0 ∧ σ h 2 = .ref c1 ∧ σ h 3 = .ref c2) ∧ (c0 ≠ c1 ∧ c0 ≠ c2 ∧ c1 ≠ c2) ∧ σ h 0 = .int 16 ∧ zz_rz σ c0 c1 c2 64
section Made
variable {τ τ1 : q_T} {σ σ1 : q_V} {h c0 c1 c2 d0 d1 d2 a k : Nat}
theorem zz_rd.mv (r : zz_rd τ σ h c0 c1 c2) (hh : τ1 h = some (6, 1)) (hs : ∀ j, j < 4 → σ1 h j = σ h j) (g0 : τ1 c0 = some (118, 64) ∧ σ1 c0 = σ c0) (g1 : τ1 c1 = some (118, 64) ∧ σ1 c1 = σ c1) (g2 : τ1 c2 = some (118, 64) ∧ σ1 c2 = σ c2) : zz_rd τ1 σ1 h c0 c1 c2 := by
  obtain ⟨-, -, ⟨r1, r2, r3⟩, r4, r5, r6⟩ := r
  exact ⟨hh, ⟨g0.1, g1.1, g2.1⟩, ⟨(hs 1 (by decide)).trans r1, (hs 2 (by decide)).trans r2, (hs 3 (by decide)).trans r3⟩, r4, (hs 0 (by decide)).trans r5, r6.S g0.2 g1.2 g2.2⟩
theorem zz_rd.new (r : zz_rd τ σ h c0 c1 c2) (x : ∀ (b : Nat) (x : Nat × Nat), τ b = some x → τ1 b = some x ∧ σ1 b = σ b) : zz_rd τ1 σ1 h c0 c1 c2 := by
  obtain ⟨t0, t1, t2⟩ := r.2.1
  exact r.mv (x h _ r.1).1 (fun j _ => congrFun (x h _ r.1).2 j) (x c0 _ t0) (x c1 _ t1) (x c2 _ t2)
theorem zz_rd.put (r : zz_rd τ σ h c0 c1 c2) (x : ∀ b, b ≠ a → σ1 b = σ b) (ta : τ a = some (k, 0)) : zz_rd τ σ1 h c0 c1 c2 := by
  obtain ⟨t0, t1, t2⟩ := r.2.1
  have ne : ∀ {b n m : Nat}, τ b = some (n, m) → m ≠ 0 → σ1 b = σ b := fun hb hm => x _ (fun e => by
    rw [e, ta] at hb
    cases hb
    exact hm rfl)
  exact r.mv r.1 (fun j _ => congrFun (ne r.1 (by decide)) j) ⟨t0, ne t0 (by decide)⟩ ⟨t1, ne t1 (by decide)⟩ ⟨t2, ne t2 (by decide)⟩
theorem zz_rd.call (r : zz_rd τ σ h c0 c1 c2) (x : ∀ (b : Nat) (x : Nat × Nat), b ≠ a → τ b = some x → τ1 b = some x ∧ (x = (9, 0) ∨ x = (4, 0) ∨ x = (118, 64) → σ1 b = σ b) ∧ (x = (6, 1) → ∀ j, j < 4 → σ1 b j = σ b j)) (ta : τ a = some (k, 0)) : zz_rd τ1 σ1 h c0 c1 c2 := by
  obtain ⟨t0, t1, t2⟩ := r.2.1
  have ne : ∀ {b n m : Nat}, τ b = some (n, m) → m ≠ 0 → b ≠ a := fun hb hm e => by
    rw [e, ta] at hb
    cases hb
    exact hm rfl
  obtain ⟨x1, -, x2⟩ := x h _ (ne r.1 (by decide)) r.1
  obtain ⟨y1, y2, -⟩ := x c0 _ (ne t0 (by decide)) t0
  obtain ⟨z1, z2, -⟩ := x c1 _ (ne t1 (by decide)) t1
  obtain ⟨w1, w2, -⟩ := x c2 _ (ne t2 (by decide)) t2
  exact r.mv x1 (x2 rfl) ⟨y1, y2 (Or.inr (Or.inr rfl))⟩ ⟨z1, z2 (Or.inr (Or.inr rfl))⟩ ⟨w1, w2 (Or.inr (Or.inr rfl))⟩
theorem zz_rd.ne (r : zz_rd τ σ h c0 c1 c2) (n0 : τ d0 = none) (n1 : τ d1 = none) (n2 : τ d2 = none) (p : d0 ≠ d1 ∧ d0 ≠ d2 ∧ d1 ≠ d2) : zz_a6 c0 c1 c2 d0 d1 d2 := by
  obtain ⟨t0, t1, t2⟩ := r.2.1
  have ne : ∀ {c d : Nat}, τ c = some (118, 64) → τ d = none → d ≠ c := fun hc hd e => by
    rw [e, hc] at hd
    cases hd
  exact ⟨r.2.2.2.1, p, ⟨ne t0 n0, ne t1 n0, ne t2 n0⟩, ⟨ne t0 n1, ne t1 n1, ne t2 n1⟩, ⟨ne t0 n2, ne t1 n2, ne t2 n2⟩⟩
end Made
