/-! THE NIGHT: a road is copied -/
section Copy
variable {N M : Nat → Nat} {b b2 : Nat} {D : Int} {u v w z : fx_U}
theorem zn_ca1 {u : fx_U} {a0 a n b i : Nat} (h : b ≠ a) : fx_cy u a0 a n b i = u b i := by simp [fx_cy, h]
theorem zn_cs1 {u : fx_U} {a0 a n i : Nat} (h : i < n) : fx_cy u a0 a n a i = u a0 i := by simp [fx_cy, h]
theorem zn_copy (dM : zp_dis 15 M) (dN : ∀ k j : Nat, k ≤ 14 → j ≤ 14 → N k ≠ M j) (hM : zn_P M u) (hN : zn_P N u) : ∃ w : fx_U, f_X7_copyFrom u (M 0) (N 0) = w ∧ (∀ c : Nat, (∀ j : Nat, j ≤ 14 → c ≠ M j) → ∀ i : Nat, w c i = u c i) ∧ zn_P M w ∧ (∀ k j : Nat, 1 ≤ k → k ≤ 8 → j < 64 → w (M k) j = u (N k) j) ∧ (∀ k a : Nat, 9 ≤ k → k ≤ 12 → a < 2 → w (M k) a = u (N k) a) ∧ (∀ k c : Nat, 13 ≤ k → k ≤ 14 → c < 12 → w (M k) c = u (N k) c) ∧ (w (M 0) 0 = u (N 0) 0 ∧ w (M 0) 15 = u (N 0) 15 ∧ w (M 0) 16 = u (N 0) 16 ∧ w (M 0) 17 = u (N 0) 17) := by
  have t0 : Int.toNat 0 = 0 := rfl
  have t1 : Int.toNat 1 = 1 := rfl
  have m : ∀ i j : Nat, i ≤ 14 → j ≤ 14 → i ≠ j → M i ≠ M j := fun i j h1 h2 h3 => dM i j (by omega) (by omega) h3
  obtain ⟨s1, h1⟩ : ∃ q : fx_U, q = fx_pt u (M 0) 0 (u (N 0) 0) := ⟨_, rfl⟩
  have L1 : ∀ c : Nat, c ≠ M 0 → ∀ j : Nat, s1 c j = u c j := fun c hc j => by
    rw [h1]
    exact zz_pa hc
  have A1 : ∀ k j : Nat, k ≤ 14 → s1 (N k) j = u (N k) j := fun k j hk => L1 (N k) (dN k 0 hk (by decide)) j
  have B1 : zn_P M s1 := fun j j1 j2 => by
    rw [h1]
    exact (zz_pj (by omega)).trans (hM j j1 j2)
  obtain ⟨s2, h2⟩ : ∃ q : fx_U, q = fx_cy s1 (N 1) (M 1) 64 := ⟨_, rfl⟩
  have L2 : ∀ c : Nat, c ≠ M 1 → ∀ j : Nat, s2 c j = s1 c j := fun c hc j => by
    rw [h2]
    exact zn_ca1 hc
  have A2 : ∀ k j : Nat, k ≤ 14 → s2 (N k) j = u (N k) j := fun k j hk => (L2 (N k) (dN k 1 hk (by decide)) j).trans (A1 k j hk)
  have B2 : zn_P M s2 := fun j h1 h2 => (L2 (M 0) (m 0 1 (by decide) (by decide) (by decide)) j).trans (B1 j h1 h2)
  obtain ⟨s3, h3⟩ : ∃ q : fx_U, q = fx_cy s2 (N 2) (M 2) 64 := ⟨_, rfl⟩
  have L3 : ∀ c : Nat, c ≠ M 2 → ∀ j : Nat, s3 c j = s2 c j := fun c hc j => by
    rw [h3]
    exact zn_ca1 hc
  have A3 : ∀ k j : Nat, k ≤ 14 → s3 (N k) j = u (N k) j := fun k j hk => (L3 (N k) (dN k 2 hk (by decide)) j).trans (A2 k j hk)
  have B3 : zn_P M s3 := fun j h1 h2 => (L3 (M 0) (m 0 2 (by decide) (by decide) (by decide)) j).trans (B2 j h1 h2)
  obtain ⟨s4, h4⟩ : ∃ q : fx_U, q = fx_cy s3 (N 3) (M 3) 64 := ⟨_, rfl⟩
  have L4 : ∀ c : Nat, c ≠ M 3 → ∀ j : Nat, s4 c j = s3 c j := fun c hc j => by
    rw [h4]
    exact zn_ca1 hc
  have A4 : ∀ k j : Nat, k ≤ 14 → s4 (N k) j = u (N k) j := fun k j hk => (L4 (N k) (dN k 3 hk (by decide)) j).trans (A3 k j hk)
  have B4 : zn_P M s4 := fun j h1 h2 => (L4 (M 0) (m 0 3 (by decide) (by decide) (by decide)) j).trans (B3 j h1 h2)
  obtain ⟨s5, h5⟩ : ∃ q : fx_U, q = fx_cy s4 (N 4) (M 4) 64 := ⟨_, rfl⟩
  have L5 : ∀ c : Nat, c ≠ M 4 → ∀ j : Nat, s5 c j = s4 c j := fun c hc j => by
    rw [h5]
    exact zn_ca1 hc
  have A5 : ∀ k j : Nat, k ≤ 14 → s5 (N k) j = u (N k) j := fun k j hk => (L5 (N k) (dN k 4 hk (by decide)) j).trans (A4 k j hk)
  have B5 : zn_P M s5 := fun j h1 h2 => (L5 (M 0) (m 0 4 (by decide) (by decide) (by decide)) j).trans (B4 j h1 h2)
  obtain ⟨s6, h6⟩ : ∃ q : fx_U, q = fx_cy s5 (N 5) (M 5) 64 := ⟨_, rfl⟩
  have L6 : ∀ c : Nat, c ≠ M 5 → ∀ j : Nat, s6 c j = s5 c j := fun c hc j => by
    rw [h6]
    exact zn_ca1 hc
  have A6 : ∀ k j : Nat, k ≤ 14 → s6 (N k) j = u (N k) j := fun k j hk => (L6 (N k) (dN k 5 hk (by decide)) j).trans (A5 k j hk)
  have B6 : zn_P M s6 := fun j h1 h2 => (L6 (M 0) (m 0 5 (by decide) (by decide) (by decide)) j).trans (B5 j h1 h2)
  obtain ⟨s7, h7⟩ : ∃ q : fx_U, q = fx_cy s6 (N 6) (M 6) 64 := ⟨_, rfl⟩
  have L7 : ∀ c : Nat, c ≠ M 6 → ∀ j : Nat, s7 c j = s6 c j := fun c hc j => by
    rw [h7]
    exact zn_ca1 hc
  have A7 : ∀ k j : Nat, k ≤ 14 → s7 (N k) j = u (N k) j := fun k j hk => (L7 (N k) (dN k 6 hk (by decide)) j).trans (A6 k j hk)
  have B7 : zn_P M s7 := fun j h1 h2 => (L7 (M 0) (m 0 6 (by decide) (by decide) (by decide)) j).trans (B6 j h1 h2)
  obtain ⟨s8, h8⟩ : ∃ q : fx_U, q = fx_cy s7 (N 7) (M 7) 64 := ⟨_, rfl⟩
  have L8 : ∀ c : Nat, c ≠ M 7 → ∀ j : Nat, s8 c j = s7 c j := fun c hc j => by
    rw [h8]
    exact zn_ca1 hc
  have A8 : ∀ k j : Nat, k ≤ 14 → s8 (N k) j = u (N k) j := fun k j hk => (L8 (N k) (dN k 7 hk (by decide)) j).trans (A7 k j hk)
  have B8 : zn_P M s8 := fun j h1 h2 => (L8 (M 0) (m 0 7 (by decide) (by decide) (by decide)) j).trans (B7 j h1 h2)
  obtain ⟨s9, h9⟩ : ∃ q : fx_U, q = fx_cy s8 (N 8) (M 8) 64 := ⟨_, rfl⟩
  have L9 : ∀ c : Nat, c ≠ M 8 → ∀ j : Nat, s9 c j = s8 c j := fun c hc j => by
    rw [h9]
    exact zn_ca1 hc
  have A9 : ∀ k j : Nat, k ≤ 14 → s9 (N k) j = u (N k) j := fun k j hk => (L9 (N k) (dN k 8 hk (by decide)) j).trans (A8 k j hk)
  have B9 : zn_P M s9 := fun j h1 h2 => (L9 (M 0) (m 0 8 (by decide) (by decide) (by decide)) j).trans (B8 j h1 h2)
  obtain ⟨s10, h10⟩ : ∃ q : fx_U, q = fx_pt s9 (M 9) 0 (u (N 9) 0) := ⟨_, rfl⟩
  have L10 : ∀ c : Nat, c ≠ M 9 → ∀ j : Nat, s10 c j = s9 c j := fun c hc j => by
    rw [h10]
    exact zz_pa hc
  have A10 : ∀ k j : Nat, k ≤ 14 → s10 (N k) j = u (N k) j := fun k j hk => (L10 (N k) (dN k 9 hk (by decide)) j).trans (A9 k j hk)
  have B10 : zn_P M s10 := fun j h1 h2 => (L10 (M 0) (m 0 9 (by decide) (by decide) (by decide)) j).trans (B9 j h1 h2)
  obtain ⟨s11, h11⟩ : ∃ q : fx_U, q = fx_pt s10 (M 10) 0 (u (N 10) 0) := ⟨_, rfl⟩
  have L11 : ∀ c : Nat, c ≠ M 10 → ∀ j : Nat, s11 c j = s10 c j := fun c hc j => by
    rw [h11]
    exact zz_pa hc
  have A11 : ∀ k j : Nat, k ≤ 14 → s11 (N k) j = u (N k) j := fun k j hk => (L11 (N k) (dN k 10 hk (by decide)) j).trans (A10 k j hk)
  have B11 : zn_P M s11 := fun j h1 h2 => (L11 (M 0) (m 0 10 (by decide) (by decide) (by decide)) j).trans (B10 j h1 h2)
  obtain ⟨s12, h12⟩ : ∃ q : fx_U, q = fx_pt s11 (M 11) 0 (u (N 11) 0) := ⟨_, rfl⟩
  have L12 : ∀ c : Nat, c ≠ M 11 → ∀ j : Nat, s12 c j = s11 c j := fun c hc j => by
    rw [h12]
    exact zz_pa hc
  have A12 : ∀ k j : Nat, k ≤ 14 → s12 (N k) j = u (N k) j := fun k j hk => (L12 (N k) (dN k 11 hk (by decide)) j).trans (A11 k j hk)
  have B12 : zn_P M s12 := fun j h1 h2 => (L12 (M 0) (m 0 11 (by decide) (by decide) (by decide)) j).trans (B11 j h1 h2)
  obtain ⟨s13, h13⟩ : ∃ q : fx_U, q = fx_pt s12 (M 12) 0 (u (N 12) 0) := ⟨_, rfl⟩
  have L13 : ∀ c : Nat, c ≠ M 12 → ∀ j : Nat, s13 c j = s12 c j := fun c hc j => by
    rw [h13]
    exact zz_pa hc
  have A13 : ∀ k j : Nat, k ≤ 14 → s13 (N k) j = u (N k) j := fun k j hk => (L13 (N k) (dN k 12 hk (by decide)) j).trans (A12 k j hk)
  have B13 : zn_P M s13 := fun j h1 h2 => (L13 (M 0) (m 0 12 (by decide) (by decide) (by decide)) j).trans (B12 j h1 h2)
  obtain ⟨s14, h14⟩ : ∃ q : fx_U, q = fx_pt s13 (M 9) 1 (u (N 9) 1) := ⟨_, rfl⟩
  have L14 : ∀ c : Nat, c ≠ M 9 → ∀ j : Nat, s14 c j = s13 c j := fun c hc j => by
    rw [h14]
    exact zz_pa hc
  have A14 : ∀ k j : Nat, k ≤ 14 → s14 (N k) j = u (N k) j := fun k j hk => (L14 (N k) (dN k 9 hk (by decide)) j).trans (A13 k j hk)
  have B14 : zn_P M s14 := fun j h1 h2 => (L14 (M 0) (m 0 9 (by decide) (by decide) (by decide)) j).trans (B13 j h1 h2)
  obtain ⟨s15, h15⟩ : ∃ q : fx_U, q = fx_pt s14 (M 10) 1 (u (N 10) 1) := ⟨_, rfl⟩
  have L15 : ∀ c : Nat, c ≠ M 10 → ∀ j : Nat, s15 c j = s14 c j := fun c hc j => by
    rw [h15]
    exact zz_pa hc
  have A15 : ∀ k j : Nat, k ≤ 14 → s15 (N k) j = u (N k) j := fun k j hk => (L15 (N k) (dN k 10 hk (by decide)) j).trans (A14 k j hk)
  have B15 : zn_P M s15 := fun j h1 h2 => (L15 (M 0) (m 0 10 (by decide) (by decide) (by decide)) j).trans (B14 j h1 h2)
  obtain ⟨s16, h16⟩ : ∃ q : fx_U, q = fx_pt s15 (M 11) 1 (u (N 11) 1) := ⟨_, rfl⟩
  have L16 : ∀ c : Nat, c ≠ M 11 → ∀ j : Nat, s16 c j = s15 c j := fun c hc j => by
    rw [h16]
    exact zz_pa hc
  have A16 : ∀ k j : Nat, k ≤ 14 → s16 (N k) j = u (N k) j := fun k j hk => (L16 (N k) (dN k 11 hk (by decide)) j).trans (A15 k j hk)
  have B16 : zn_P M s16 := fun j h1 h2 => (L16 (M 0) (m 0 11 (by decide) (by decide) (by decide)) j).trans (B15 j h1 h2)
  obtain ⟨s17, h17⟩ : ∃ q : fx_U, q = fx_pt s16 (M 12) 1 (u (N 12) 1) := ⟨_, rfl⟩
  have L17 : ∀ c : Nat, c ≠ M 12 → ∀ j : Nat, s17 c j = s16 c j := fun c hc j => by
    rw [h17]
    exact zz_pa hc
  have A17 : ∀ k j : Nat, k ≤ 14 → s17 (N k) j = u (N k) j := fun k j hk => (L17 (N k) (dN k 12 hk (by decide)) j).trans (A16 k j hk)
  have B17 : zn_P M s17 := fun j h1 h2 => (L17 (M 0) (m 0 12 (by decide) (by decide) (by decide)) j).trans (B16 j h1 h2)
  obtain ⟨s18, h18⟩ : ∃ q : fx_U, q = fx_cy s17 (N 13) (M 13) 12 := ⟨_, rfl⟩
  have L18 : ∀ c : Nat, c ≠ M 13 → ∀ j : Nat, s18 c j = s17 c j := fun c hc j => by
    rw [h18]
    exact zn_ca1 hc
  have A18 : ∀ k j : Nat, k ≤ 14 → s18 (N k) j = u (N k) j := fun k j hk => (L18 (N k) (dN k 13 hk (by decide)) j).trans (A17 k j hk)
  have B18 : zn_P M s18 := fun j h1 h2 => (L18 (M 0) (m 0 13 (by decide) (by decide) (by decide)) j).trans (B17 j h1 h2)
  obtain ⟨s19, h19⟩ : ∃ q : fx_U, q = fx_cy s18 (N 14) (M 14) 12 := ⟨_, rfl⟩
  have L19 : ∀ c : Nat, c ≠ M 14 → ∀ j : Nat, s19 c j = s18 c j := fun c hc j => by
    rw [h19]
    exact zn_ca1 hc
  have A19 : ∀ k j : Nat, k ≤ 14 → s19 (N k) j = u (N k) j := fun k j hk => (L19 (N k) (dN k 14 hk (by decide)) j).trans (A18 k j hk)
  have B19 : zn_P M s19 := fun j h1 h2 => (L19 (M 0) (m 0 14 (by decide) (by decide) (by decide)) j).trans (B18 j h1 h2)
  obtain ⟨s20, h20⟩ : ∃ q : fx_U, q = fx_pt s19 (M 0) 15 (u (N 0) 15) := ⟨_, rfl⟩
  have L20 : ∀ c : Nat, c ≠ M 0 → ∀ j : Nat, s20 c j = s19 c j := fun c hc j => by
    rw [h20]
    exact zz_pa hc
  have A20 : ∀ k j : Nat, k ≤ 14 → s20 (N k) j = u (N k) j := fun k j hk => (L20 (N k) (dN k 0 hk (by decide)) j).trans (A19 k j hk)
  have B20 : zn_P M s20 := fun j h1 h2 => by
    rw [h20]
    exact (zz_pj (by omega)).trans (B19 j h1 h2)
  obtain ⟨s21, h21⟩ : ∃ q : fx_U, q = fx_pt s20 (M 0) 16 (u (N 0) 16) := ⟨_, rfl⟩
  have L21 : ∀ c : Nat, c ≠ M 0 → ∀ j : Nat, s21 c j = s20 c j := fun c hc j => by
    rw [h21]
    exact zz_pa hc
  have A21 : ∀ k j : Nat, k ≤ 14 → s21 (N k) j = u (N k) j := fun k j hk => (L21 (N k) (dN k 0 hk (by decide)) j).trans (A20 k j hk)
  have B21 : zn_P M s21 := fun j h1 h2 => by
    rw [h21]
    exact (zz_pj (by omega)).trans (B20 j h1 h2)
  obtain ⟨s22, h22⟩ : ∃ q : fx_U, q = fx_pt s21 (M 0) 17 (u (N 0) 17) := ⟨_, rfl⟩
  have L22 : ∀ c : Nat, c ≠ M 0 → ∀ j : Nat, s22 c j = s21 c j := fun c hc j => by
    rw [h22]
    exact zz_pa hc
  have A22 : ∀ k j : Nat, k ≤ 14 → s22 (N k) j = u (N k) j := fun k j hk => (L22 (N k) (dN k 0 hk (by decide)) j).trans (A21 k j hk)
  have B22 : zn_P M s22 := fun j h1 h2 => by
    rw [h22]
    exact (zz_pj (by omega)).trans (B21 j h1 h2)
  have e : f_X7_copyFrom u (M 0) (N 0) = s22 := by
    have stp : ∀ (rc : Int → fx_U → fx_U) (q : fx_U) (a : Nat), a < 2 → zn_P M q → (∀ k j : Nat, k ≤ 14 → q (N k) j = u (N k) j) → kB_X7_copyFrom_130 rc (M 0) (N 0) (a : Int) q = rc ((a : Int) + 1) (fx_pt (fx_pt (fx_pt (fx_pt q (M 9) a (u (N 9) a)) (M 10) a (u (N 10) a)) (M 11) a (u (N 11) a)) (M 12) a (u (N 12) a)) := fun rc q a ha hq hA => by
      have x9 : q (M 0) 9 = (M 9 : Int) := hq 9 (by decide) (by decide)
      have y9 : q (N 0) 9 = (N 9 : Int) := (hA 0 9 (by decide)).trans (hN 9 (by decide) (by decide))
      have z9 : q (N 9) a = u (N 9) a := hA 9 a (by decide)
      have x10 : (fx_pt q (M 9) a (u (N 9) a)) (M 0) 10 = (M 10 : Int) := (zz_pa (m 0 9 (by decide) (by decide) (by decide))).trans (hq 10 (by decide) (by decide))
      have y10 : (fx_pt q (M 9) a (u (N 9) a)) (N 0) 10 = (N 10 : Int) := (zz_pa (dN 0 9 (by decide) (by decide))).trans ((hA 0 10 (by decide)).trans (hN 10 (by decide) (by decide)))
      have z10 : (fx_pt q (M 9) a (u (N 9) a)) (N 10) a = u (N 10) a := (zz_pa (dN 10 9 (by decide) (by decide))).trans (hA 10 a (by decide))
      have x11 : (fx_pt (fx_pt q (M 9) a (u (N 9) a)) (M 10) a (u (N 10) a)) (M 0) 11 = (M 11 : Int) := (zz_pa (m 0 10 (by decide) (by decide) (by decide))).trans ((zz_pa (m 0 9 (by decide) (by decide) (by decide))).trans (hq 11 (by decide) (by decide)))
      have y11 : (fx_pt (fx_pt q (M 9) a (u (N 9) a)) (M 10) a (u (N 10) a)) (N 0) 11 = (N 11 : Int) := (zz_pa (dN 0 10 (by decide) (by decide))).trans ((zz_pa (dN 0 9 (by decide) (by decide))).trans ((hA 0 11 (by decide)).trans (hN 11 (by decide) (by decide))))
      have z11 : (fx_pt (fx_pt q (M 9) a (u (N 9) a)) (M 10) a (u (N 10) a)) (N 11) a = u (N 11) a := (zz_pa (dN 11 10 (by decide) (by decide))).trans ((zz_pa (dN 11 9 (by decide) (by decide))).trans (hA 11 a (by decide)))
      have x12 : (fx_pt (fx_pt (fx_pt q (M 9) a (u (N 9) a)) (M 10) a (u (N 10) a)) (M 11) a (u (N 11) a)) (M 0) 12 = (M 12 : Int) := (zz_pa (m 0 11 (by decide) (by decide) (by decide))).trans ((zz_pa (m 0 10 (by decide) (by decide) (by decide))).trans ((zz_pa (m 0 9 (by decide) (by decide) (by decide))).trans (hq 12 (by decide) (by decide))))
      have y12 : (fx_pt (fx_pt (fx_pt q (M 9) a (u (N 9) a)) (M 10) a (u (N 10) a)) (M 11) a (u (N 11) a)) (N 0) 12 = (N 12 : Int) := (zz_pa (dN 0 11 (by decide) (by decide))).trans ((zz_pa (dN 0 10 (by decide) (by decide))).trans ((zz_pa (dN 0 9 (by decide) (by decide))).trans ((hA 0 12 (by decide)).trans (hN 12 (by decide) (by decide)))))
      have z12 : (fx_pt (fx_pt (fx_pt q (M 9) a (u (N 9) a)) (M 10) a (u (N 10) a)) (M 11) a (u (N 11) a)) (N 12) a = u (N 12) a := (zz_pa (dN 12 11 (by decide) (by decide))).trans ((zz_pa (dN 12 10 (by decide) (by decide))).trans ((zz_pa (dN 12 9 (by decide) (by decide))).trans (hA 12 a (by decide))))
      unfold kB_X7_copyFrom_130
      simp only [fz_lr, fz_lt, fz_ls, Int.toNat_natCast, x9, y9, z9, x10, y10, z10, x11, y11, z11, x12, y12, z12]
      rw [if_pos (by omega)]
    unfold f_X7_copyFrom
    simp only [fz_lr, fz_lt, fz_ls, Int.toNat_natCast, hN 1 (by decide) (by decide), hM 1 (by decide) (by decide), hN 2 (by decide) (by decide), hM 2 (by decide) (by decide), hN 3 (by decide) (by decide), hM 3 (by decide) (by decide), ← h1, (A1 0 1 (by decide)).trans (hN 1 (by decide) (by decide)), B1 1 (by decide) (by decide), ← h2, (A2 0 2 (by decide)).trans (hN 2 (by decide) (by decide)), B2 2 (by decide) (by decide), ← h3, (A3 0 3 (by decide)).trans (hN 3 (by decide) (by decide)), B3 3 (by decide) (by decide), ← h4, (A4 0 4 (by decide)).trans (hN 4 (by decide) (by decide)), B4 4 (by decide) (by decide), ← h5, (A5 0 5 (by decide)).trans (hN 5 (by decide) (by decide)), B5 5 (by decide) (by decide), ← h6, (A6 0 6 (by decide)).trans (hN 6 (by decide) (by decide)), B6 6 (by decide) (by decide), ← h7, (A7 0 7 (by decide)).trans (hN 7 (by decide) (by decide)), B7 7 (by decide) (by decide), ← h8, (A8 0 8 (by decide)).trans (hN 8 (by decide) (by decide)), B8 8 (by decide) (by decide), ← h9, show Int.toNat (2 - 0) + 1 = 3 from rfl]
    show kB_X7_copyFrom_130 (kL_X7_copyFrom_130 (M 0) (N 0) 2) (M 0) (N 0) ((0 : Nat) : Int) s9 = _
    rw [stp _ s9 0 (by decide) B9 A9, ← h10, ← h11, ← h12, ← h13]
    show kB_X7_copyFrom_130 (kL_X7_copyFrom_130 (M 0) (N 0) 1) (M 0) (N 0) ((1 : Nat) : Int) s13 = _
    rw [stp _ s13 1 (by decide) B13 A13, ← h14, ← h15, ← h16, ← h17]
    show kB_X7_copyFrom_130 (kL_X7_copyFrom_130 (M 0) (N 0) 0) (M 0) (N 0) 2 s17 = _
    unfold kB_X7_copyFrom_130
    rw [if_neg (by decide)]
    simp only [fz_lr, fz_lt, fz_ls, Int.toNat_natCast, (A17 0 13 (by decide)).trans (hN 13 (by decide) (by decide)), B17 13 (by decide) (by decide), ← h18, (A18 0 14 (by decide)).trans (hN 14 (by decide) (by decide)), B18 14 (by decide) (by decide), ← h19, A19 0 15 (by decide), ← h20, A20 0 16 (by decide), ← h21, A21 0 17 (by decide), ← h22]
  have r : ∀ k j : Nat, 1 ≤ k → k ≤ 8 → j < 64 → s22 (M k) j = u (N k) j := fun k j k1 k2 hj => by
    rcases (show k = 1 ∨ k = 2 ∨ k = 3 ∨ k = 4 ∨ k = 5 ∨ k = 6 ∨ k = 7 ∨ k = 8 by omega) with rfl | rfl | rfl | rfl | rfl | rfl | rfl | rfl
    · refine (L22 (M 1) (m 1 0 (by decide) (by decide) (by decide)) j).trans ((L21 (M 1) (m 1 0 (by decide) (by decide) (by decide)) j).trans ((L20 (M 1) (m 1 0 (by decide) (by decide) (by decide)) j).trans ((L19 (M 1) (m 1 14 (by decide) (by decide) (by decide)) j).trans ((L18 (M 1) (m 1 13 (by decide) (by decide) (by decide)) j).trans ((L17 (M 1) (m 1 12 (by decide) (by decide) (by decide)) j).trans ((L16 (M 1) (m 1 11 (by decide) (by decide) (by decide)) j).trans ((L15 (M 1) (m 1 10 (by decide) (by decide) (by decide)) j).trans ((L14 (M 1) (m 1 9 (by decide) (by decide) (by decide)) j).trans ((L13 (M 1) (m 1 12 (by decide) (by decide) (by decide)) j).trans ((L12 (M 1) (m 1 11 (by decide) (by decide) (by decide)) j).trans ((L11 (M 1) (m 1 10 (by decide) (by decide) (by decide)) j).trans ((L10 (M 1) (m 1 9 (by decide) (by decide) (by decide)) j).trans ((L9 (M 1) (m 1 8 (by decide) (by decide) (by decide)) j).trans ((L8 (M 1) (m 1 7 (by decide) (by decide) (by decide)) j).trans ((L7 (M 1) (m 1 6 (by decide) (by decide) (by decide)) j).trans ((L6 (M 1) (m 1 5 (by decide) (by decide) (by decide)) j).trans ((L5 (M 1) (m 1 4 (by decide) (by decide) (by decide)) j).trans ((L4 (M 1) (m 1 3 (by decide) (by decide) (by decide)) j).trans ((L3 (M 1) (m 1 2 (by decide) (by decide) (by decide)) j).trans (?_))))))))))))))))))))
      rw [h2]
      exact (zn_cs1 hj).trans (A1 1 j (by decide))
    · refine (L22 (M 2) (m 2 0 (by decide) (by decide) (by decide)) j).trans ((L21 (M 2) (m 2 0 (by decide) (by decide) (by decide)) j).trans ((L20 (M 2) (m 2 0 (by decide) (by decide) (by decide)) j).trans ((L19 (M 2) (m 2 14 (by decide) (by decide) (by decide)) j).trans ((L18 (M 2) (m 2 13 (by decide) (by decide) (by decide)) j).trans ((L17 (M 2) (m 2 12 (by decide) (by decide) (by decide)) j).trans ((L16 (M 2) (m 2 11 (by decide) (by decide) (by decide)) j).trans ((L15 (M 2) (m 2 10 (by decide) (by decide) (by decide)) j).trans ((L14 (M 2) (m 2 9 (by decide) (by decide) (by decide)) j).trans ((L13 (M 2) (m 2 12 (by decide) (by decide) (by decide)) j).trans ((L12 (M 2) (m 2 11 (by decide) (by decide) (by decide)) j).trans ((L11 (M 2) (m 2 10 (by decide) (by decide) (by decide)) j).trans ((L10 (M 2) (m 2 9 (by decide) (by decide) (by decide)) j).trans ((L9 (M 2) (m 2 8 (by decide) (by decide) (by decide)) j).trans ((L8 (M 2) (m 2 7 (by decide) (by decide) (by decide)) j).trans ((L7 (M 2) (m 2 6 (by decide) (by decide) (by decide)) j).trans ((L6 (M 2) (m 2 5 (by decide) (by decide) (by decide)) j).trans ((L5 (M 2) (m 2 4 (by decide) (by decide) (by decide)) j).trans ((L4 (M 2) (m 2 3 (by decide) (by decide) (by decide)) j).trans (?_)))))))))))))))))))
      rw [h3]
      exact (zn_cs1 hj).trans (A2 2 j (by decide))
    · refine (L22 (M 3) (m 3 0 (by decide) (by decide) (by decide)) j).trans ((L21 (M 3) (m 3 0 (by decide) (by decide) (by decide)) j).trans ((L20 (M 3) (m 3 0 (by decide) (by decide) (by decide)) j).trans ((L19 (M 3) (m 3 14 (by decide) (by decide) (by decide)) j).trans ((L18 (M 3) (m 3 13 (by decide) (by decide) (by decide)) j).trans ((L17 (M 3) (m 3 12 (by decide) (by decide) (by decide)) j).trans ((L16 (M 3) (m 3 11 (by decide) (by decide) (by decide)) j).trans ((L15 (M 3) (m 3 10 (by decide) (by decide) (by decide)) j).trans ((L14 (M 3) (m 3 9 (by decide) (by decide) (by decide)) j).trans ((L13 (M 3) (m 3 12 (by decide) (by decide) (by decide)) j).trans ((L12 (M 3) (m 3 11 (by decide) (by decide) (by decide)) j).trans ((L11 (M 3) (m 3 10 (by decide) (by decide) (by decide)) j).trans ((L10 (M 3) (m 3 9 (by decide) (by decide) (by decide)) j).trans ((L9 (M 3) (m 3 8 (by decide) (by decide) (by decide)) j).trans ((L8 (M 3) (m 3 7 (by decide) (by decide) (by decide)) j).trans ((L7 (M 3) (m 3 6 (by decide) (by decide) (by decide)) j).trans ((L6 (M 3) (m 3 5 (by decide) (by decide) (by decide)) j).trans ((L5 (M 3) (m 3 4 (by decide) (by decide) (by decide)) j).trans (?_))))))))))))))))))
      rw [h4]
      exact (zn_cs1 hj).trans (A3 3 j (by decide))
    · refine (L22 (M 4) (m 4 0 (by decide) (by decide) (by decide)) j).trans ((L21 (M 4) (m 4 0 (by decide) (by decide) (by decide)) j).trans ((L20 (M 4) (m 4 0 (by decide) (by decide) (by decide)) j).trans ((L19 (M 4) (m 4 14 (by decide) (by decide) (by decide)) j).trans ((L18 (M 4) (m 4 13 (by decide) (by decide) (by decide)) j).trans ((L17 (M 4) (m 4 12 (by decide) (by decide) (by decide)) j).trans ((L16 (M 4) (m 4 11 (by decide) (by decide) (by decide)) j).trans ((L15 (M 4) (m 4 10 (by decide) (by decide) (by decide)) j).trans ((L14 (M 4) (m 4 9 (by decide) (by decide) (by decide)) j).trans ((L13 (M 4) (m 4 12 (by decide) (by decide) (by decide)) j).trans ((L12 (M 4) (m 4 11 (by decide) (by decide) (by decide)) j).trans ((L11 (M 4) (m 4 10 (by decide) (by decide) (by decide)) j).trans ((L10 (M 4) (m 4 9 (by decide) (by decide) (by decide)) j).trans ((L9 (M 4) (m 4 8 (by decide) (by decide) (by decide)) j).trans ((L8 (M 4) (m 4 7 (by decide) (by decide) (by decide)) j).trans ((L7 (M 4) (m 4 6 (by decide) (by decide) (by decide)) j).trans ((L6 (M 4) (m 4 5 (by decide) (by decide) (by decide)) j).trans (?_)))))))))))))))))
      rw [h5]
      exact (zn_cs1 hj).trans (A4 4 j (by decide))
    · refine (L22 (M 5) (m 5 0 (by decide) (by decide) (by decide)) j).trans ((L21 (M 5) (m 5 0 (by decide) (by decide) (by decide)) j).trans ((L20 (M 5) (m 5 0 (by decide) (by decide) (by decide)) j).trans ((L19 (M 5) (m 5 14 (by decide) (by decide) (by decide)) j).trans ((L18 (M 5) (m 5 13 (by decide) (by decide) (by decide)) j).trans ((L17 (M 5) (m 5 12 (by decide) (by decide) (by decide)) j).trans ((L16 (M 5) (m 5 11 (by decide) (by decide) (by decide)) j).trans ((L15 (M 5) (m 5 10 (by decide) (by decide) (by decide)) j).trans ((L14 (M 5) (m 5 9 (by decide) (by decide) (by decide)) j).trans ((L13 (M 5) (m 5 12 (by decide) (by decide) (by decide)) j).trans ((L12 (M 5) (m 5 11 (by decide) (by decide) (by decide)) j).trans ((L11 (M 5) (m 5 10 (by decide) (by decide) (by decide)) j).trans ((L10 (M 5) (m 5 9 (by decide) (by decide) (by decide)) j).trans ((L9 (M 5) (m 5 8 (by decide) (by decide) (by decide)) j).trans ((L8 (M 5) (m 5 7 (by decide) (by decide) (by decide)) j).trans ((L7 (M 5) (m 5 6 (by decide) (by decide) (by decide)) j).trans (?_))))))))))))))))
      rw [h6]
      exact (zn_cs1 hj).trans (A5 5 j (by decide))
    · refine (L22 (M 6) (m 6 0 (by decide) (by decide) (by decide)) j).trans ((L21 (M 6) (m 6 0 (by decide) (by decide) (by decide)) j).trans ((L20 (M 6) (m 6 0 (by decide) (by decide) (by decide)) j).trans ((L19 (M 6) (m 6 14 (by decide) (by decide) (by decide)) j).trans ((L18 (M 6) (m 6 13 (by decide) (by decide) (by decide)) j).trans ((L17 (M 6) (m 6 12 (by decide) (by decide) (by decide)) j).trans ((L16 (M 6) (m 6 11 (by decide) (by decide) (by decide)) j).trans ((L15 (M 6) (m 6 10 (by decide) (by decide) (by decide)) j).trans ((L14 (M 6) (m 6 9 (by decide) (by decide) (by decide)) j).trans ((L13 (M 6) (m 6 12 (by decide) (by decide) (by decide)) j).trans ((L12 (M 6) (m 6 11 (by decide) (by decide) (by decide)) j).trans ((L11 (M 6) (m 6 10 (by decide) (by decide) (by decide)) j).trans ((L10 (M 6) (m 6 9 (by decide) (by decide) (by decide)) j).trans ((L9 (M 6) (m 6 8 (by decide) (by decide) (by decide)) j).trans ((L8 (M 6) (m 6 7 (by decide) (by decide) (by decide)) j).trans (?_)))))))))))))))
      rw [h7]
      exact (zn_cs1 hj).trans (A6 6 j (by decide))
    · refine (L22 (M 7) (m 7 0 (by decide) (by decide) (by decide)) j).trans ((L21 (M 7) (m 7 0 (by decide) (by decide) (by decide)) j).trans ((L20 (M 7) (m 7 0 (by decide) (by decide) (by decide)) j).trans ((L19 (M 7) (m 7 14 (by decide) (by decide) (by decide)) j).trans ((L18 (M 7) (m 7 13 (by decide) (by decide) (by decide)) j).trans ((L17 (M 7) (m 7 12 (by decide) (by decide) (by decide)) j).trans ((L16 (M 7) (m 7 11 (by decide) (by decide) (by decide)) j).trans ((L15 (M 7) (m 7 10 (by decide) (by decide) (by decide)) j).trans ((L14 (M 7) (m 7 9 (by decide) (by decide) (by decide)) j).trans ((L13 (M 7) (m 7 12 (by decide) (by decide) (by decide)) j).trans ((L12 (M 7) (m 7 11 (by decide) (by decide) (by decide)) j).trans ((L11 (M 7) (m 7 10 (by decide) (by decide) (by decide)) j).trans ((L10 (M 7) (m 7 9 (by decide) (by decide) (by decide)) j).trans ((L9 (M 7) (m 7 8 (by decide) (by decide) (by decide)) j).trans (?_))))))))))))))
      rw [h8]
      exact (zn_cs1 hj).trans (A7 7 j (by decide))
    · refine (L22 (M 8) (m 8 0 (by decide) (by decide) (by decide)) j).trans ((L21 (M 8) (m 8 0 (by decide) (by decide) (by decide)) j).trans ((L20 (M 8) (m 8 0 (by decide) (by decide) (by decide)) j).trans ((L19 (M 8) (m 8 14 (by decide) (by decide) (by decide)) j).trans ((L18 (M 8) (m 8 13 (by decide) (by decide) (by decide)) j).trans ((L17 (M 8) (m 8 12 (by decide) (by decide) (by decide)) j).trans ((L16 (M 8) (m 8 11 (by decide) (by decide) (by decide)) j).trans ((L15 (M 8) (m 8 10 (by decide) (by decide) (by decide)) j).trans ((L14 (M 8) (m 8 9 (by decide) (by decide) (by decide)) j).trans ((L13 (M 8) (m 8 12 (by decide) (by decide) (by decide)) j).trans ((L12 (M 8) (m 8 11 (by decide) (by decide) (by decide)) j).trans ((L11 (M 8) (m 8 10 (by decide) (by decide) (by decide)) j).trans ((L10 (M 8) (m 8 9 (by decide) (by decide) (by decide)) j).trans (?_)))))))))))))
      rw [h9]
      exact (zn_cs1 hj).trans (A8 8 j (by decide))
  have r2 : ∀ k a : Nat, 9 ≤ k → k ≤ 12 → a < 2 → s22 (M k) a = u (N k) a := fun k a k1 k2 ha => by
    rcases (show a = 0 ∨ a = 1 by omega) with rfl | rfl
    · rcases (show k = 9 ∨ k = 10 ∨ k = 11 ∨ k = 12 by omega) with rfl | rfl | rfl | rfl
      · have q : s14 (M 9) 0 = s13 (M 9) 0 := by
          rw [h14]
          exact zz_pj (by decide)
        refine (L22 (M 9) (m 9 0 (by decide) (by decide) (by decide)) 0).trans ((L21 (M 9) (m 9 0 (by decide) (by decide) (by decide)) 0).trans ((L20 (M 9) (m 9 0 (by decide) (by decide) (by decide)) 0).trans ((L19 (M 9) (m 9 14 (by decide) (by decide) (by decide)) 0).trans ((L18 (M 9) (m 9 13 (by decide) (by decide) (by decide)) 0).trans ((L17 (M 9) (m 9 12 (by decide) (by decide) (by decide)) 0).trans ((L16 (M 9) (m 9 11 (by decide) (by decide) (by decide)) 0).trans ((L15 (M 9) (m 9 10 (by decide) (by decide) (by decide)) 0).trans (q.trans ((L13 (M 9) (m 9 12 (by decide) (by decide) (by decide)) 0).trans ((L12 (M 9) (m 9 11 (by decide) (by decide) (by decide)) 0).trans ((L11 (M 9) (m 9 10 (by decide) (by decide) (by decide)) 0).trans (?_))))))))))))
        rw [h10]
        exact zz_ps
      · have q : s15 (M 10) 0 = s14 (M 10) 0 := by
          rw [h15]
          exact zz_pj (by decide)
        refine (L22 (M 10) (m 10 0 (by decide) (by decide) (by decide)) 0).trans ((L21 (M 10) (m 10 0 (by decide) (by decide) (by decide)) 0).trans ((L20 (M 10) (m 10 0 (by decide) (by decide) (by decide)) 0).trans ((L19 (M 10) (m 10 14 (by decide) (by decide) (by decide)) 0).trans ((L18 (M 10) (m 10 13 (by decide) (by decide) (by decide)) 0).trans ((L17 (M 10) (m 10 12 (by decide) (by decide) (by decide)) 0).trans ((L16 (M 10) (m 10 11 (by decide) (by decide) (by decide)) 0).trans (q.trans ((L14 (M 10) (m 10 9 (by decide) (by decide) (by decide)) 0).trans ((L13 (M 10) (m 10 12 (by decide) (by decide) (by decide)) 0).trans ((L12 (M 10) (m 10 11 (by decide) (by decide) (by decide)) 0).trans (?_)))))))))))
        rw [h11]
        exact zz_ps
      · have q : s16 (M 11) 0 = s15 (M 11) 0 := by
          rw [h16]
          exact zz_pj (by decide)
        refine (L22 (M 11) (m 11 0 (by decide) (by decide) (by decide)) 0).trans ((L21 (M 11) (m 11 0 (by decide) (by decide) (by decide)) 0).trans ((L20 (M 11) (m 11 0 (by decide) (by decide) (by decide)) 0).trans ((L19 (M 11) (m 11 14 (by decide) (by decide) (by decide)) 0).trans ((L18 (M 11) (m 11 13 (by decide) (by decide) (by decide)) 0).trans ((L17 (M 11) (m 11 12 (by decide) (by decide) (by decide)) 0).trans (q.trans ((L15 (M 11) (m 11 10 (by decide) (by decide) (by decide)) 0).trans ((L14 (M 11) (m 11 9 (by decide) (by decide) (by decide)) 0).trans ((L13 (M 11) (m 11 12 (by decide) (by decide) (by decide)) 0).trans (?_))))))))))
        rw [h12]
        exact zz_ps
      · have q : s17 (M 12) 0 = s16 (M 12) 0 := by
          rw [h17]
          exact zz_pj (by decide)
        refine (L22 (M 12) (m 12 0 (by decide) (by decide) (by decide)) 0).trans ((L21 (M 12) (m 12 0 (by decide) (by decide) (by decide)) 0).trans ((L20 (M 12) (m 12 0 (by decide) (by decide) (by decide)) 0).trans ((L19 (M 12) (m 12 14 (by decide) (by decide) (by decide)) 0).trans ((L18 (M 12) (m 12 13 (by decide) (by decide) (by decide)) 0).trans (q.trans ((L16 (M 12) (m 12 11 (by decide) (by decide) (by decide)) 0).trans ((L15 (M 12) (m 12 10 (by decide) (by decide) (by decide)) 0).trans ((L14 (M 12) (m 12 9 (by decide) (by decide) (by decide)) 0).trans (?_)))))))))
        rw [h13]
        exact zz_ps
    · rcases (show k = 9 ∨ k = 10 ∨ k = 11 ∨ k = 12 by omega) with rfl | rfl | rfl | rfl
      · refine (L22 (M 9) (m 9 0 (by decide) (by decide) (by decide)) 1).trans ((L21 (M 9) (m 9 0 (by decide) (by decide) (by decide)) 1).trans ((L20 (M 9) (m 9 0 (by decide) (by decide) (by decide)) 1).trans ((L19 (M 9) (m 9 14 (by decide) (by decide) (by decide)) 1).trans ((L18 (M 9) (m 9 13 (by decide) (by decide) (by decide)) 1).trans ((L17 (M 9) (m 9 12 (by decide) (by decide) (by decide)) 1).trans ((L16 (M 9) (m 9 11 (by decide) (by decide) (by decide)) 1).trans ((L15 (M 9) (m 9 10 (by decide) (by decide) (by decide)) 1).trans (?_))))))))
        rw [h14]
        exact zz_ps
      · refine (L22 (M 10) (m 10 0 (by decide) (by decide) (by decide)) 1).trans ((L21 (M 10) (m 10 0 (by decide) (by decide) (by decide)) 1).trans ((L20 (M 10) (m 10 0 (by decide) (by decide) (by decide)) 1).trans ((L19 (M 10) (m 10 14 (by decide) (by decide) (by decide)) 1).trans ((L18 (M 10) (m 10 13 (by decide) (by decide) (by decide)) 1).trans ((L17 (M 10) (m 10 12 (by decide) (by decide) (by decide)) 1).trans ((L16 (M 10) (m 10 11 (by decide) (by decide) (by decide)) 1).trans (?_)))))))
        rw [h15]
        exact zz_ps
      · refine (L22 (M 11) (m 11 0 (by decide) (by decide) (by decide)) 1).trans ((L21 (M 11) (m 11 0 (by decide) (by decide) (by decide)) 1).trans ((L20 (M 11) (m 11 0 (by decide) (by decide) (by decide)) 1).trans ((L19 (M 11) (m 11 14 (by decide) (by decide) (by decide)) 1).trans ((L18 (M 11) (m 11 13 (by decide) (by decide) (by decide)) 1).trans ((L17 (M 11) (m 11 12 (by decide) (by decide) (by decide)) 1).trans (?_))))))
        rw [h16]
        exact zz_ps
      · refine (L22 (M 12) (m 12 0 (by decide) (by decide) (by decide)) 1).trans ((L21 (M 12) (m 12 0 (by decide) (by decide) (by decide)) 1).trans ((L20 (M 12) (m 12 0 (by decide) (by decide) (by decide)) 1).trans ((L19 (M 12) (m 12 14 (by decide) (by decide) (by decide)) 1).trans ((L18 (M 12) (m 12 13 (by decide) (by decide) (by decide)) 1).trans (?_)))))
        rw [h17]
        exact zz_ps
  have r3 : ∀ k c : Nat, 13 ≤ k → k ≤ 14 → c < 12 → s22 (M k) c = u (N k) c := fun k c k1 k2 hc => by
    rcases (show k = 13 ∨ k = 14 by omega) with rfl | rfl
    · refine (L22 (M 13) (m 13 0 (by decide) (by decide) (by decide)) c).trans ((L21 (M 13) (m 13 0 (by decide) (by decide) (by decide)) c).trans ((L20 (M 13) (m 13 0 (by decide) (by decide) (by decide)) c).trans ((L19 (M 13) (m 13 14 (by decide) (by decide) (by decide)) c).trans (?_))))
      rw [h18]
      exact (zn_cs1 hc).trans (A17 13 c (by decide))
    · refine (L22 (M 14) (m 14 0 (by decide) (by decide) (by decide)) c).trans ((L21 (M 14) (m 14 0 (by decide) (by decide) (by decide)) c).trans ((L20 (M 14) (m 14 0 (by decide) (by decide) (by decide)) c).trans (?_)))
      rw [h19]
      exact (zn_cs1 hc).trans (A18 14 c (by decide))
  have r0 : s22 (M 0) 0 = u (N 0) 0 := by
    have q22 : s22 (M 0) 0 = s21 (M 0) 0 := by
      rw [h22]
      exact zz_pj (by decide)
    have q21 : s21 (M 0) 0 = s20 (M 0) 0 := by
      rw [h21]
      exact zz_pj (by decide)
    have q20 : s20 (M 0) 0 = s19 (M 0) 0 := by
      rw [h20]
      exact zz_pj (by decide)
    refine q22.trans (q21.trans (q20.trans ((L19 (M 0) (m 0 14 (by decide) (by decide) (by decide)) 0).trans ((L18 (M 0) (m 0 13 (by decide) (by decide) (by decide)) 0).trans ((L17 (M 0) (m 0 12 (by decide) (by decide) (by decide)) 0).trans ((L16 (M 0) (m 0 11 (by decide) (by decide) (by decide)) 0).trans ((L15 (M 0) (m 0 10 (by decide) (by decide) (by decide)) 0).trans ((L14 (M 0) (m 0 9 (by decide) (by decide) (by decide)) 0).trans ((L13 (M 0) (m 0 12 (by decide) (by decide) (by decide)) 0).trans ((L12 (M 0) (m 0 11 (by decide) (by decide) (by decide)) 0).trans ((L11 (M 0) (m 0 10 (by decide) (by decide) (by decide)) 0).trans ((L10 (M 0) (m 0 9 (by decide) (by decide) (by decide)) 0).trans ((L9 (M 0) (m 0 8 (by decide) (by decide) (by decide)) 0).trans ((L8 (M 0) (m 0 7 (by decide) (by decide) (by decide)) 0).trans ((L7 (M 0) (m 0 6 (by decide) (by decide) (by decide)) 0).trans ((L6 (M 0) (m 0 5 (by decide) (by decide) (by decide)) 0).trans ((L5 (M 0) (m 0 4 (by decide) (by decide) (by decide)) 0).trans ((L4 (M 0) (m 0 3 (by decide) (by decide) (by decide)) 0).trans ((L3 (M 0) (m 0 2 (by decide) (by decide) (by decide)) 0).trans ((L2 (M 0) (m 0 1 (by decide) (by decide) (by decide)) 0).trans (?_)))))))))))))))))))))
    rw [h1]
    exact zz_ps
  have r15 : s22 (M 0) 15 = u (N 0) 15 := by
    rw [h22]
    refine (zz_pj (by decide)).trans ?_
    rw [h21]
    refine (zz_pj (by decide)).trans ?_
    rw [h20]
    exact zz_ps
  have r16 : s22 (M 0) 16 = u (N 0) 16 := by
    rw [h22]
    refine (zz_pj (by decide)).trans ?_
    rw [h21]
    exact zz_ps
  have r17 : s22 (M 0) 17 = u (N 0) 17 := by
    rw [h22]
    exact zz_ps
  exact ⟨s22, e, fun c hc i => (L22 c (hc 0 (by decide)) i).trans ((L21 c (hc 0 (by decide)) i).trans ((L20 c (hc 0 (by decide)) i).trans ((L19 c (hc 14 (by decide)) i).trans ((L18 c (hc 13 (by decide)) i).trans ((L17 c (hc 12 (by decide)) i).trans ((L16 c (hc 11 (by decide)) i).trans ((L15 c (hc 10 (by decide)) i).trans ((L14 c (hc 9 (by decide)) i).trans ((L13 c (hc 12 (by decide)) i).trans ((L12 c (hc 11 (by decide)) i).trans ((L11 c (hc 10 (by decide)) i).trans ((L10 c (hc 9 (by decide)) i).trans ((L9 c (hc 8 (by decide)) i).trans ((L8 c (hc 7 (by decide)) i).trans ((L7 c (hc 6 (by decide)) i).trans ((L6 c (hc 5 (by decide)) i).trans ((L5 c (hc 4 (by decide)) i).trans ((L4 c (hc 3 (by decide)) i).trans ((L3 c (hc 2 (by decide)) i).trans ((L2 c (hc 1 (by decide)) i).trans (L1 c (hc 0 (by decide)) i))))))))))))))))))))), B22, r, r2, r3, r0, r15, r16, r17⟩
theorem zn_cp100_101 {a0 a1 : Nat} (ne : a0 ≠ a1) : ∀ (f : Nat) (i : Int) (u : fx_U), 549 - i < (f : Int) → 0 ≤ i → i ≤ 549 → ∃ w : fx_U, kL_X12_copies_100_101_2 a0 a1 f i u = w ∧ (∀ c : Nat, c ≠ a1 → ∀ j : Nat, w c j = u c j) ∧ (∀ j : Nat, i ≤ (j : Int) → (j : Int) < 549 → w a1 j = u a0 j) ∧ ∀ j : Nat, (j : Int) < i → w a1 j = u a1 j := by
  intro f
  induction f with
  | zero => intro i u h1 h2 h3; omega
  | succ f ih =>
    intro i u h1 h2 h3
    by_cases c : i < 549
    · obtain ⟨w, e1, e2, e3, e4⟩ := ih (i + 1) (fx_pt u a1 i.toNat (u a0 i.toNat)) (by omega) (by omega) (by omega)
      refine ⟨w, ?_, fun c hc j => (e2 c hc j).trans (zz_pa hc), fun j j1 j2 => ?_, fun j j1 => (e4 j (by omega)).trans (zz_pj (by omega))⟩
      · rw [← e1]
        show kB_X12_copies_100_101_2 (kL_X12_copies_100_101_2 a0 a1 f) a0 a1 i u = _
        unfold kB_X12_copies_100_101_2
        simp only [fz_lt, fz_ls]
        rw [if_pos c]
      · by_cases t : j = i.toNat
        · rw [t] at j1 j2 ⊢
          exact (e4 i.toNat (by omega)).trans zz_ps
        · exact (e3 j (by omega) j2).trans (zz_pa ne)
    · refine ⟨u, ?_, fun _ _ _ => rfl, fun j j1 j2 => by omega, fun _ _ => rfl⟩
      show kB_X12_copies_100_101_2 (kL_X12_copies_100_101_2 a0 a1 f) a0 a1 i u = _
      unfold kB_X12_copies_100_101_2
      rw [if_neg c]
theorem zn_cq100_101 {a0 a1 : Nat} (ne : a0 ≠ a1) : ∃ w : fx_U, f_X12_copies_100_101 u a0 a1 = w ∧ (∀ c : Nat, c ≠ a1 → ∀ j : Nat, w c j = u c j) ∧ ∀ j : Nat, j < 549 → w a1 j = u a0 j := by
  obtain ⟨w, e1, e2, e3, -⟩ := zn_cp100_101 ne 550 0 u (by decide) (by decide) (by decide)
  refine ⟨w, ?_, e2, fun j hj => e3 j (by omega) (by omega)⟩
  unfold f_X12_copies_100_101
  rw [show Int.toNat (549 - 0) + 1 = 550 from rfl]
  exact e1
theorem zn_cp100_102 {a0 a1 : Nat} (ne : a0 ≠ a1) : ∀ (f : Nat) (i : Int) (u : fx_U), 549 - i < (f : Int) → 0 ≤ i → i ≤ 549 → ∃ w : fx_U, kL_X12_copies_100_102_2 a0 a1 f i u = w ∧ (∀ c : Nat, c ≠ a1 → ∀ j : Nat, w c j = u c j) ∧ (∀ j : Nat, i ≤ (j : Int) → (j : Int) < 549 → w a1 j = u a0 j) ∧ ∀ j : Nat, (j : Int) < i → w a1 j = u a1 j := by
  intro f
  induction f with
  | zero => intro i u h1 h2 h3; omega
  | succ f ih =>
    intro i u h1 h2 h3
    by_cases c : i < 549
    · obtain ⟨w, e1, e2, e3, e4⟩ := ih (i + 1) (fx_pt u a1 i.toNat (u a0 i.toNat)) (by omega) (by omega) (by omega)
      refine ⟨w, ?_, fun c hc j => (e2 c hc j).trans (zz_pa hc), fun j j1 j2 => ?_, fun j j1 => (e4 j (by omega)).trans (zz_pj (by omega))⟩
      · rw [← e1]
        show kB_X12_copies_100_102_2 (kL_X12_copies_100_102_2 a0 a1 f) a0 a1 i u = _
        unfold kB_X12_copies_100_102_2
        simp only [fz_lt, fz_ls]
        rw [if_pos c]
      · by_cases t : j = i.toNat
        · rw [t] at j1 j2 ⊢
          exact (e4 i.toNat (by omega)).trans zz_ps
        · exact (e3 j (by omega) j2).trans (zz_pa ne)
    · refine ⟨u, ?_, fun _ _ _ => rfl, fun j j1 j2 => by omega, fun _ _ => rfl⟩
      show kB_X12_copies_100_102_2 (kL_X12_copies_100_102_2 a0 a1 f) a0 a1 i u = _
      unfold kB_X12_copies_100_102_2
      rw [if_neg c]
theorem zn_cq100_102 {a0 a1 : Nat} (ne : a0 ≠ a1) : ∃ w : fx_U, f_X12_copies_100_102 u a0 a1 = w ∧ (∀ c : Nat, c ≠ a1 → ∀ j : Nat, w c j = u c j) ∧ ∀ j : Nat, j < 549 → w a1 j = u a0 j := by
  obtain ⟨w, e1, e2, e3, -⟩ := zn_cp100_102 ne 550 0 u (by decide) (by decide) (by decide)
  refine ⟨w, ?_, e2, fun j hj => e3 j (by omega) (by omega)⟩
  unfold f_X12_copies_100_102
  rw [show Int.toNat (549 - 0) + 1 = 550 from rfl]
  exact e1
theorem zn_cp101_100 {a0 a1 : Nat} (ne : a0 ≠ a1) : ∀ (f : Nat) (i : Int) (u : fx_U), 549 - i < (f : Int) → 0 ≤ i → i ≤ 549 → ∃ w : fx_U, kL_X12_copies_101_100_2 a0 a1 f i u = w ∧ (∀ c : Nat, c ≠ a1 → ∀ j : Nat, w c j = u c j) ∧ (∀ j : Nat, i ≤ (j : Int) → (j : Int) < 549 → w a1 j = u a0 j) ∧ ∀ j : Nat, (j : Int) < i → w a1 j = u a1 j := by
  intro f
  induction f with
  | zero => intro i u h1 h2 h3; omega
  | succ f ih =>
    intro i u h1 h2 h3
    by_cases c : i < 549
    · obtain ⟨w, e1, e2, e3, e4⟩ := ih (i + 1) (fx_pt u a1 i.toNat (u a0 i.toNat)) (by omega) (by omega) (by omega)
      refine ⟨w, ?_, fun c hc j => (e2 c hc j).trans (zz_pa hc), fun j j1 j2 => ?_, fun j j1 => (e4 j (by omega)).trans (zz_pj (by omega))⟩
      · rw [← e1]
        show kB_X12_copies_101_100_2 (kL_X12_copies_101_100_2 a0 a1 f) a0 a1 i u = _
        unfold kB_X12_copies_101_100_2
        simp only [fz_lt, fz_ls]
        rw [if_pos c]
      · by_cases t : j = i.toNat
        · rw [t] at j1 j2 ⊢
          exact (e4 i.toNat (by omega)).trans zz_ps
        · exact (e3 j (by omega) j2).trans (zz_pa ne)
    · refine ⟨u, ?_, fun _ _ _ => rfl, fun j j1 j2 => by omega, fun _ _ => rfl⟩
      show kB_X12_copies_101_100_2 (kL_X12_copies_101_100_2 a0 a1 f) a0 a1 i u = _
      unfold kB_X12_copies_101_100_2
      rw [if_neg c]
theorem zn_cq101_100 {a0 a1 : Nat} (ne : a0 ≠ a1) : ∃ w : fx_U, f_X12_copies_101_100 u a0 a1 = w ∧ (∀ c : Nat, c ≠ a1 → ∀ j : Nat, w c j = u c j) ∧ ∀ j : Nat, j < 549 → w a1 j = u a0 j := by
  obtain ⟨w, e1, e2, e3, -⟩ := zn_cp101_100 ne 550 0 u (by decide) (by decide) (by decide)
  refine ⟨w, ?_, e2, fun j hj => e3 j (by omega) (by omega)⟩
  unfold f_X12_copies_101_100
  rw [show Int.toNat (549 - 0) + 1 = 550 from rfl]
  exact e1
theorem zn_cp102_100 {a0 a1 : Nat} (ne : a0 ≠ a1) : ∀ (f : Nat) (i : Int) (u : fx_U), 549 - i < (f : Int) → 0 ≤ i → i ≤ 549 → ∃ w : fx_U, kL_X12_copies_102_100_2 a0 a1 f i u = w ∧ (∀ c : Nat, c ≠ a1 → ∀ j : Nat, w c j = u c j) ∧ (∀ j : Nat, i ≤ (j : Int) → (j : Int) < 549 → w a1 j = u a0 j) ∧ ∀ j : Nat, (j : Int) < i → w a1 j = u a1 j := by
  intro f
  induction f with
  | zero => intro i u h1 h2 h3; omega
  | succ f ih =>
    intro i u h1 h2 h3
    by_cases c : i < 549
    · obtain ⟨w, e1, e2, e3, e4⟩ := ih (i + 1) (fx_pt u a1 i.toNat (u a0 i.toNat)) (by omega) (by omega) (by omega)
      refine ⟨w, ?_, fun c hc j => (e2 c hc j).trans (zz_pa hc), fun j j1 j2 => ?_, fun j j1 => (e4 j (by omega)).trans (zz_pj (by omega))⟩
      · rw [← e1]
        show kB_X12_copies_102_100_2 (kL_X12_copies_102_100_2 a0 a1 f) a0 a1 i u = _
        unfold kB_X12_copies_102_100_2
        simp only [fz_lt, fz_ls]
        rw [if_pos c]
      · by_cases t : j = i.toNat
        · rw [t] at j1 j2 ⊢
          exact (e4 i.toNat (by omega)).trans zz_ps
        · exact (e3 j (by omega) j2).trans (zz_pa ne)
    · refine ⟨u, ?_, fun _ _ _ => rfl, fun j j1 j2 => by omega, fun _ _ => rfl⟩
      show kB_X12_copies_102_100_2 (kL_X12_copies_102_100_2 a0 a1 f) a0 a1 i u = _
      unfold kB_X12_copies_102_100_2
      rw [if_neg c]
theorem zn_cq102_100 {a0 a1 : Nat} (ne : a0 ≠ a1) : ∃ w : fx_U, f_X12_copies_102_100 u a0 a1 = w ∧ (∀ c : Nat, c ≠ a1 → ∀ j : Nat, w c j = u c j) ∧ ∀ j : Nat, j < 549 → w a1 j = u a0 j := by
  obtain ⟨w, e1, e2, e3, -⟩ := zn_cp102_100 ne 550 0 u (by decide) (by decide) (by decide)
  refine ⟨w, ?_, e2, fun j hj => e3 j (by omega) (by omega)⟩
  unfold f_X12_copies_102_100
  rw [show Int.toNat (549 - 0) + 1 = 550 from rfl]
  exact e1
/-- the same cells elsewhere: the same relation -/
theorem zn_Rcp (hR : zn_R N b D u v) (k0 : w (M 0) 0 = u (N 0) 0 ∧ w (M 0) 15 = u (N 0) 15 ∧ w (M 0) 16 = u (N 0) 16 ∧ w (M 0) 17 = u (N 0) 17) (k1 : ∀ k j : Nat, 4 ≤ k → k ≤ 8 → j < 64 → w (M k) j = u (N k) j) (k2 : ∀ k a : Nat, 9 ≤ k → k ≤ 12 → a < 2 → w (M k) a = u (N k) a) (k3 : ∀ k c : Nat, 13 ≤ k → k ≤ 14 → c < 12 → w (M k) c = u (N k) c) (r : ∀ j : Nat, j < 549 → z b2 j = v b j) (hD : D ≤ 64) : zn_R M b2 D w z := by
  obtain ⟨hG, hd, ⟨hA0, hA1⟩, hne, hC⟩ := hR
  have am : ∀ a : Nat, a < 2 → zn_A N b D u v a → zn_A M b2 D w z a := fun a ha h => by
    obtain ⟨e1, e2, e3, e4⟩ := h
    unfold zn_A
    rw [k2 9 a (by decide) (by decide) ha, k2 10 a (by decide) (by decide) ha, k2 11 a (by decide) (by decide) ha, k2 12 a (by decide) (by decide) ha, r (516 + a) (by omega), r (518 + a) (by omega), r (520 + a) (by omega), r (522 + a) (by omega)]
    refine ⟨e1, e2, e3, ?_⟩
    rcases e4 with h | ⟨h1, h2, h3⟩
    · exact Or.inl h
    · exact Or.inr ⟨h1, (k1 5 _ (by decide) (by decide) (by omega)).trans h2, h3⟩
  refine ⟨?_, fun j hj => ?_, ⟨am 0 (by decide) hA0, am 1 (by decide) hA1⟩, ?_, fun c hc => ?_⟩
  · unfold zn_G at hG ⊢
    rw [k0.1, k0.2.1, k0.2.2.1, k0.2.2.2, r 512 (by decide), r 513 (by decide), r 514 (by decide), r 515 (by decide)]
    exact hG
  · have h := hd j hj
    unfold zn_D at h ⊢
    rw [k1 4 j (by decide) (by decide) hj, k1 5 j (by decide) (by decide) hj, k1 6 j (by decide) (by decide) hj, k1 7 j (by decide) (by decide) hj, k1 8 j (by decide) (by decide) hj, r (192 + j) (by omega), r (256 + j) (by omega), r (320 + j) (by omega), r (384 + j) (by omega), r (448 + j) (by omega)]
    exact h
  · rw [k2 10 0 (by decide) (by decide) (by decide), k2 10 1 (by decide) (by decide) (by decide)]
    exact hne
  · have h := hC c hc
    have e : f_X12_has z (v b 524) (c : Int) = f_X12_has v (v b 524) (c : Int) := rfl
    unfold zn_C at h ⊢
    rw [k3 13 c (by decide) (by decide) hc, k3 14 c (by decide) (by decide) hc, r 524 (by decide), r (525 + c) (by omega), r (537 + c) (by omega), e]
    exact h
end Copy
