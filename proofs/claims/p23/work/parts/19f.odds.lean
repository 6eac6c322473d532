/-! HOW LIKELY ALL IS DRY ahead of the dew: both say alike -/
section Odds
theorem zo_g {q : fx_U} : ∀ (k n m : Nat) (x y c : Int), 0 ≤ y → y < (2 : Int) ^ k → 1 ≤ x → y < (n : Int) → 64 - c < (m : Int) → 2 * (k : Int) ≤ 64 - c → 0 ≤ c → kL_X11_commonDivisor_7 q m x y c = kL_X12_gcd_4 n x y ∧ 1 ≤ kL_X12_gcd_4 n x y := by
  have mx : ∀ x : Int, 1 ≤ x → f_J9_max_7cf53 q 1 x = x := fun x hx => by
    unfold f_J9_max_7cf53
    by_cases g : (1 : Int) < x
    · rw [if_pos g]
    · rw [if_neg g]
      omega
  have z0 : ∀ (n m : Nat) (x c : Int), 1 ≤ x → 0 < n → 64 - c < (m : Int) → 0 < m → kL_X11_commonDivisor_7 q m x 0 c = x ∧ kL_X12_gcd_4 n x 0 = x := fun n m x c hx hn hm hm0 => by
    obtain ⟨n1, rfl⟩ : ∃ n1 : Nat, n = n1 + 1 := ⟨n - 1, by omega⟩
    obtain ⟨m1, rfl⟩ : ∃ m1 : Nat, m = m1 + 1 := ⟨m - 1, by omega⟩
    constructor
    · show kB_X11_commonDivisor_7 (kL_X11_commonDivisor_7 q m1) q x 0 c = x
      unfold kB_X11_commonDivisor_7 kJ_X11_commonDivisor_34
      simp only [fz_lt, mx x hx]
      by_cases g : c < 64
      · rw [if_pos g, if_neg (show ¬ ((0 : Int) < 0) by decide)]
      · rw [if_neg g]
    · show kB_X12_gcd_4 (kL_X12_gcd_4 n1) x 0 = x
      unfold kB_X12_gcd_4
      rw [if_pos rfl]
  have st : ∀ (n m : Nat) (x y c : Int), 1 ≤ x → 0 < y → c < 64 → kL_X11_commonDivisor_7 q (m + 1) x y c = kL_X11_commonDivisor_7 q m y (x % y) (c + 1) ∧ kL_X12_gcd_4 (n + 1) x y = kL_X12_gcd_4 n y (x % y) := fun n m x y c hx hy hc => by
    constructor
    · show kB_X11_commonDivisor_7 (kL_X11_commonDivisor_7 q m) q x y c = _
      unfold kB_X11_commonDivisor_7
      simp only [fz_lt]
      rw [if_pos hc, if_pos hy, Int.tmod_eq_emod_of_nonneg (show 0 ≤ x by omega)]
    · show kB_X12_gcd_4 (kL_X12_gcd_4 n) x y = _
      unfold kB_X12_gcd_4
      simp only [fz_lt]
      rw [if_neg (show ¬ y = 0 by omega)]
  intro k
  induction k with
  | zero =>
    intro n m x y c h0 h1 hx hn hm _ _
    rw [Int.pow_zero] at h1
    have y0 : y = 0 := by omega
    subst y0
    obtain ⟨a, b⟩ := z0 n m x c hx (by omega) hm (by omega)
    rw [a, b]
    exact ⟨rfl, hx⟩
  | succ k ih =>
    intro n m x y c h0 h1 hx hn hm hk hc
    rw [Int.pow_succ] at h1
    by_cases y0 : y = 0
    · subst y0
      obtain ⟨a, b⟩ := z0 n m x c hx (by omega) hm (by omega)
      rw [a, b]
      exact ⟨rfl, hx⟩
    · obtain ⟨n1, rfl⟩ : ∃ n1 : Nat, n = n1 + 1 := ⟨n - 1, by omega⟩
      obtain ⟨m1, rfl⟩ : ∃ m1 : Nat, m = m1 + 1 := ⟨m - 1, by omega⟩
      obtain ⟨s1, s2⟩ := st n1 m1 x y c hx (by omega) (by omega)
      have r0 : 0 ≤ x % y := Int.emod_nonneg x y0
      have r1 : x % y < y := Int.emod_lt_of_pos x (by omega)
      obtain ⟨r, hr⟩ : ∃ r : Int, r = x % y := ⟨_, rfl⟩
      rw [← hr] at s1 s2 r0 r1
      rw [s1, s2]
      by_cases rz : r = 0
      · rw [rz]
        obtain ⟨a, b⟩ := z0 n1 m1 y (c + 1) (by omega) (by omega) (by omega) (by omega)
        rw [a, b]
        exact ⟨rfl, by omega⟩
      · obtain ⟨n2, rfl⟩ : ∃ n2 : Nat, n1 = n2 + 1 := ⟨n1 - 1, by omega⟩
        obtain ⟨m2, rfl⟩ : ∃ m2 : Nat, m1 = m2 + 1 := ⟨m1 - 1, by omega⟩
        obtain ⟨s3, s4⟩ := st n2 m2 y r (c + 1) (by omega) (by omega) (by omega)
        have q0 : 0 ≤ y % r := Int.emod_nonneg y rz
        have q1 : y % r < r := Int.emod_lt_of_pos y (by omega)
        have q2 : y % r + r * (y / r) = y := Int.emod_add_mul_ediv y r
        have q3 : 1 ≤ y / r := Int.le_ediv_of_mul_le (by omega) (by omega)
        have q4 : r * 1 ≤ r * (y / r) := Int.mul_le_mul_of_nonneg_left q3 (by omega)
        rw [s3, s4]
        exact ih n2 m2 r (y % r) (c + 1 + 1) q0 (by omega) (by omega) (by omega) (by omega) (by omega) (by omega)
theorem zo_div {q : fx_U} {a b : Int} (h0 : 0 ≤ a ∧ a ≤ b) (hb : 0 < b ∧ b ≤ 16000) : f_X11_commonDivisor q a b = f_X12_gcd q a b ∧ 1 ≤ f_X12_gcd q a b := by
  have p14 : (2 : Int) ^ 14 = 16384 := by decide
  unfold f_X11_commonDivisor f_X12_gcd
  rw [show Int.toNat (64 - 0) + 1 = 65 from rfl]
  by_cases e : a = b
  · rw [e]
    exact zo_g 14 (Int.toNat (b - 0) + 1) 65 b b 0 (by omega) (by omega) (by omega) (by omega) (by decide) (by decide) (by decide)
  · have s : kL_X12_gcd_4 (Int.toNat (b - 0) + 1) a b = kL_X12_gcd_4 (Int.toNat (b - 0)) b a := by
      show kB_X12_gcd_4 (kL_X12_gcd_4 (Int.toNat (b - 0))) a b = _
      unfold kB_X12_gcd_4
      simp only [fz_lt]
      rw [if_neg (show ¬ b = 0 by omega), Int.emod_eq_of_lt h0.1 (by omega)]
    rw [s]
    exact zo_g 14 (Int.toNat (b - 0)) 65 b a 0 h0.1 (by omega) (by omega) (by omega) (by decide) (by decide) (by decide)
end Odds
