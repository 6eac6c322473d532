/-! NUMBERS WITHIN BOUNDS -/
theorem q_bm {z : Int} (h : -2147483648 ≤ z ∧ z ≤ 2147483647) : z.bmod (2 ^ 32) = z := by
  rw [Int.bmod_def]
  have e : ((2 ^ 32 : Nat) : Int) = 4294967296 := rfl
  rw [e]
  split <;> omega
theorem q_lit {x : Int32} {n : Int} (h : x.toInt = n) : q_r x n n := ⟨Int.le_of_eq h.symm, Int.le_of_eq h⟩
theorem q_addN {x y z : Int32} {a b c d lo hi : Int} (e : z = x + y) (hx : q_r x a b) (hy : q_r y c d) (h : lo ≤ a + c ∧ b + d ≤ hi ∧ -2147483648 ≤ lo ∧ hi ≤ 2147483647) : z.toInt = x.toInt + y.toInt ∧ q_r z lo hi := by
  unfold q_r at *
  have e1 : z.toInt = x.toInt + y.toInt := by
    rw [e, Int32.toInt_add]
    exact q_bm (by omega)
  exact ⟨e1, by omega, by omega⟩
theorem q_subN {x y z : Int32} {a b c d lo hi : Int} (e : z = x - y) (hx : q_r x a b) (hy : q_r y c d) (h : lo ≤ a - d ∧ b - c ≤ hi ∧ -2147483648 ≤ lo ∧ hi ≤ 2147483647) : z.toInt = x.toInt - y.toInt ∧ q_r z lo hi := by
  unfold q_r at *
  have e1 : z.toInt = x.toInt - y.toInt := by
    rw [e, Int32.toInt_sub]
    exact q_bm (by omega)
  exact ⟨e1, by omega, by omega⟩
theorem q_mulB {x y a b c d lo hi : Int} (hx : a ≤ x ∧ x ≤ b) (hy : c ≤ y ∧ y ≤ d) (h : (lo ≤ a * c ∧ lo ≤ a * d ∧ lo ≤ b * c ∧ lo ≤ b * d) ∧ a * c ≤ hi ∧ a * d ≤ hi ∧ b * c ≤ hi ∧ b * d ≤ hi) : lo ≤ x * y ∧ x * y ≤ hi := by
  have key : ∀ u : Int, lo ≤ u * c → lo ≤ u * d → u * c ≤ hi → u * d ≤ hi → lo ≤ u * y ∧ u * y ≤ hi := by
    intro u h1 h2 h3 h4
    rcases Int.le_total 0 u with hu | hu
    · have p1 := Int.mul_le_mul_of_nonneg_left hy.1 hu
      have p2 := Int.mul_le_mul_of_nonneg_left hy.2 hu
      omega
    · have p1 := Int.mul_le_mul_of_nonpos_left hu hy.1
      have p2 := Int.mul_le_mul_of_nonpos_left hu hy.2
      omega
  obtain ⟨⟨h1, h2, h3, h4⟩, h5, h6, h7, h8⟩ := h
  obtain ⟨ka1, ka2⟩ := key a h1 h2 h5 h6
  obtain ⟨kb1, kb2⟩ := key b h3 h4 h7 h8
  rcases Int.le_total 0 y with hu | hu
  · have p1 := Int.mul_le_mul_of_nonneg_right hx.1 hu
    have p2 := Int.mul_le_mul_of_nonneg_right hx.2 hu
    omega
  · have p1 := Int.mul_le_mul_of_nonpos_right hx.1 hu
    have p2 := Int.mul_le_mul_of_nonpos_right hx.2 hu
    omega
theorem q_mulN {x y z : Int32} {a b c d lo hi : Int} (e : z = x * y) (hx : q_r x a b) (hy : q_r y c d) (h : ((lo ≤ a * c ∧ lo ≤ a * d ∧ lo ≤ b * c ∧ lo ≤ b * d) ∧ a * c ≤ hi ∧ a * d ≤ hi ∧ b * c ≤ hi ∧ b * d ≤ hi) ∧ -2147483648 ≤ lo ∧ hi ≤ 2147483647) : z.toInt = x.toInt * y.toInt ∧ q_r z lo hi := by
  have hb := q_mulB hx hy h.1
  have e1 : z.toInt = x.toInt * y.toInt := by
    rw [e, Int32.toInt_mul]
    exact q_bm (by omega)
  exact ⟨e1, by rw [e1]; exact hb.1, by rw [e1]; exact hb.2⟩
theorem q_negN {x z : Int32} {a b lo hi : Int} (e : z = 0 - x) (hx : q_r x a b) (h : lo ≤ -b ∧ -a ≤ hi ∧ -2147483648 ≤ lo ∧ hi ≤ 2147483647) : z.toInt = -x.toInt ∧ q_r z lo hi := by
  have := q_subN (a := 0) (b := 0) (lo := lo) (hi := hi) e ⟨by rw [Int32.toInt_zero]; omega, by rw [Int32.toInt_zero]; omega⟩ hx (by omega)
  rw [Int32.toInt_zero] at this
  exact ⟨by omega, this.2⟩
theorem q_tdivB {x y : Int} (hy : 1 ≤ y) : (0 ≤ x → 0 ≤ x.tdiv y ∧ x.tdiv y ≤ x) ∧ (x ≤ 0 → x ≤ x.tdiv y ∧ x.tdiv y ≤ 0) := by
  constructor
  · intro h
    rw [Int.tdiv_eq_ediv_of_nonneg h]
    exact ⟨Int.ediv_nonneg h (by omega), Int.ediv_le_self _ h⟩
  · intro h
    have e : x.tdiv y = -((-x).tdiv y) := by rw [Int.neg_tdiv, Int.neg_neg]
    rw [e, Int.tdiv_eq_ediv_of_nonneg (by omega : 0 ≤ -x)]
    have h1 := Int.ediv_nonneg (by omega : 0 ≤ -x) (by omega : 0 ≤ y)
    have h2 := Int.ediv_le_self y (by omega : 0 ≤ -x)
    omega
/-- a quotient by a divisor above 0 -/
theorem q_divN {x y z : Int32} {a b c d lo hi : Int} (e : z = x / y) (hx : q_r x a b) (hy : q_r y c d) (h : 1 ≤ c ∧ lo ≤ 0 ∧ lo ≤ a ∧ 0 ≤ hi ∧ b ≤ hi) : z.toInt = x.toInt.tdiv y.toInt ∧ q_r z lo hi := by
  have h0 := q_tdivB (x := x.toInt) (y := y.toInt) (by unfold q_r at hy; omega)
  have hl : -2147483648 ≤ x.toInt := (q_r_any x).1
  have hu : x.toInt ≤ 2147483647 := (q_r_any x).2
  unfold q_r at hx
  have e1 : z.toInt = x.toInt.tdiv y.toInt := by
    rw [e, Int32.toInt_div]
    refine q_bm ?_
    rcases Int.le_total 0 x.toInt with q | q
    · have := h0.1 q; omega
    · have := h0.2 q; omega
  refine ⟨e1, ?_, ?_⟩
  · rw [e1]
    rcases Int.le_total 0 x.toInt with q | q
    · have := h0.1 q; omega
    · have := h0.2 q; omega
  · rw [e1]
    rcases Int.le_total 0 x.toInt with q | q
    · have := h0.1 q; omega
    · have := h0.2 q; omega
theorem q_divP {x y z : Int32} {a b c d : Int} (e : z = x / y) (hx : q_r x a b) (hy : q_r y c d) (h : 0 ≤ a ∧ 1 ≤ c) : z.toInt = x.toInt / y.toInt := by
  rw [(q_divN (lo := 0) (hi := b) e hx hy (by unfold q_r at hx; omega)).1]
  exact Int.tdiv_eq_ediv_of_nonneg (by unfold q_r at hx; omega)
/-- a rest by a divisor above 0 -/
theorem q_remE {x y z : Int32} {c d : Int} (e : z = x - x / y * y) (hy : q_r y c d) (h : 1 ≤ c) : z.toInt = x.toInt.tmod y.toInt := by
  have hc : 1 ≤ y.toInt := by unfold q_r at hy; omega
  have h0 := q_tdivB (x := x.toInt) hc
  have hl : -2147483648 ≤ x.toInt := (q_r_any x).1
  have hu : x.toInt ≤ 2147483647 := (q_r_any x).2
  have e1 : (x / y).toInt = x.toInt.tdiv y.toInt := (q_divN (lo := -2147483648) (hi := 2147483647) rfl (q_r_any x) hy (by omega)).1
  have e2 := Int.tmod_add_mul_tdiv x.toInt y.toInt
  have e3 : y.toInt * x.toInt.tdiv y.toInt = x.toInt.tdiv y.toInt * y.toInt := Int.mul_comm _ _
  have e4 : (x / y * y).toInt = x.toInt.tdiv y.toInt * y.toInt := by
    rw [Int32.toInt_mul, e1]
    refine q_bm ?_
    rcases Int.le_total 0 x.toInt with q | q
    · have t1 := Int.tmod_nonneg y.toInt q
      have t2 := h0.1 q
      have t3 : 0 ≤ x.toInt.tdiv y.toInt * y.toInt := Int.mul_nonneg t2.1 (by omega)
      omega
    · have t2 := h0.2 q
      have t3 : x.toInt.tdiv y.toInt * y.toInt ≤ 0 := Int.mul_nonpos_of_nonpos_of_nonneg t2.2 (by omega)
      have t4 : x.toInt.tmod y.toInt ≤ 0 := by
        have := Int.tmod_nonneg y.toInt (by omega : 0 ≤ -x.toInt)
        rw [Int.neg_tmod] at this
        omega
      omega
  rw [e, Int32.toInt_sub, e4]
  rw [show x.toInt - x.toInt.tdiv y.toInt * y.toInt = x.toInt.tmod y.toInt by omega]
  refine q_bm ?_
  rcases Int.le_total 0 x.toInt with q | q
  · have t1 := Int.tmod_nonneg y.toInt q
    have t2 : 0 ≤ x.toInt.tdiv y.toInt * y.toInt := Int.mul_nonneg (h0.1 q).1 (by omega)
    omega
  · have t3 : x.toInt.tdiv y.toInt * y.toInt ≤ 0 := Int.mul_nonpos_of_nonpos_of_nonneg (h0.2 q).2 (by omega)
    have t4 : x.toInt.tmod y.toInt ≤ 0 := by
      have := Int.tmod_nonneg y.toInt (by omega : 0 ≤ -x.toInt)
      rw [Int.neg_tmod] at this
      omega
    omega
theorem q_remN {x y z : Int32} {a b c d lo hi : Int} (e : z = x - x / y * y) (hx : q_r x a b) (hy : q_r y c d) (h : 1 ≤ c ∧ lo ≤ 1 - d ∧ d - 1 ≤ hi) : q_r z lo hi := by
  have e1 := q_remE e hy h.1
  unfold q_r at *
  have hp : 0 < y.toInt := by omega
  have t1 : x.toInt.tmod y.toInt < y.toInt := Int.tmod_lt_of_pos _ hp
  have t2 : -y.toInt < x.toInt.tmod y.toInt := by
    have := Int.tmod_lt_of_pos (-x.toInt) hp
    rw [Int.neg_tmod] at this
    omega
  omega
theorem q_remP {x y z : Int32} {a b c d : Int} (e : z = x - x / y * y) (hx : q_r x a b) (hy : q_r y c d) (h : 0 ≤ a ∧ 1 ≤ c) : z.toInt = x.toInt % y.toInt ∧ q_r z 0 (d - 1) ∧ z.toInt ≤ x.toInt := by
  have e1 := q_remE e hy h.2
  unfold q_r at *
  have e2 : x.toInt.tmod y.toInt = x.toInt % y.toInt := Int.tmod_eq_emod_of_nonneg (by omega)
  have t1 := Int.emod_nonneg x.toInt (by omega : y.toInt ≠ 0)
  have t2 := Int.emod_lt_of_pos x.toInt (by omega : 0 < y.toInt)
  have t4 : 0 ≤ y.toInt * (x.toInt / y.toInt) := Int.mul_nonneg (by omega) (Int.ediv_nonneg (by omega) (by omega))
  have t5 := Int.emod_add_mul_ediv x.toInt y.toInt
  omega
theorem q_andN {x y z : Int32} {n : Nat} (e : z = x &&& y) (hy : y = Int32.ofNat n) (hn : n < 2 ^ 31) : q_r z 0 n := by
  have h1 : z.toBitVec.toNat ≤ n := by
    rw [e, Int32.toBitVec_and, BitVec.toNat_and]
    refine Nat.le_trans Nat.and_le_right ?_
    rw [hy]
    show (BitVec.ofNat 32 n).toNat ≤ n
    rw [BitVec.toNat_ofNat]
    exact Nat.mod_le _ _
  have h2 : z.toInt = z.toBitVec.toNat := by
    show z.toBitVec.toInt = _
    exact BitVec.toInt_eq_toNat_of_lt (by omega)
  unfold q_r
  rw [h2]
  omega
theorem q_i2bN {x z : Int32} (e : z = x.toInt8.toInt32) : q_r z (-128) 127 := by
  have h1 := Int8.le_toInt x.toInt8
  have h2 := Int8.toInt_le x.toInt8
  unfold q_r
  rw [e, Int8.toInt_toInt32]
  exact ⟨h1, h2⟩
theorem q_incN {x z : Int32} {n a b lo hi : Int} (hx : q_r x a b) (hn : -128 ≤ n ∧ n ≤ 127) (h : lo ≤ a + n ∧ b + n ≤ hi ∧ -2147483648 ≤ lo ∧ hi ≤ 2147483647) (e : z = x + Int32.ofInt n) : z.toInt = x.toInt + n ∧ q_r z lo hi := by
  have h0 : (Int32.ofInt n).toInt = n := by
    rw [Int32.toInt_ofInt]
    exact q_bm (by omega)
  have := q_addN (lo := lo) (hi := hi) e hx (q_lit h0) h
  rw [h0] at this
  exact this
/-! bounds out of a comparison -/
theorem q_rlt {x y : Int32} {a b c d : Int} (hx : q_r x a b) (hy : q_r y c d) (h : x.toInt < y.toInt) (e : Int) (he : d - 1 ≤ e) : q_r x a e := ⟨hx.1, by unfold q_r at *; omega⟩
theorem q_rle {x y : Int32} {a b c d : Int} (hx : q_r x a b) (hy : q_r y c d) (h : x.toInt ≤ y.toInt) : q_r x a d := ⟨hx.1, by unfold q_r at *; omega⟩
theorem q_rgt {x y : Int32} {a b c d : Int} (hx : q_r x a b) (hy : q_r y c d) (h : y.toInt < x.toInt) (e : Int) (he : e ≤ c + 1) : q_r x e b := ⟨by unfold q_r at *; omega, hx.2⟩
theorem q_rge {x y : Int32} {a b c d : Int} (hx : q_r x a b) (hy : q_r y c d) (h : y.toInt ≤ x.toInt) : q_r x c b := ⟨by unfold q_r at *; omega, hx.2⟩
theorem q_req {x y : Int32} {a b : Int} (hy : q_r y a b) (h : x.toInt = y.toInt) : q_r x a b := by unfold q_r at *; omega
theorem q_rlo {x : Int32} {a b : Int} (hx : q_r x a b) (c : Int) (h : c ≤ x.toInt) : q_r x c b := ⟨h, hx.2⟩
theorem q_rhi {x : Int32} {a b : Int} (hx : q_r x a b) (c : Int) (h : x.toInt ≤ c) : q_r x a c := ⟨hx.1, h⟩
theorem q_rno {x : Int32} {a b : Int} {P : Prop} (hx : q_r x a b) (h : b < a) : P := absurd hx (by unfold q_r; omega)
/-- an index within a row -/
theorem q_ix {i : Int32} {a b : Int} {n : Nat} (h : q_r i a b) (hn : 0 ≤ a ∧ b < n) : 0 ≤ i.toInt ∧ i.toInt < n := by unfold q_r at h; omega
theorem q_nz {y : Int32} (h : y.toInt ≠ 0) : ¬ y = 0 := fun e => h (by rw [e]; rfl)
theorem q_nzr {y : Int32} {a b : Int} (h : q_r y a b) (hn : 1 ≤ a ∨ b ≤ -1) : ¬ y = 0 := q_nz (by unfold q_r at h; omega)
