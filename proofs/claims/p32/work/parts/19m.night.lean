/-! THE NIGHT: both roads alike. N 0 is the class's road, N j the row in its field j; b is the reference's row -/
def zn_P (N : Nat → Nat) (u : fx_U) : Prop := ∀ j : Nat, 1 ≤ j → j ≤ 14 → u (N 0) j = (N j : Int)
/-- a dot -/
def zn_D (N : Nat → Nat) (b : Nat) (u v : fx_U) (j : Nat) : Prop := u (N 4) j = v b (192 + j) ∧ u (N 8) j = v b (448 + j) ∧ ((u (N 5) j = -100 ∧ v b (320 + j) = -2) ∨ ((-99 ≤ u (N 5) j ∧ u (N 5) j ≤ 99) ∧ (0 ≤ v b (320 + j) ∧ v b (320 + j) ≤ 10000) ∧ u (N 5) j = v b (256 + j) ∧ u (N 6) j = v b (320 + j) ∧ u (N 7) j = v b (384 + j) ∧ 0 ≤ u (N 7) j ∧ u (N 7) j ≤ 99))
/-- a party -/
def zn_A (N : Nat → Nat) (b : Nat) (D : Int) (u v : fx_U) (a : Nat) : Prop := u (N 9) a = v b (516 + a) ∧ (u (N 12) a = v b (518 + a) ∧ -20 ≤ u (N 12) a ∧ u (N 12) a ≤ 20) ∧ u (N 10) a = v b (520 + a) ∧ (u (N 10) a = -2 ∨ ((0 ≤ u (N 10) a ∧ u (N 10) a < D) ∧ u (N 5) (u (N 10) a).toNat = -100 ∧ u (N 11) a = v b (522 + a) ∧ 1 ≤ u (N 11) a ∧ u (N 11) a ≤ 9))
/-- a car -/
def zn_C (N : Nat → Nat) (b : Nat) (u v : fx_U) (c : Nat) : Prop := (u (N 13) c = -1 ∧ u (N 14) c = -1 ∧ f_X12_has v (v b 524) (c : Int) = 0) ∨ ((u (N 13) c = 0 ∨ u (N 13) c = 1) ∧ f_X12_has v (v b 524) (c : Int) = 1 ∧ u (N 13) c = v b (525 + c) ∧ u (N 14) c = v b (537 + c) ∧ 0 ≤ u (N 14) c ∧ u (N 14) c ≤ 9999)
/-- the rest -/
def zn_G (N : Nat → Nat) (b : Nat) (D : Int) (u v : fx_U) : Prop := (u (N 0) 0 = D ∧ v b 512 = D) ∧ u (N 0) 15 = v b 514 ∧ ((u (N 0) 16 = -1 ∧ v b 515 = -2) ∨ (0 ≤ u (N 0) 16 ∧ u (N 0) 16 = v b 515)) ∧ u (N 0) 17 = v b 513 ∧ 0 ≤ u (N 0) 17 ∧ u (N 0) 17 ≤ 9999
def zn_R (N : Nat → Nat) (b : Nat) (D : Int) (u v : fx_U) : Prop := zn_G N b D u v ∧ (∀ j : Nat, j < 64 → zn_D N b u v j) ∧ (zn_A N b D u v 0 ∧ zn_A N b D u v 1) ∧ (u (N 10) 0 = u (N 10) 1 → u (N 10) 0 = -2) ∧ ∀ c : Nat, c < 12 → zn_C N b u v c
section Night
variable {N : Nat → Nat} {a2 b : Nat} {D i m : Int} {u v : fx_U}
theorem zn_pd (hP : zn_P N u) (h0 : v a2 0 = (b : Int)) (hd : zn_D N b u v i.toNat) (hi : 0 ≤ i) : f_X7_isPainted u (N 0) i = (if u (N 5) i.toNat = -100 then 0 else 1) ∧ f_X12_isPainted v a2 i = (if u (N 5) i.toNat = -100 then 0 else 1) := by
  have p5 := hP 5 (by decide) (by decide)
  have e : (320 + i).toNat = 320 + i.toNat := by omega
  constructor
  · unfold f_X7_isPainted
    simp only [fz_lr, fz_lt, p5, Int.toNat_natCast]
  · unfold f_X12_isPainted
    simp only [fz_lr, fz_lt, h0, Int.toNat_natCast, e]
    obtain ⟨-, -, h⟩ := hd
    rcases h with ⟨h1, h2⟩ | ⟨h1, h2, -⟩
    · rw [if_pos h1, if_pos (by omega)]
    · rw [if_neg (show ¬ u (N 5) i.toNat = -100 by omega), if_neg (by omega)]
theorem zn_wet (hP : zn_P N u) (h0 : v a2 0 = (b : Int)) (hd : zn_D N b u v i.toNat) (hi : 0 ≤ i) (hm : u (N 0) 17 = m) (mb : 0 ≤ m ∧ m ≤ 10000) : f_X7_isWet u (N 0) i = f_X12_isWet v a2 i m ∧ (f_X7_isWet u (N 0) i = 0 ∨ f_X7_isWet u (N 0) i = 1) ∧ (u (N 5) i.toNat = -100 → f_X7_isWet u (N 0) i = 0) := by
  obtain ⟨q1, q2⟩ := zn_pd hP h0 hd hi
  have p6 := hP 6 (by decide) (by decide)
  have p7 := hP 7 (by decide) (by decide)
  have e3 : (320 + i).toNat = 320 + i.toNat := by omega
  have e4 : (384 + i).toNat = 384 + i.toNat := by omega
  unfold f_X7_isWet f_X12_isWet
  simp only [fz_lr, fz_lt, q1, q2, h0, hm, p6, p7, Int.toNat_natCast, e3, e4]
  obtain ⟨-, -, h⟩ := hd
  rcases h with ⟨h1, h2⟩ | ⟨h1, h2, h3, h4, h5, h6, h7⟩
  · rw [if_pos h1]
    simp only [if_true]
    exact ⟨trivial, Or.inl trivial, fun _ => trivial⟩
  · have n5 : ¬ u (N 5) i.toNat = -100 := by omega
    have s1 : fx_b_sub m (u (N 6) i.toNat) = m - u (N 6) i.toNat := zz_wsub (zz_sml ⟨by omega, by omega⟩) (zz_sml ⟨by omega, by omega⟩) (zz_sml ⟨by omega, by omega⟩)
    have s2 : fx_b_add (v b (320 + i.toNat)) (v b (384 + i.toNat)) = v b (320 + i.toNat) + v b (384 + i.toNat) := zz_wadd (zz_sml ⟨by omega, by omega⟩) (zz_sml ⟨by omega, by omega⟩) (zz_sml ⟨by omega, by omega⟩)
    simp only [if_neg n5, s1, s2, if_neg zz_n10]
    by_cases c : m - u (N 6) i.toNat < u (N 7) i.toNat
    · rw [if_pos c, if_pos (by omega)]
      exact ⟨rfl, Or.inr rfl, fun q => absurd q n5⟩
    · rw [if_neg c, if_neg (by omega)]
      exact ⟨rfl, Or.inl rfl, fun q => absurd q n5⟩
theorem zn_po (hP : zn_P N u) : f_X7_painterOf u (N 0) i = if u (N 10) 0 = i then 0 else if u (N 10) 1 = i then 1 else -2 := by
  have p10 := hP 10 (by decide) (by decide)
  have t0 : Int.toNat 0 = 0 := rfl
  have t1 : Int.toNat 1 = 1 := rfl
  have k2 : kL_X7_painterOf_2 u (N 0) i 1 2 = -2 := by
    show kB_X7_painterOf_2 (kL_X7_painterOf_2 u (N 0) i 0) u (N 0) i 2 = -2
    unfold kB_X7_painterOf_2
    rw [if_neg (by decide)]
  have k1 : kL_X7_painterOf_2 u (N 0) i 2 1 = if u (N 10) 1 = i then 1 else -2 := by
    show kB_X7_painterOf_2 (kL_X7_painterOf_2 u (N 0) i 1) u (N 0) i 1 = _
    unfold kB_X7_painterOf_2
    simp only [fz_lr, fz_lt, p10, Int.toNat_natCast, t1, show (1 : Int) + 1 = 2 from rfl, k2]
    rw [if_pos (by decide)]
  unfold f_X7_painterOf
  rw [show Int.toNat (2 - 0) + 1 = 3 from rfl]
  show kB_X7_painterOf_2 (kL_X7_painterOf_2 u (N 0) i 2) u (N 0) i 0 = _
  unfold kB_X7_painterOf_2
  simp only [fz_lr, fz_lt, p10, Int.toNat_natCast, t0, show (0 : Int) + 1 = 1 from rfl, k1]
  rw [if_pos (by decide)]
theorem zn_bp (hP : zn_P N u) (h0 : v a2 0 = (b : Int)) (hA : u (N 10) 0 = v b 520 ∧ u (N 10) 1 = v b 521) : f_X7_isBeingPainted u (N 0) i = (if u (N 10) 0 = i ∨ u (N 10) 1 = i then 1 else 0) ∧ f_X12_isPainting v a2 i = (if u (N 10) 0 = i ∨ u (N 10) 1 = i then 1 else 0) := by
  have t0 : Int.toNat 520 = 520 := rfl
  have t1 : Int.toNat 521 = 521 := rfl
  constructor
  · unfold f_X7_isBeingPainted
    simp only [fz_lt, zn_po hP]
    by_cases c0 : u (N 10) 0 = i
    · rw [if_pos c0, if_pos (Or.inl c0), if_neg (show ¬ (0 : Int) = -2 by decide)]
    · by_cases c1 : u (N 10) 1 = i
      · rw [if_neg c0, if_pos c1, if_pos (Or.inr c1), if_neg (show ¬ (1 : Int) = -2 by decide)]
      · rw [if_neg c0, if_neg c1, if_pos (show (-2 : Int) = -2 from rfl), if_neg (show ¬ (u (N 10) 0 = i ∨ u (N 10) 1 = i) from fun h => h.elim c0 c1)]
  · unfold f_X12_isPainting
    simp only [fz_lr, fz_lt, h0, Int.toNat_natCast, t0, t1, ← hA.1, ← hA.2]
    by_cases c0 : u (N 10) 0 = i
    · rw [if_pos c0, if_pos (Or.inl c0)]
    · by_cases c1 : u (N 10) 1 = i
      · rw [if_neg c0, if_pos c1, if_pos (Or.inr c1)]
      · rw [if_neg c0, if_neg c1, if_neg (fun h => h.elim c0 c1)]
/-- the next dot for a party -/
theorem zn_next (hP : zn_P N u) (h0 : v a2 0 = (b : Int)) (hR : zn_R N b D u v) (hD : 8 ≤ D ∧ D ≤ 64) (p : Int) (p01 : p = 0 ∨ p = 1) : (f_X7_nextFor u (N 0) p = -2 ∧ f_X12_nextOf v a2 p = -1) ∨ (f_X7_nextFor u (N 0) p = f_X12_nextOf v a2 p ∧ (0 ≤ f_X12_nextOf v a2 p ∧ f_X12_nextOf v a2 p < D) ∧ u (N 5) (f_X12_nextOf v a2 p).toNat = -100 ∧ u (N 10) 0 ≠ f_X12_nextOf v a2 p ∧ u (N 10) 1 ≠ f_X12_nextOf v a2 p) := by
  obtain ⟨⟨⟨g1, g2⟩, -⟩, hd, ⟨hA0, hA1⟩, -, -⟩ := hR
  have hA : u (N 10) 0 = v b 520 ∧ u (N 10) 1 = v b 521 := ⟨hA0.2.2.1, hA1.2.2.1⟩
  have t5 : Int.toNat 512 = 512 := rfl
  have one : ∀ i : Int, 0 ≤ i → i < D → (∀ rc : Int → Int, ∀ k : Int, (kJ_X7_nextFor_26 u (N 0) k rc i = i ∧ f_X12_isPainted v a2 i = 0 ∧ f_X12_isPainting v a2 i = 0 ∧ u (N 5) i.toNat = -100 ∧ u (N 10) 0 ≠ i ∧ u (N 10) 1 ≠ i) ∨ (kJ_X7_nextFor_26 u (N 0) k rc i = rc (k + 1) ∧ ¬ (f_X12_isPainted v a2 i = 0 ∧ f_X12_isPainting v a2 i = 0))) := by
    intro i i0 i1 rc k
    obtain ⟨a1, a3⟩ := zn_pd hP h0 (hd i.toNat (by omega)) i0
    obtain ⟨c1, c2⟩ := zn_bp (i := i) hP h0 hA
    unfold kJ_X7_nextFor_26 kJ_X7_nextFor_45
    simp only [fz_lt, a1, a3, c1, c2]
    by_cases q1 : u (N 5) i.toNat = -100
    · by_cases q2 : u (N 10) 0 = i ∨ u (N 10) 1 = i
      · simp only [if_pos q1, if_pos q2, if_neg zz_n10, if_true]
        exact Or.inr ⟨trivial, fun h => absurd h.2 (by decide)⟩
      · simp only [if_pos q1, if_neg q2, if_true]
        exact Or.inl ⟨trivial, trivial, trivial, q1, fun h => q2 (Or.inl h), fun h => q2 (Or.inr h)⟩
    · simp only [if_neg q1, if_neg zz_n10]
      exact Or.inr ⟨trivial, fun h => absurd h.1 (by decide)⟩
  have up : ∀ (f : Nat) (k : Int), D - k < (f : Int) → 0 < f → 0 ≤ k → (kL_X7_nextFor_2 u (N 0) 0 f k = -2 ∧ kL_X12_nextOf_6 v a2 f k = -1) ∨ (kL_X7_nextFor_2 u (N 0) 0 f k = kL_X12_nextOf_6 v a2 f k ∧ (0 ≤ kL_X12_nextOf_6 v a2 f k ∧ kL_X12_nextOf_6 v a2 f k < D) ∧ u (N 5) (kL_X12_nextOf_6 v a2 f k).toNat = -100 ∧ u (N 10) 0 ≠ kL_X12_nextOf_6 v a2 f k ∧ u (N 10) 1 ≠ kL_X12_nextOf_6 v a2 f k) := by
    intro f
    induction f with
    | zero => intro k _ h; omega
    | succ f ih =>
      intro k hf _ k0
      have eA : kL_X7_nextFor_2 u (N 0) 0 (f + 1) k = if k < D then kJ_X7_nextFor_26 u (N 0) k (kL_X7_nextFor_2 u (N 0) 0 f) k else -2 := by
        show kB_X7_nextFor_2 (kL_X7_nextFor_2 u (N 0) 0 f) u (N 0) 0 k = _
        unfold kB_X7_nextFor_2
        simp only [fz_lt, g1, if_true]
      have eB : kL_X12_nextOf_6 v a2 (f + 1) k = if k < D then (if f_X12_isPainted v a2 k = 0 then (if f_X12_isPainting v a2 k = 0 then k else kL_X12_nextOf_6 v a2 f (k + 1)) else kL_X12_nextOf_6 v a2 f (k + 1)) else -1 := by
        show kB_X12_nextOf_6 (kL_X12_nextOf_6 v a2 f) v a2 k = _
        unfold kB_X12_nextOf_6 kJ_X12_nextOf_36
        simp only [fz_lr, fz_lt, h0, Int.toNat_natCast, t5, g2]
      rw [eA, eB]
      by_cases c : k < D
      · simp only [if_pos c]
        rcases one k k0 c (kL_X7_nextFor_2 u (N 0) 0 f) k with ⟨o1, o2, o3, o4, o5, o6⟩ | ⟨o1, o2⟩
        · rw [o1, if_pos o2, if_pos o3]
          exact Or.inr ⟨rfl, ⟨k0, c⟩, o4, o5, o6⟩
        · have e : (if f_X12_isPainted v a2 k = 0 then (if f_X12_isPainting v a2 k = 0 then k else kL_X12_nextOf_6 v a2 f (k + 1)) else kL_X12_nextOf_6 v a2 f (k + 1)) = kL_X12_nextOf_6 v a2 f (k + 1) := by
            by_cases q1 : f_X12_isPainted v a2 k = 0
            · rw [if_pos q1, if_neg (fun q2 => o2 ⟨q1, q2⟩)]
            · rw [if_neg q1]
          rw [o1, e]
          exact ih (k + 1) (by omega) (by omega) (by omega)
      · simp only [if_neg c]
        exact Or.inl ⟨trivial, trivial⟩
  have dn : ∀ (f g : Nat) (k : Int), D - k < (f : Int) → D - 1 - k + 1 < (g : Int) → 0 < f → 0 ≤ k → (k < D ∨ k = D) → (kL_X7_nextFor_2 u (N 0) 1 f k = -2 ∧ kL_X12_nextOf_56 v a2 g (D - 1 - k) = -1) ∨ (kL_X7_nextFor_2 u (N 0) 1 f k = kL_X12_nextOf_56 v a2 g (D - 1 - k) ∧ (0 ≤ kL_X12_nextOf_56 v a2 g (D - 1 - k) ∧ kL_X12_nextOf_56 v a2 g (D - 1 - k) < D) ∧ u (N 5) (kL_X12_nextOf_56 v a2 g (D - 1 - k)).toNat = -100 ∧ u (N 10) 0 ≠ kL_X12_nextOf_56 v a2 g (D - 1 - k) ∧ u (N 10) 1 ≠ kL_X12_nextOf_56 v a2 g (D - 1 - k)) := by
    intro f
    induction f with
    | zero => intro g k _ _ h; omega
    | succ f ih =>
      intro g k hf hg _ k0 kD
      obtain ⟨g, rfl⟩ : ∃ q : Nat, g = q + 1 := ⟨g - 1, by omega⟩
      have eA : kL_X7_nextFor_2 u (N 0) 1 (f + 1) k = if k < D then kJ_X7_nextFor_26 u (N 0) k (kL_X7_nextFor_2 u (N 0) 1 f) (D - 1 - k) else -2 := by
        show kB_X7_nextFor_2 (kL_X7_nextFor_2 u (N 0) 1 f) u (N 0) 1 k = _
        unfold kB_X7_nextFor_2
        simp only [fz_lt, g1, if_neg zz_n10]
      have eB : kL_X12_nextOf_56 v a2 (g + 1) (D - 1 - k) = if D - 1 - k < 0 then -1 else (if f_X12_isPainted v a2 (D - 1 - k) = 0 then (if f_X12_isPainting v a2 (D - 1 - k) = 0 then D - 1 - k else kL_X12_nextOf_56 v a2 g (D - 1 - k + -1)) else kL_X12_nextOf_56 v a2 g (D - 1 - k + -1)) := by
        show kB_X12_nextOf_56 (kL_X12_nextOf_56 v a2 g) v a2 (D - 1 - k) = _
        unfold kB_X12_nextOf_56 kJ_X12_nextOf_78
        simp only [fz_lt]
      rw [eA, eB]
      by_cases c : k < D
      · have nc : ¬ D - 1 - k < 0 := by omega
        simp only [if_pos c, if_neg nc]
        rcases one (D - 1 - k) (by omega) (by omega) (kL_X7_nextFor_2 u (N 0) 1 f) k with ⟨o1, o2, o3, o4, o5, o6⟩ | ⟨o1, o2⟩
        · rw [o1, if_pos o2, if_pos o3]
          exact Or.inr ⟨rfl, ⟨by omega, by omega⟩, o4, o5, o6⟩
        · have e : (if f_X12_isPainted v a2 (D - 1 - k) = 0 then (if f_X12_isPainting v a2 (D - 1 - k) = 0 then D - 1 - k else kL_X12_nextOf_56 v a2 g (D - 1 - k + -1)) else kL_X12_nextOf_56 v a2 g (D - 1 - k + -1)) = kL_X12_nextOf_56 v a2 g (D - 1 - (k + 1)) := by
            rw [show D - 1 - k + -1 = D - 1 - (k + 1) by omega]
            by_cases q1 : f_X12_isPainted v a2 (D - 1 - k) = 0
            · rw [if_pos q1, if_neg (fun q2 => o2 ⟨q1, q2⟩)]
            · rw [if_neg q1]
          rw [o1, e]
          exact ih g (k + 1) (by omega) (by omega) (by omega) (by omega) (by omega)
      · have nc : D - 1 - k < 0 := by omega
        simp only [if_neg c, if_pos nc]
        exact Or.inl ⟨trivial, trivial⟩
  rcases p01 with e | e
  · rw [e]
    unfold f_X7_nextFor f_X12_nextOf
    rw [if_pos rfl, show Int.toNat (64 - 0) + 1 = 65 from rfl]
    exact up 65 0 (by omega) (by decide) (by decide)
  · rw [e]
    unfold f_X7_nextFor f_X12_nextOf
    simp only [if_neg zz_n10, fz_lr, fz_lt, h0, Int.toNat_natCast, t5, g2, show Int.toNat (64 - 0) + 1 = 65 from rfl]
    have z := dn 65 (Int.toNat (D - 1 - -1) + 1) 0 (by omega) (by omega) (by decide) (by decide) (by omega)
    rw [show D - 1 - 0 = D - 1 by omega] at z
    exact z
end Night
