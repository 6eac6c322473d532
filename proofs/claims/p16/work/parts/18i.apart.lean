/-! DOTS APART: both reckon alike -/
theorem zz_pb {a b : Int} (ha : -198 ≤ a ∧ a ≤ 198) (hb : 0 ≤ b ∧ b ≤ 64) : -12672 ≤ a * b ∧ a * b ≤ 12672 := by
  have h1 : a * b ≤ 198 * b := Int.mul_le_mul_of_nonneg_right ha.2 hb.1
  have h2 : (-198) * b ≤ a * b := Int.mul_le_mul_of_nonneg_right ha.1 hb.1
  omega
section Apart
variable {u v : fx_U} {br a2 c0 bn : Nat} {D e fr to m : Int}
/-- how far a dot is off -/
theorem zz_off {i : Int} (hb : u br 1 = (c0 : Int)) (hbn : v a2 0 = (bn : Int)) (hk : ∀ k : Nat, k < 64 → v bn k = u c0 k ∧ -99 ≤ u c0 k ∧ u c0 k ≤ 99) (h1 : 0 ≤ fr ∧ fr < i ∧ i < to ∧ to ≤ 63) : f_X12_size v (fx_b_sub (f_X12_straight v a2 fr to i) (v bn (0 + i).toNat)) = f_X1_offAt u br fr to i := by
  obtain ⟨f1, f2⟩ := hk fr.toNat (by omega)
  obtain ⟨t1, t2⟩ := hk to.toNat (by omega)
  obtain ⟨i1, i2⟩ := hk i.toNat (by omega)
  have pb := zz_pb (a := u c0 to.toNat - u c0 fr.toNat) (b := i - fr) ⟨by omega, by omega⟩ ⟨by omega, by omega⟩
  have w1 : fx_b_sub (u c0 to.toNat) (u c0 fr.toNat) = u c0 to.toNat - u c0 fr.toNat := zz_wsub (zz_sml ⟨by omega, by omega⟩) (zz_sml ⟨by omega, by omega⟩) (zz_sml ⟨by omega, by omega⟩)
  have w2 : fx_b_mul (u c0 to.toNat - u c0 fr.toNat) (i - fr) = (u c0 to.toNat - u c0 fr.toNat) * (i - fr) := zz_wmul (zz_sml ⟨by omega, by omega⟩) (zz_sml ⟨by omega, by omega⟩) (zz_sml ⟨by omega, by omega⟩)
  unfold f_X12_straight f_X1_offAt
  simp only [fz_lt, fz_lr, hbn, hb, Int.toNat_natCast, Int.zero_add]
  rw [if_neg (show ¬ i = fr by omega), if_pos (show fr < to by omega), f1, t1, i1, w1, w2]
  exact (zz_absE (v := v)).symm
theorem zz_fits (hb : u br 1 = (c0 : Int)) (hbn : v a2 0 = (bn : Int)) (hk : ∀ k : Nat, k < 64 → v bn k = u c0 k ∧ -99 ≤ u c0 k ∧ u c0 k ≤ 99) (h0 : 0 ≤ fr) (ht : to ≤ 63) :
    ∀ (f : Nat) (i m : Int), fr < i → (64 - i).toNat < f → (m ≤ e → kL_X1_fitsBetween_5 to u br fr e f i = if kL_X12_worst_7 to v a2 fr bn f m i ≤ e then 1 else 0) ∧ m ≤ kL_X12_worst_7 to v a2 fr bn f m i := by
  intro f
  induction f with
  | zero => intro i m _ h; omega
  | succ f ih =>
    intro i m hi hf
    have eA : kL_X1_fitsBetween_5 to u br fr e (f + 1) i = kB_X1_fitsBetween_5 (kL_X1_fitsBetween_5 to u br fr e f) to u br fr e i := rfl
    have eB : kL_X12_worst_7 to v a2 fr bn (f + 1) m i = kB_X12_worst_7 (kL_X12_worst_7 to v a2 fr bn f) to v a2 fr bn m i := rfl
    rw [eA, eB]
    unfold kB_X1_fitsBetween_5 kB_X12_worst_7
    by_cases h : i < to
    · simp only [if_pos h, fz_lt, zz_off hb hbn hk ⟨h0, hi, h, ht⟩]
      generalize f_X1_offAt u br fr to i = O
      have em : f_X12_max v m O = if O < m then m else O := rfl
      rw [em]
      by_cases q : O < m
      · rw [if_pos q]
        obtain ⟨g1, g2⟩ := ih (i + 1) m (by omega) (by omega)
        exact ⟨fun hm => by rw [if_neg (by omega)]; exact g1 hm, g2⟩
      · rw [if_neg q]
        obtain ⟨g1, g2⟩ := ih (i + 1) O (by omega) (by omega)
        refine ⟨fun hm => ?_, by omega⟩
        by_cases q2 : e < O
        · rw [if_pos q2, if_neg (by omega)]
        · rw [if_neg q2]
          exact g1 (by omega)
    · simp only [if_neg h]
      exact ⟨fun hm => by rw [if_pos hm], Int.le_refl m⟩
theorem zz_fitsB (hb : u br 1 = (c0 : Int)) (hbn : v a2 0 = (bn : Int)) (hk : ∀ k : Nat, k < 64 → v bn k = u c0 k ∧ -99 ≤ u c0 k ∧ u c0 k ≤ 99) (h0 : 0 ≤ fr) (ht : to ≤ 63) (he : 0 ≤ e) : f_X1_fitsBetween u br fr to e = if f_X12_worst v a2 fr to ≤ e then 1 else 0 := by
  unfold f_X1_fitsBetween f_X12_worst
  simp only [fz_lt, fz_lr, hbn, Int.toNat_natCast]
  exact (zz_fits (e := e) hb hbn hk h0 ht (Int.toNat (64 - (fr + 1)) + 1) (fr + 1) 0 (by omega) (by omega)).1 he
theorem zz_offL (hb : u br 1 = (c0 : Int)) (hbn : v a2 0 = (bn : Int)) (hk : ∀ k : Nat, k < 64 → v bn k = u c0 k ∧ -99 ≤ u c0 k ∧ u c0 k ≤ 99) (h0 : 0 ≤ fr) (ht : to ≤ 63) :
    ∀ (f : Nat) (s i : Int), fr < i → (64 - i).toNat < f → kL_X1_offBetween_7 to u br fr f s i = kL_X12_offBetween_7 to v a2 fr f s i := by
  intro f
  induction f with
  | zero => intro s i _ h; omega
  | succ f ih =>
    intro s i hi hf
    have eA : kL_X1_offBetween_7 to u br fr (f + 1) s i = kB_X1_offBetween_7 (kL_X1_offBetween_7 to u br fr f) to u br fr s i := rfl
    have eB : kL_X12_offBetween_7 to v a2 fr (f + 1) s i = kB_X12_offBetween_7 (kL_X12_offBetween_7 to v a2 fr f) to v a2 fr s i := rfl
    rw [eA, eB]
    unfold kB_X1_offBetween_7 kB_X12_offBetween_7
    by_cases h : i < to
    · simp only [if_pos h, fz_lt, fz_lr, hbn, Int.toNat_natCast, zz_off hb hbn hk ⟨h0, hi, h, ht⟩]
      exact ih _ (i + 1) (by omega) (by omega)
    · simp only [if_neg h]
theorem zz_offB (hb : u br 1 = (c0 : Int)) (hbn : v a2 0 = (bn : Int)) (hk : ∀ k : Nat, k < 64 → v bn k = u c0 k ∧ -99 ≤ u c0 k ∧ u c0 k ≤ 99) (h0 : 0 ≤ fr) (ht : to ≤ 63) : f_X1_offBetween u br fr to = f_X12_offBetween v a2 fr to := by
  unfold f_X1_offBetween f_X12_offBetween
  simp only [fz_lt]
  exact zz_offL hb hbn hk h0 ht (Int.toNat (64 - (fr + 1)) + 1) 0 (fr + 1) (by omega) (by omega)
theorem zz_amin {i : Int} : f_J9_min_7cf53 u (i + m) (D - 1) = f_X12_min v (D - 1) (i + m) := rfl
theorem zz_aminb {i : Int} (hD : 8 ≤ D ∧ D ≤ 64) (h : i < D - 1) (hm : 1 ≤ m) : i < f_X12_min v (D - 1) (i + m) ∧ f_X12_min v (D - 1) (i + m) ≤ 63 := by
  unfold f_X12_min
  by_cases q : D - 1 < i + m
  · rw [if_pos q]
    omega
  · rw [if_neg q]
    omega
theorem zz_amax (hm : 1 ≤ m) : f_J9_max_7cf53 u 1 m = m := by
  rw [zz_max]
  omega
theorem zz_fitsA {R : Int → Int → Int} {p : Int} (hb : u br 1 = (c0 : Int)) (hD : u br 0 = D) (hDb : 8 ≤ D ∧ D ≤ 64) (hbn : v a2 0 = (bn : Int)) (hk : ∀ k : Nat, k < 64 → v bn k = u c0 k ∧ -99 ≤ u c0 k ∧ u c0 k ≤ 99) (hm : 1 ≤ m ∧ m ≤ 16) (he : 0 ≤ e) :
    ∀ (f : Nat) (i : Int), 0 ≤ i → (78 - i).toNat < f → kL_X12_apart_51 (D - 1) m R p v a2 e f 1 i = kJ_X12_apart_98 (kL_X1_fitsApart_2 u br m e f i) m R p := by
  intro f
  induction f with
  | zero => intro i _ h; omega
  | succ f ih =>
    intro i hi hf
    have eA : kL_X12_apart_51 (D - 1) m R p v a2 e (f + 1) 1 i = kB_X12_apart_51 (kL_X12_apart_51 (D - 1) m R p v a2 e f) (D - 1) m R p v a2 e 1 i := rfl
    have eB : kL_X1_fitsApart_2 u br m e (f + 1) i = kB_X1_fitsApart_2 (kL_X1_fitsApart_2 u br m e f) u br m e i := rfl
    rw [eA, eB]
    unfold kB_X12_apart_51 kB_X1_fitsApart_2 kJ_X12_apart_86
    by_cases h : i < D - 1
    · obtain ⟨b1, b2⟩ := zz_aminb (v := v) (i := i) hDb h hm.1
      simp only [fz_lt, hD, if_pos h, if_neg zz_n10, zz_amin (v := v), zz_amax hm.1, zz_fitsB hb hbn hk hi b2 he]
      by_cases q : f_X12_worst v a2 i (f_X12_min v (D - 1) (i + m)) ≤ e
      · simp only [if_pos q, if_neg zz_n10, if_neg (show ¬ e < f_X12_worst v a2 i (f_X12_min v (D - 1) (i + m)) by omega)]
        exact ih (i + m) (by omega) (by omega)
      · simp only [if_neg q, if_true, if_pos (show e < f_X12_worst v a2 i (f_X12_min v (D - 1) (i + m)) by omega)]
        obtain ⟨g, hg⟩ : ∃ g : Nat, f = g + 1 := ⟨f - 1, by omega⟩
        have eC : kL_X12_apart_51 (D - 1) m R p v a2 e (g + 1) 0 (i + m) = kB_X12_apart_51 (kL_X12_apart_51 (D - 1) m R p v a2 e g) (D - 1) m R p v a2 e 0 (i + m) := rfl
        rw [hg, eC]
        unfold kB_X12_apart_51
        by_cases z : i + m < D - 1
        · simp only [if_pos z, if_true]
        · simp only [if_neg z]
    · simp only [fz_lt, hD, if_neg h]
theorem zz_offA (hb : u br 1 = (c0 : Int)) (hD : u br 0 = D) (hDb : 8 ≤ D ∧ D ≤ 64) (hbn : v a2 0 = (bn : Int)) (hk : ∀ k : Nat, k < 64 → v bn k = u c0 k ∧ -99 ≤ u c0 k ∧ u c0 k ≤ 99) (hm : 1 ≤ m ∧ m ≤ 16) :
    ∀ (f : Nat) (s i : Int), 0 ≤ i → (78 - i).toNat < f → kL_X1_offByApart_4 u br m f s i = kL_X12_apart_126 (D - 1) m v a2 f s i := by
  intro f
  induction f with
  | zero => intro s i _ h; omega
  | succ f ih =>
    intro s i hi hf
    have eA : kL_X1_offByApart_4 u br m (f + 1) s i = kB_X1_offByApart_4 (kL_X1_offByApart_4 u br m f) u br m s i := rfl
    have eB : kL_X12_apart_126 (D - 1) m v a2 (f + 1) s i = kB_X12_apart_126 (kL_X12_apart_126 (D - 1) m v a2 f) (D - 1) m v a2 s i := rfl
    rw [eA, eB]
    unfold kB_X1_offByApart_4 kB_X12_apart_126
    by_cases h : i < D - 1
    · obtain ⟨b1, b2⟩ := zz_aminb (v := v) (i := i) hDb h hm.1
      simp only [fz_lt, hD, if_pos h, zz_amin (v := v), zz_amax hm.1, zz_offB hb hbn hk hi b2]
      exact ih _ (i + m) (by omega) (by omega)
    · simp only [fz_lt, hD, if_neg h]
/-- the greatest of 1 to k + 1 that fits -/
def zz_gr (F : Int → Int) : Nat → Int
  | 0 => 1
  | k + 1 => if F ((k : Int) + 2) = 0 then zz_gr F k else (k : Int) + 2
theorem zz_gr_b {F : Int → Int} : ∀ k : Nat, 1 ≤ zz_gr F k ∧ zz_gr F k ≤ (k : Int) + 1 := by
  intro k
  induction k with
  | zero => exact ⟨Int.le_refl 1, Int.le_refl 1⟩
  | succ k ih =>
    have e : zz_gr F (k + 1) = if F ((k : Int) + 2) = 0 then zz_gr F k else (k : Int) + 2 := rfl
    rw [e]
    by_cases h : F ((k : Int) + 2) = 0
    · rw [if_pos h]
      omega
    · rw [if_neg h]
      omega
theorem zz_grC : ∀ (k f : Nat), k < f → kL_X1_greatestApart_3 u br e f ((k : Int) + 1) = zz_gr (fun m => f_X1_fitsApart u br m e) k := by
  intro k
  induction k with
  | zero =>
    intro f hf
    obtain ⟨g, rfl⟩ : ∃ g : Nat, f = g + 1 := ⟨f - 1, by omega⟩
    have eA : kL_X1_greatestApart_3 u br e (g + 1) (((0 : Nat) : Int) + 1) = kB_X1_greatestApart_3 (kL_X1_greatestApart_3 u br e g) u br e (((0 : Nat) : Int) + 1) := rfl
    rw [eA]
    unfold kB_X1_greatestApart_3
    rw [if_neg (by omega)]
    rfl
  | succ k ih =>
    intro f hf
    obtain ⟨g, rfl⟩ : ∃ g : Nat, f = g + 1 := ⟨f - 1, by omega⟩
    have eA : kL_X1_greatestApart_3 u br e (g + 1) (((k + 1 : Nat) : Int) + 1) = kB_X1_greatestApart_3 (kL_X1_greatestApart_3 u br e g) u br e (((k + 1 : Nat) : Int) + 1) := rfl
    have eG : zz_gr (fun m => f_X1_fitsApart u br m e) (k + 1) = if f_X1_fitsApart u br ((k : Int) + 2) e = 0 then zz_gr (fun m => f_X1_fitsApart u br m e) k else (k : Int) + 2 := rfl
    rw [eA, eG, show ((k + 1 : Nat) : Int) + 1 = (k : Int) + 2 by omega]
    unfold kB_X1_greatestApart_3
    rw [if_pos (by omega)]
    simp only [fz_lt]
    by_cases h : f_X1_fitsApart u br ((k : Int) + 2) e = 0
    · rw [if_pos h, if_pos h, show (k : Int) + 2 + (-1) = (k : Int) + 1 by omega]
      exact ih g (by omega)
    · rw [if_neg h, if_neg h]
theorem zz_grR {x2 : Int} (hb : u br 1 = (c0 : Int)) (hD : u br 0 = D) (hDb : 8 ≤ D ∧ D ≤ 64) (hbn : v a2 0 = (bn : Int)) (hk : ∀ k : Nat, k < 64 → v bn k = u c0 k ∧ -99 ≤ u c0 k ∧ u c0 k ≤ 99) (he : 0 ≤ e) :
    ∀ (f k : Nat), k ≤ 15 → 15 - k < f → kL_X12_apart_38 x2 (D - 1) v a2 e f (zz_gr (fun m => f_X1_fitsApart u br m e) k) ((k : Int) + 2) = if x2 = 0 then zz_gr (fun m => f_X1_fitsApart u br m e) 15 else kL_X12_apart_126 (D - 1) (zz_gr (fun m => f_X1_fitsApart u br m e) 15) v a2 79 0 0 := by
  intro f
  induction f with
  | zero => intro k _ h; omega
  | succ f ih =>
    intro k h1 h2
    have eA : kL_X12_apart_38 x2 (D - 1) v a2 e (f + 1) (zz_gr (fun m => f_X1_fitsApart u br m e) k) ((k : Int) + 2) = kB_X12_apart_38 (kL_X12_apart_38 x2 (D - 1) v a2 e f) x2 (D - 1) v a2 e (zz_gr (fun m => f_X1_fitsApart u br m e) k) ((k : Int) + 2) := rfl
    rw [eA]
    unfold kB_X12_apart_38
    by_cases h : 16 < (k : Int) + 2
    · have ek : k = 15 := by omega
      subst ek
      rw [if_pos h, show Int.toNat (78 - 0) + 1 = 79 from rfl]
    · rw [if_neg h, show Int.toNat (78 - 0) + 1 = 79 from rfl, zz_fitsA hb hD hDb hbn hk (by omega) he 79 0 (by decide) (by decide)]
      have eF : kL_X1_fitsApart_2 u br ((k : Int) + 2) e 79 0 = f_X1_fitsApart u br ((k : Int) + 2) e := by
        unfold f_X1_fitsApart
        rw [show Int.toNat (78 - 0) + 1 = 79 from rfl]
      have eG : zz_gr (fun m => f_X1_fitsApart u br m e) (k + 1) = if f_X1_fitsApart u br ((k : Int) + 2) e = 0 then zz_gr (fun m => f_X1_fitsApart u br m e) k else (k : Int) + 2 := rfl
      have z := ih (k + 1) (by omega) (by omega)
      rw [eG, show ((k + 1 : Nat) : Int) + 2 = (k : Int) + 2 + 1 by omega] at z
      rw [eF]
      unfold kJ_X12_apart_98 kJ_X12_apart_107
      simp only [fz_lt]
      by_cases q : f_X1_fitsApart u br ((k : Int) + 2) e = 0
      · rw [if_pos q] at z ⊢
        exact z
      · rw [if_neg q] at z ⊢
        exact z
theorem zz_apartF {a1 : Nat} {x1 x2 : Int} (ha : u a1 5 = (br : Int)) (hb : u br 1 = (c0 : Int)) (hD : u br 0 = D) (hDb : 8 ≤ D ∧ D ≤ 64) (hbn : v a2 0 = (bn : Int)) (hD2 : v bn 512 = D) (hk : ∀ k : Nat, k < 64 → v bn k = u c0 k ∧ -99 ≤ u c0 k ∧ u c0 k ≤ 99) : f_X11_apart u a1 x1 x2 = f_X12_apart v a2 x1 x2 := by
  have e512 : Int.toNat 512 = 512 := rfl
  unfold f_X11_apart f_X12_apart
  simp only [fz_lt, fz_lr, ha, hbn, hD2, e512, Int.toNat_natCast, zz_is, zz_is2]
  by_cases g1 : 0 ≤ x1 ∧ x1 ≤ 99
  · by_cases g2 : 0 ≤ x2 ∧ x2 ≤ 1
    · simp only [if_pos g1, if_pos g2, if_neg zz_n10]
      have eC : f_X1_greatestApart u br x1 = zz_gr (fun m => f_X1_fitsApart u br m x1) 15 := by
        unfold f_X1_greatestApart
        rw [show Int.toNat (16 - 1) + 1 = 16 from rfl]
        exact zz_grC (e := x1) 15 16 (by decide)
      have eR := zz_grR (x2 := x2) (e := x1) hb hD hDb hbn hk g1.1 16 0 (by decide) (by decide)
      rw [show Int.toNat (17 - 2) + 1 = 16 from rfl, eC]
      rw [show zz_gr (fun m => f_X1_fitsApart u br m x1) 0 = 1 from rfl, show ((0 : Nat) : Int) + 2 = 2 from rfl] at eR
      rw [eR]
      by_cases g3 : x2 = 0
      · rw [if_pos g3, if_pos g3]
      · rw [if_neg g3, if_neg g3]
        have b := zz_gr_b (F := fun m => f_X1_fitsApart u br m x1) 15
        unfold f_X1_offByApart
        rw [show Int.toNat (78 - 0) + 1 = 79 from rfl]
        exact zz_offA hb hD hDb hbn hk ⟨b.1, by omega⟩ 79 0 0 (by decide) (by decide)
    · simp only [if_pos g1, if_neg g2, if_neg zz_n10, if_true]
  · simp only [if_neg g1, if_true]
end Apart
