/-! THE NIGHT: burns, minutes, old, cones, dew, car: whole calls -/
section Acts
variable {N : Nat → Nat} {la bk a1 a2 b bq bf : Nat} {A B : Int → Int → Int → Int} {D x y x1 x2 x3 : Int} {u v w z : fx_U}
theorem zn_isS (hD : u (N 0) 0 = D) : f_X7_isStretch u (N 0) x1 x2 = if (0 ≤ x1 ∧ x1 < D) ∧ (0 ≤ x2 ∧ x2 < D) ∧ x1 ≤ x2 then 1 else 0 := by
  unfold f_X7_isStretch f_X7_isDot
  simp only [fz_lt, hD]
  by_cases c1 : x1 < 0
  · rw [if_pos c1, if_pos rfl, if_neg (by omega)]
  · rw [if_neg c1]
    by_cases c2 : x1 < D
    · rw [if_pos c2, if_neg zz_n10]
      by_cases c3 : x2 < 0
      · rw [if_pos c3, if_pos rfl, if_neg (by omega)]
      · rw [if_neg c3]
        by_cases c4 : x2 < D
        · rw [if_pos c4, if_neg zz_n10]
          by_cases c5 : x2 < x1
          · rw [if_pos c5, if_neg (by omega)]
          · rw [if_neg c5, if_pos ⟨⟨by omega, c2⟩, ⟨by omega, c4⟩, by omega⟩]
        · rw [if_neg c4, if_pos rfl, if_neg (by omega)]
    · rw [if_neg c2, if_pos rfl, if_neg (by omega)]
theorem zn_isR {α : Type} (h0 : v a2 0 = (b : Int)) (hD : v b 512 = D) (p q : α) : (if f_X12_isDot v a2 x1 = 0 then q else if f_X12_isDot v a2 x2 = 0 then q else if x2 < x1 then q else p) = if (0 ≤ x1 ∧ x1 < D) ∧ (0 ≤ x2 ∧ x2 < D) ∧ x1 ≤ x2 then p else q := by
  have e : ∀ x : Int, f_X12_isDot v a2 x = if x < 0 then 0 else if x < D then 1 else 0 := fun x => by
    unfold f_X12_isDot
    simp only [fz_lr, fz_lt, h0, Int.toNat_natCast, show Int.toNat 512 = 512 from rfl, hD]
  rw [e x1, e x2]
  by_cases c1 : x1 < 0
  · rw [if_pos c1, if_pos rfl, if_neg (by omega)]
  · rw [if_neg c1]
    by_cases c2 : x1 < D
    · rw [if_pos c2, if_neg zz_n10]
      by_cases c3 : x2 < 0
      · rw [if_pos c3, if_pos rfl, if_neg (by omega)]
      · rw [if_neg c3]
        by_cases c4 : x2 < D
        · rw [if_pos c4, if_neg zz_n10]
          by_cases c5 : x2 < x1
          · rw [if_pos c5, if_neg (by omega)]
          · rw [if_neg c5, if_pos ⟨⟨by omega, c2⟩, ⟨by omega, c4⟩, by omega⟩]
        · rw [if_neg c4, if_pos rfl, if_neg (by omega)]
    · rw [if_neg c2, if_pos rfl, if_neg (by omega)]
theorem zn_burnsW (X : zn_X N la bk) (Y : zn_Y a2 b bq bf) (hP : zn_P N u) (h5 : u a1 5 = (N 0 : Int)) (h0 : v a2 0 = (b : Int)) (hR : zn_R N b D u v) (hD : 8 ≤ D ∧ D ≤ 64) : ∃ (w z : fx_U) (m : Int), f_X11_burns u a1 x1 x2 = (m, w) ∧ f_X12_burns v a2 x1 x2 = (m, z) ∧ zn_fr N la bk u w ∧ zn_R N b D w z := by
  have g := hR.1.1
  have eA : f_X11_burns u a1 x1 x2 = if (0 ≤ x1 ∧ x1 < D) ∧ (0 ≤ x2 ∧ x2 < D) ∧ x1 ≤ x2 then kL_X11_burns_19 x2 (N 0) (Int.toNat (64 - x1) + 1) 0 x1 u else (-1, u) := by
    unfold f_X11_burns
    simp only [fz_lr, fz_lt, h5, Int.toNat_natCast, zn_isS g.1]
    by_cases c : (0 ≤ x1 ∧ x1 < D) ∧ (0 ≤ x2 ∧ x2 < D) ∧ x1 ≤ x2
    · rw [if_pos c, if_pos c, if_neg zz_n10]
    · rw [if_neg c, if_neg c, if_pos rfl]
  have eB : f_X12_burns v a2 x1 x2 = if (0 ≤ x1 ∧ x1 < D) ∧ (0 ≤ x2 ∧ x2 < D) ∧ x1 ≤ x2 then kL_X12_burns_28 x2 a2 b (Int.toNat (64 - x1) + 1) 0 x1 v else (-1, v) := by
    unfold f_X12_burns
    simp only [fz_lr, fz_lt, h0, Int.toNat_natCast]
    exact zn_isR h0 g.2 _ _
  rw [eA, eB]
  by_cases c : (0 ≤ x1 ∧ x1 < D) ∧ (0 ≤ x2 ∧ x2 < D) ∧ x1 ≤ x2
  · rw [if_pos c, if_pos c]
    obtain ⟨w, z, m, e1, e2, S⟩ := zn_burns (x := x2) X Y (by omega) (Int.toNat (64 - x1) + 1) 0 x1 u v (by omega) c.1.1 ⟨by decide, c.1.1⟩ (by omega) hP h0 hR
    exact ⟨w, z, m, e1, e2, S.1.fr, S.2.2.2⟩
  · rw [if_neg c, if_neg c]
    exact ⟨u, v, -1, rfl, rfl, zn_fr.rf, hR⟩
theorem zn_minutesW (X : zn_X N la bk) (Y : zn_Y a2 b bq bf) (hP : zn_P N u) (h5 : u a1 5 = (N 0 : Int)) (h4 : u a1 4 = (la : Int)) (h0 : v a2 0 = (b : Int)) (hR : zn_R N b D u v) (hD : 8 ≤ D ∧ D ≤ 64) (bd : zp_bd A B D) (hrow : zn_row N b u v) (qc : zn_qc N la bk A B D u) (qr : zn_qr a2 b bq bf A B D v) : ∃ (w z : fx_U) (m : Int), f_X11_minutes u a1 x = (m, w) ∧ f_X12_minutes v a2 x = (m, z) ∧ zn_fr N la bk u w ∧ zn_R N b D w z := by
  have in1 : f_X11_isIn u x 1 600 = f_X12_in v x 1 600 := rfl
  have in2 : f_X12_in v x 1 600 = if x < 1 then 0 else if 600 < x then 0 else 1 := rfl
  by_cases c : 1 ≤ x ∧ x ≤ 600
  · obtain ⟨w, z, e1, e2, e3, -, e5⟩ := zn_go X Y hD bd c hP h0 hR hrow qc qr
    rw [if_neg (by omega), if_neg (by omega)] at in2
    refine ⟨w, z, z a2 29, ?_, ?_, e3.fr, e5⟩
    · unfold f_X11_minutes
      simp only [fz_lr, fz_lt, fz_lc, in1, in2, if_neg zz_n10, h5, h4, Int.toNat_natCast, e1]
    · unfold f_X12_minutes
      simp only [fz_lr, fz_lt, fz_ls, in2, if_neg zz_n10, e2]
  · have in3 : f_X12_in v x 1 600 = 0 := by
      rw [in2]
      by_cases c1 : x < 1
      · rw [if_pos c1]
      · rw [if_neg c1, if_pos (by omega)]
    refine ⟨u, v, -1, ?_, ?_, zn_fr.rf, hR⟩
    · unfold f_X11_minutes
      simp only [fz_lr, fz_lt, fz_lc, in1, in3, if_true]
    · unfold f_X12_minutes
      simp only [fz_lr, fz_lt, fz_ls, in3, if_true]
end Acts
