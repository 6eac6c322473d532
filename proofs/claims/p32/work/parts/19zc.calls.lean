/-! THE NIGHT: road, old, party, car, cones, dew: whole calls, let in or refused -/
section Calls
variable {N : Nat → Nat} {la bk a1 a2 b bq bf : Nat} {D x x1 x2 x3 : Int} {u v w z : fx_U}
theorem zn_in01 (lo hi : Int) : f_X12_in v x lo hi = 0 ∨ (f_X12_in v x lo hi = 1 ∧ lo ≤ x ∧ x ≤ hi) := by
  unfold f_X12_in
  by_cases c1 : x < lo
  · rw [if_pos c1]
    exact Or.inl rfl
  · rw [if_neg c1]
    by_cases c2 : hi < x
    · rw [if_pos c2]
      exact Or.inl rfl
    · rw [if_neg c2]
      exact Or.inr ⟨rfl, by omega, by omega⟩
theorem zn_inE (lo hi : Int) : f_X11_isIn u x lo hi = f_X12_in v x lo hi := rfl
theorem zn_conesW (X : zn_X N la bk) (h5 : u a1 5 = (N 0 : Int)) (h0 : v a2 0 = (b : Int)) (hR : zn_R N b D u v) : ∃ (w z : fx_U) (m : Int), f_X11_cones u a1 x = (m, w) ∧ f_X12_cones v a2 x = (m, z) ∧ zn_fr N la bk u w ∧ zn_R N b D w z := by
  have e : f_X11_isIn u x 0 64 = f_X12_in v x 0 64 := rfl
  rcases zn_in01 (v := v) (x := x) 0 64 with c | ⟨c, -⟩
  · refine ⟨u, v, 0, ?_, ?_, zn_fr.rf, hR⟩
    · unfold f_X11_cones
      simp only [fz_lr, fz_lt, fz_ls, e, c, if_true]
    · unfold f_X12_cones
      simp only [fz_lr, fz_lt, fz_ls, c, if_true]
  · refine ⟨fx_pt u (N 0) 15 x, fx_pt v b 514 x, 1, ?_, ?_, zn_fr.pt (by decide), zn_Rcones X hR⟩
    · unfold f_X11_cones
      simp only [fz_lr, fz_lt, fz_ls, e, c, if_neg zz_n10, h5, Int.toNat_natCast]
    · unfold f_X12_cones
      simp only [fz_lr, fz_lt, fz_ls, c, if_neg zz_n10, h0, Int.toNat_natCast, show Int.toNat 514 = 514 from rfl]
theorem zn_dewW (X : zn_X N la bk) (h5 : u a1 5 = (N 0 : Int)) (h0 : v a2 0 = (b : Int)) (hR : zn_R N b D u v) : ∃ (w z : fx_U) (m : Int), f_X11_dew u a1 x = (m, w) ∧ f_X12_dew v a2 x = (m, z) ∧ zn_fr N la bk u w ∧ zn_R N b D w z := by
  have e : f_X11_isIn u x (-1) 9999 = f_X12_in v x (-1) 9999 := rfl
  rcases zn_in01 (v := v) (x := x) (-1) 9999 with c | ⟨c, c1, c2⟩
  · refine ⟨u, v, 0, ?_, ?_, zn_fr.rf, hR⟩
    · unfold f_X11_dew
      simp only [fz_lr, fz_lt, fz_ls, e, c, if_true]
    · unfold f_X12_dew
      simp only [fz_lr, fz_lt, fz_ls, c, if_true]
  · refine ⟨fx_pt u (N 0) 16 x, fx_pt v b 515 (if x = -1 then -2 else x), 1, ?_, ?_, zn_fr.pt (by decide), zn_Rdew X hR ?_⟩
    · unfold f_X11_dew
      simp only [fz_lr, fz_lt, fz_ls, e, c, if_neg zz_n10, h5, Int.toNat_natCast]
    · unfold f_X12_dew kJ_X12_dew_31
      simp only [fz_lr, fz_lt, fz_ls, c, if_neg zz_n10, h0, Int.toNat_natCast, show Int.toNat 515 = 515 from rfl]
      by_cases t : x = -1
      · simp only [if_pos t]
      · simp only [if_neg t]
    · by_cases t : x = -1
      · rw [if_pos t]
        exact Or.inl ⟨t, rfl⟩
      · rw [if_neg t]
        exact Or.inr ⟨by omega, rfl⟩
theorem zn_carW (X2 : zn_X2 N) (hP : zn_P N u) (h5 : u a1 5 = (N 0 : Int)) (h0 : v a2 0 = (b : Int)) (hR : zn_R N b D u v) (hX : ∃ X : Int32, v b 524 = X.toInt) : ∃ (w z : fx_U) (m : Int), f_X11_car u a1 x1 x2 x3 = (m, w) ∧ f_X12_car v a2 x1 x2 x3 = (m, z) ∧ zn_fr N la bk u w ∧ zn_R N b D w z := by
  have e1 : f_X11_isIn u x1 0 11 = f_X12_in v x1 0 11 := rfl
  have e2 : f_X11_isIn u x2 0 1 = f_X12_in v x2 0 1 := rfl
  have e3 : f_X11_isIn u x3 0 9999 = f_X12_in v x3 0 9999 := rfl
  rcases zn_in01 (v := v) (x := x1) 0 11 with c | ⟨c, c1, c2⟩
  · refine ⟨u, v, 0, ?_, ?_, zn_fr.rf, hR⟩
    · unfold f_X11_car
      simp only [fz_lr, fz_lt, fz_ls, e1, c, if_true]
    · unfold f_X12_car
      simp only [fz_lr, fz_lt, fz_ls, c, if_true]
  · rcases zn_in01 (v := v) (x := x2) 0 1 with d | ⟨d, d1, d2⟩
    · refine ⟨u, v, 0, ?_, ?_, zn_fr.rf, hR⟩
      · unfold f_X11_car
        simp only [fz_lr, fz_lt, fz_ls, e1, e2, c, d, if_neg zz_n10, if_true]
      · unfold f_X12_car
        simp only [fz_lr, fz_lt, fz_ls, c, d, if_neg zz_n10, if_true]
    · rcases zn_in01 (v := v) (x := x3) 0 9999 with f | ⟨f, f1, f2⟩
      · refine ⟨u, v, 0, ?_, ?_, zn_fr.rf, hR⟩
        · unfold f_X11_car
          simp only [fz_lr, fz_lt, fz_ls, e1, e2, e3, c, d, f, if_neg zz_n10, if_true]
        · unfold f_X12_car
          simp only [fz_lr, fz_lt, fz_ls, c, d, f, if_neg zz_n10, if_true]
      · have p13 := hP 13 (by decide) (by decide)
        have p14 : fx_pt u (N 13) x1.toNat x2 (N 0) 14 = (N 14 : Int) := (zz_pa (X2.1 0 (by decide) (by decide))).trans (hP 14 (by decide) (by decide))
        have q1 : (525 + x1).toNat = 525 + x1.toNat := by omega
        have q2 : (537 + x1).toNat = 537 + x1.toNat := by omega
        refine ⟨_, _, 1, ?_, ?_, zn_fr.tr (zn_fr.pt (by decide)) (zn_fr.pt (by decide)), zn_Rcar (c := x1) (x := x2) (m := x3) X2 hR ⟨c1, c2⟩ (by omega) ⟨f1, f2⟩ hX⟩
        · unfold f_X11_car
          simp only [fz_lr, fz_lt, fz_ls, e1, e2, e3, c, d, f, if_neg zz_n10, h5, p13, Int.toNat_natCast, p14]
        · unfold f_X12_car
          simp only [fz_lr, fz_lt, fz_ls, c, d, f, if_neg zz_n10, h0, Int.toNat_natCast, show Int.toNat 524 = 524 from rfl, q1, q2]
theorem zn_partyW (X : zn_X N la bk) (X2 : zn_X2 N) (Y : zn_Y a2 b bq bf) (hP : zn_P N u) (h5 : u a1 5 = (N 0 : Int)) (n5 : a1 ≠ la ∧ a1 ≠ bk ∧ ∀ j : Nat, j ≤ 14 → a1 ≠ N j) (h0 : v a2 0 = (b : Int)) (hR : zn_R N b D u v) (hD : 8 ≤ D ∧ D ≤ 64) (hx : x2 = 0 ∨ x2 = 1) : ∃ (w z : fx_U) (m : Int), f_X11_party u a1 x1 x2 x3 = (m, w) ∧ f_X12_party v a2 x1 x2 x3 = (m, z) ∧ zn_fr N la bk u w ∧ zn_R N b D w z := by
  have e1 : f_X11_isIn u x1 0 1 = f_X12_in v x1 0 1 := rfl
  have e3 : f_X11_isIn u x3 (-20) 20 = f_X12_in v x3 (-20) 20 := rfl
  rcases zn_in01 (v := v) (x := x1) 0 1 with c | ⟨c, c1, c2⟩
  · refine ⟨u, v, 0, ?_, ?_, zn_fr.rf, hR⟩
    · unfold f_X11_party
      simp only [fz_lr, fz_lt, fz_ls, e1, c, if_true]
    · unfold f_X12_party
      simp only [fz_lr, fz_lt, fz_ls, c, if_true]
  · rcases zn_in01 (v := v) (x := x3) (-20) 20 with d | ⟨d, d1, d2⟩
    · refine ⟨u, v, 0, ?_, ?_, zn_fr.rf, hR⟩
      · unfold f_X11_party
        simp only [fz_lr, fz_lt, fz_ls, e1, e3, c, d, if_neg zz_n10, if_true]
      · unfold f_X12_party
        simp only [fz_lr, fz_lt, fz_ls, c, d, if_neg zz_n10, if_true]
    · obtain ⟨w, z, k1, k2, k3, k4⟩ := zn_party (p := x1) (x := x2) (y := x3) X X2 Y hP h5 n5 h0 hR hD (by omega) hx ⟨d1, d2⟩
      exact ⟨w, z, 1, k1, k2, k3, k4⟩
theorem zn_oldW (X2 : zn_X2 N) (hP : zn_P N u) (h5 : u a1 5 = (N 0 : Int)) (h0 : v a2 0 = (b : Int)) (hR : zn_R N b D u v) (hD : 8 ≤ D ∧ D ≤ 64) : ∃ (w z : fx_U) (m : Int), f_X11_old u a1 x1 x2 x3 = (m, w) ∧ f_X12_old v a2 x1 x2 x3 = (m, z) ∧ zn_fr N la bk u w ∧ zn_R N b D w z := by
  have g := hR.1.1
  have e3 : f_X11_isIn u x3 (-100) 99 = f_X12_in v x3 (-100) 99 := rfl
  have eA : f_X11_old u a1 x1 x2 x3 = if (0 ≤ x1 ∧ x1 < D) ∧ (0 ≤ x2 ∧ x2 < D) ∧ x1 ≤ x2 then (if f_X12_in v x3 (-100) 99 = 0 then (0, u) else kL_X11_old_28 x2 (N 0) x3 (Int.toNat (64 - x1) + 1) x1 u) else (0, u) := by
    unfold f_X11_old
    simp only [fz_lr, fz_lt, h5, Int.toNat_natCast, zn_isS g.1, e3]
    by_cases c : (0 ≤ x1 ∧ x1 < D) ∧ (0 ≤ x2 ∧ x2 < D) ∧ x1 ≤ x2
    · rw [if_pos c, if_pos c, if_neg zz_n10]
    · rw [if_neg c, if_neg c, if_pos rfl]
  have eB : f_X12_old v a2 x1 x2 x3 = if (0 ≤ x1 ∧ x1 < D) ∧ (0 ≤ x2 ∧ x2 < D) ∧ x1 ≤ x2 then (if f_X12_in v x3 (-100) 99 = 0 then (0, v) else kL_X12_old_37 x2 b x3 (Int.toNat (64 - x1) + 1) x1 v) else (0, v) := by
    unfold f_X12_old
    simp only [fz_lr, fz_lt, h0, Int.toNat_natCast]
    exact zn_isR h0 g.2 _ _
  rw [eA, eB]
  by_cases c : (0 ≤ x1 ∧ x1 < D) ∧ (0 ≤ x2 ∧ x2 < D) ∧ x1 ≤ x2
  · rw [if_pos c, if_pos c]
    by_cases d : f_X12_in v x3 (-100) 99 = 0
    · rw [if_pos d, if_pos d]
      exact ⟨u, v, 0, rfl, rfl, zn_fr.rf, hR⟩
    · rw [if_neg d, if_neg d]
      obtain ⟨w, z, k1, k2, k3, k4⟩ := zn_old (x := x2) (y := x3) (la := la) (bk := bk) X2 (by omega) (Int.toNat (64 - x1) + 1) x1 u v (by omega) c.1.1 (by omega) (hP 4 (by decide) (by decide)) hR
      exact ⟨w, z, 1, k1, k2, k3, k4⟩
  · rw [if_neg c, if_neg c]
    exact ⟨u, v, 0, rfl, rfl, zn_fr.rf, hR⟩
theorem zn_roadW (X : zn_X N la bk) (X2 : zn_X2 N) (Y : zn_Y a2 b bq bf) (hP : zn_P N u) (h5 : u a1 5 = (N 0 : Int)) (h0 : v a2 0 = (b : Int)) (hR : zn_R N b D u v) (hD : 8 ≤ D ∧ D ≤ 64) : ∃ (w z : fx_U) (m D2 : Int), (8 ≤ D2 ∧ D2 ≤ 64) ∧ f_X11_road u a1 x = (m, w) ∧ f_X12_road v a2 x = (m, z) ∧ zn_fr N la bk u w ∧ zn_R N b D2 w z := by
  have e : f_X11_isIn u x 8 64 = f_X12_in v x 8 64 := rfl
  rcases zn_in01 (v := v) (x := x) 8 64 with c | ⟨c, c1, c2⟩
  · refine ⟨u, v, 0, D, hD, ?_, ?_, zn_fr.rf, hR⟩
    · unfold f_X11_road
      simp only [fz_lr, fz_lt, fz_ls, e, c, if_true]
    · unfold f_X12_road
      simp only [fz_lr, fz_lt, fz_ls, c, if_true]
  · obtain ⟨w, z, k1, k2, k3, k4⟩ := zn_road X X2 Y hP h5 h0 hR ⟨c1, c2⟩
    exact ⟨w, z, 1, x, ⟨c1, c2⟩, k1, k2, k3, k4⟩
end Calls
