/-! THE NIGHT: cars and dew -/
section Drives
variable {N : Nat → Nat} {la bk a2 b bq bf : Nat} {A B : Int → Int → Int → Int} {D c i x : Int} {u v w y z : fx_U}
theorem zn_spoil (X : zn_X N la bk) (Y : zn_Y a2 b bq bf) (hR : zn_R N b D u v) (i64 : i.toNat < 64) : zn_R N b D (fx_pt u (N 8) i.toNat x) (fx_pt v b (448 + i.toNat) x) := by
  have F := zn_cs.pt (u := u) (i := i.toNat) (x := x) X (r := 8) ⟨by decide, by decide⟩
  have nk : ∀ k : Nat, k ≤ 14 → k ≠ 8 → N k ≠ N 8 := fun k k1 k2 => X.1 8 k (by decide) k1 (Or.inr ⟨by decide, by decide⟩) (fun h => k2 h.symm)
  obtain ⟨hG, hd, ⟨hA0, hA1⟩, hne, hC⟩ := hR
  have am : ∀ a : Nat, a < 2 → zn_A N b D u v a → zn_A N b D (fx_pt u (N 8) i.toNat x) (fx_pt v b (448 + i.toNat) x) a := fun a ha h => zn_Am h ⟨zz_pa (nk 9 (by decide) (by decide)), zz_pa (nk 10 (by decide) (by decide)), zz_pa (nk 11 (by decide) (by decide)), zz_pa (nk 12 (by decide) (by decide))⟩ (fun _ => zz_pa (nk 5 (by decide) (by decide))) ⟨zz_pj (by omega), zz_pj (by omega), zz_pj (by omega), zz_pj (by omega)⟩
  refine ⟨zn_Gm hG (F.N0 X) ⟨zz_pj (by omega), zz_pj (by omega), zz_pj (by omega), zz_pj (by omega)⟩, fun j hj => ?_, ⟨am 0 (by decide) hA0, am 1 (by decide) hA1⟩, ?_, fun c hc => zn_Cm (hC c hc) ⟨zz_pa (nk 13 (by decide) (by decide)), zz_pa (nk 14 (by decide) (by decide))⟩ ⟨zz_pj (by omega), zz_pj (by omega), zz_pj (by omega)⟩⟩
  · by_cases e : j = i.toNat
    · obtain ⟨d1, -, d3⟩ := hd j hj
      rw [e] at d1 d3 ⊢
      have k4 : fx_pt u (N 8) i.toNat x (N 4) i.toNat = u (N 4) i.toNat := zz_pa (nk 4 (by decide) (by decide))
      have k5 : fx_pt u (N 8) i.toNat x (N 5) i.toNat = u (N 5) i.toNat := zz_pa (nk 5 (by decide) (by decide))
      have k6 : fx_pt u (N 8) i.toNat x (N 6) i.toNat = u (N 6) i.toNat := zz_pa (nk 6 (by decide) (by decide))
      have k7 : fx_pt u (N 8) i.toNat x (N 7) i.toNat = u (N 7) i.toNat := zz_pa (nk 7 (by decide) (by decide))
      have r1 : fx_pt v b (448 + i.toNat) x b (192 + i.toNat) = v b (192 + i.toNat) := zz_pj (by omega)
      have r2 : fx_pt v b (448 + i.toNat) x b (256 + i.toNat) = v b (256 + i.toNat) := zz_pj (by omega)
      have r3 : fx_pt v b (448 + i.toNat) x b (320 + i.toNat) = v b (320 + i.toNat) := zz_pj (by omega)
      have r4 : fx_pt v b (448 + i.toNat) x b (384 + i.toNat) = v b (384 + i.toNat) := zz_pj (by omega)
      unfold zn_D
      rw [k4, k5, k6, k7, r1, r2, r3, r4]
      exact ⟨d1, zz_ps.trans zz_ps.symm, d3⟩
    · exact zn_Dm (hd j hj) ⟨zz_pa (nk 4 (by decide) (by decide)), zz_pa (nk 5 (by decide) (by decide)), zz_pa (nk 6 (by decide) (by decide)), zz_pa (nk 7 (by decide) (by decide)), zz_pj e⟩ ⟨zz_pj (by omega), zz_pj (by omega), zz_pj (by omega), zz_pj (by omega), zz_pj (by omega)⟩
  · have k0 : fx_pt u (N 8) i.toNat x (N 10) 0 = u (N 10) 0 := zz_pa (nk 10 (by decide) (by decide))
    have k1 : fx_pt u (N 8) i.toNat x (N 10) 1 = u (N 10) 1 := zz_pa (nk 10 (by decide) (by decide))
    rw [k0, k1]
    exact hne
def zn_S (N : Nat → Nat) (la bk a2 b bq bf : Nat) (D : Int) (u v w z : fx_U) : Prop := zn_cs N la bk u w ∧ zn_ra a2 b bq bf v z ∧ z a2 29 = v a2 29 ∧ zn_R N b D w z
theorem zn_S.rf (hR : zn_R N b D u v) : zn_S N la bk a2 b bq bf D u v u v := ⟨zn_cs.rf, zn_ra.rf, rfl, hR⟩
theorem zn_S.tr {u2 v2 : fx_U} (h : zn_S N la bk a2 b bq bf D u v w z) (k : zn_S N la bk a2 b bq bf D w z u2 v2) : zn_S N la bk a2 b bq bf D u v u2 v2 := ⟨h.1.tr k.1, h.2.1.tr k.2.1, k.2.2.1.trans h.2.2.1, k.2.2.2⟩
/-- a dot is spoilt, or it was already -/
theorem zn_sp (X : zn_X N la bk) (Y : zn_Y a2 b bq bf) (hP : zn_P N u) (hR : zn_R N b D u v) (i0 : 0 ≤ i ∧ i < 64) : zn_S N la bk a2 b bq bf D u v (f_X7_spoil u (N 0) i x) (if v b (448 + i.toNat) = -2 then fx_pt v b (448 + i.toNat) x else v) := by
  have p8 := hP 8 (by decide) (by decide)
  have d := (hR.2.1 i.toNat (by omega)).2.1
  unfold f_X7_spoil
  simp only [fz_lr, fz_lt, fz_ls, p8, Int.toNat_natCast]
  by_cases q : u (N 8) i.toNat = -2
  · rw [if_pos q, if_pos (d.symm.trans q)]
    exact ⟨zn_cs.pt X ⟨by decide, by decide⟩, zn_ra.pt Y (by omega) (by omega), zz_pa Y.1.2, zn_spoil X Y hR (by omega)⟩
  · rw [if_neg q, if_neg (fun h => q (d.trans h))]
    exact zn_S.rf hR
theorem zn_dr (X : zn_X N la bk) (Y : zn_Y a2 b bq bf) (hP : zn_P N u) (h0 : v a2 0 = (b : Int)) (hR : zn_R N b D u v) (hD : 8 ≤ D ∧ D ≤ 64) (i0 : 0 ≤ i ∧ i < D) : ∃ w : fx_U, (∀ rc : Int → fx_U → fx_U, kJ_X5_drive_58 u (N 0) c rc i = rc (c + 1) w) ∧ zn_S N la bk a2 b bq bf D u v w (kJ_X12_drives_73 v b a2 (v b 513) c i) := by
  have hR0 := hR
  obtain ⟨⟨⟨g1, g2⟩, g3, g4, g5, g6, g7⟩, hd, ⟨hA0, hA1⟩, hne, hC⟩ := hR
  obtain ⟨w1, w2, w3⟩ := zn_wet hP h0 (hd i.toNat (by omega)) i0.1 g5 ⟨by omega, by omega⟩
  obtain ⟨b1, b2⟩ := zn_bp (i := i) hP h0 ⟨hA0.2.2.1, hA1.2.2.1⟩
  have e448 : (448 + i).toNat = 448 + i.toNat := by omega
  have nn : ¬ i < 0 := by omega
  obtain ⟨Q, hQ⟩ : ∃ Q : Int, Q = f_X7_isWet u (N 0) i := ⟨_, rfl⟩
  rw [← hQ] at w1 w2
  have sp := zn_sp (x := c) X Y hP hR0 (i := i) ⟨i0.1, by omega⟩
  have eA : ∀ rc : Int → fx_U → fx_U, kJ_X5_drive_58 u (N 0) c rc i = if Q = 0 then (if f_X7_isBeingPainted u (N 0) i = 0 then rc (c + 1) u else rc (c + 1) (f_X7_spoil u (N 0) i c)) else rc (c + 1) (f_X7_spoil u (N 0) i c) := fun rc => by
    unfold kJ_X5_drive_58 kJ_X5_drive_83 kJ_X5_drive_89 f_X7_isDot
    simp only [fz_lt, fz_ls, g1, ← hQ]
    rw [if_neg nn, if_pos i0.2, if_neg zz_n10]
  have eB : kJ_X12_drives_73 v b a2 (v b 513) c i = if v b (448 + i.toNat) = -2 then (if f_X12_isPainting v a2 i = 0 then (if Q = 0 then v else fx_pt v b (448 + i.toNat) c) else fx_pt v b (448 + i.toNat) c) else v := by
    unfold kJ_X12_drives_73 kJ_X12_drives_113
    simp only [fz_lt, fz_ls, e448, ← w1]
  by_cases q1 : u (N 10) 0 = i ∨ u (N 10) 1 = i
  · rw [if_pos q1] at b1 b2
    refine ⟨f_X7_spoil u (N 0) i c, fun rc => ?_, ?_⟩
    · rw [eA rc, b1, if_neg zz_n10, ite_self]
    · rw [eB, b2, if_neg zz_n10]
      exact sp
  · rw [if_neg q1] at b1 b2
    rcases w2 with q2 | q2
    · refine ⟨u, fun rc => ?_, ?_⟩
      · rw [eA rc, b1, if_pos q2, if_pos rfl]
      · rw [eB, b2, if_pos rfl, if_pos q2, ite_self]
        exact zn_S.rf hR0
    · have q3 : ¬ Q = 0 := by omega
      refine ⟨f_X7_spoil u (N 0) i c, fun rc => ?_, ?_⟩
      · rw [eA rc, if_neg q3]
      · rw [eB, b2, if_pos rfl, if_neg q3]
        exact sp
theorem zn_drives (X : zn_X N la bk) (Y : zn_Y a2 b bq bf) (hP : zn_P N u) (h0 : v a2 0 = (b : Int)) (hR : zn_R N b D u v) (hD : 8 ≤ D ∧ D ≤ 64) (hc : 0 ≤ c ∧ c < 12) : ∃ w : fx_U, (∀ rc : Int → fx_U → fx_U, kB_X5_drive_2 rc (N 0) c u = rc (c + 1) w) ∧ zn_S N la bk a2 b bq bf D u v w (f_X12_drives v a2 c) := by
  have p13 := hP 13 (by decide) (by decide)
  have p14 := hP 14 (by decide) (by decide)
  have hR0 := hR
  obtain ⟨⟨⟨g1, g2⟩, g3, g4, g5, g6, g7⟩, hd, ⟨hA0, hA1⟩, hne, hC⟩ := hR
  have t3 : Int.toNat 513 = 513 := rfl
  have t2 : Int.toNat 512 = 512 := rfl
  have t4 : Int.toNat 524 = 524 := rfl
  have q1 : (537 + c).toNat = 537 + c.toNat := by omega
  have q2 : (525 + c).toNat = 525 + c.toNat := by omega
  have hcc : ((c.toNat : Nat) : Int) = c := Int.toNat_of_nonneg hc.1
  have h := hC c.toNat (by omega)
  unfold zn_C at h
  rw [hcc] at h
  obtain ⟨T, hT⟩ : ∃ T : Int, T = v b 513 := ⟨_, rfl⟩
  rw [← hT] at g5
  rcases h with ⟨k1, -, k2⟩ | ⟨k1, k2, k3, k4, k5, k6⟩
  · have eB : f_X12_drives v a2 c = v := by
      unfold f_X12_drives
      simp only [fz_lr, fz_lt, h0, Int.toNat_natCast, t4, k2]
      rw [if_pos trivial]
    rw [eB]
    refine ⟨u, fun rc => ?_, zn_S.rf hR0⟩
    unfold kB_X5_drive_2 kJ_X5_drive_89
    simp only [fz_lr, fz_lt, p13, p14, Int.toNat_natCast, k1]
    rw [if_pos hc.2, if_pos trivial]
  · obtain ⟨C, hC2⟩ : ∃ C : Int, C = u (N 14) c.toNat := ⟨_, rfl⟩
    rw [← hC2] at k4 k5 k6
    have s1 : fx_b_sub T C = T - C := zz_wsub (zz_sml ⟨by omega, by omega⟩) (zz_sml ⟨by omega, by omega⟩) (zz_sml ⟨by omega, by omega⟩)
    have n1 : ¬ u (N 13) c.toNat = -1 := by omega
    have eA : ∀ rc : Int → fx_U → fx_U, kB_X5_drive_2 rc (N 0) c u = if T - C < 0 then rc (c + 1) u else if u (N 13) c.toNat = 0 then kJ_X5_drive_58 u (N 0) c rc (T - C) else kJ_X5_drive_58 u (N 0) c rc (D - 1 - (T - C)) := fun rc => by
      unfold kB_X5_drive_2 kJ_X5_drive_89
      simp only [fz_lr, fz_lt, p13, p14, Int.toNat_natCast, g5, ← hC2, s1, g1]
      rw [if_pos hc.2, if_neg n1]
    have eB : f_X12_drives v a2 c = if T - C < 0 then v else if T - C < D then (if u (N 13) c.toNat = 0 then kJ_X12_drives_73 v b a2 (v b 513) c (T - C) else kJ_X12_drives_73 v b a2 (v b 513) c (D - 1 - (T - C))) else v := by
      unfold f_X12_drives f_X12_isDot
      simp only [fz_lr, fz_lt, h0, Int.toNat_natCast, t2, t3, t4, q1, q2, k2, g2, ← k3, ← k4, ← hT, s1]
      rw [if_neg zz_n10]
      by_cases c1 : T - C < 0
      · rw [if_pos c1, if_pos c1, if_pos rfl]
      · rw [if_neg c1, if_neg c1]
        by_cases c2 : T - C < D
        · rw [if_pos c2, if_pos c2, if_neg zz_n10]
        · rw [if_neg c2, if_neg c2, if_pos rfl]
    rw [eB]
    by_cases c1 : T - C < 0
    · rw [if_pos c1]
      exact ⟨u, fun rc => by rw [eA rc, if_pos c1], zn_S.rf hR0⟩
    · rw [if_neg c1]
      by_cases c2 : T - C < D
      · rw [if_pos c2]
        by_cases c3 : u (N 13) c.toNat = 0
        · rw [if_pos c3]
          obtain ⟨w, w1, w2⟩ := zn_dr (c := c) X Y hP h0 hR0 hD (i := T - C) ⟨by omega, c2⟩
          exact ⟨w, fun rc => by rw [eA rc, if_neg c1, if_pos c3, w1 rc], w2⟩
        · rw [if_neg c3]
          obtain ⟨w, w1, w2⟩ := zn_dr (c := c) X Y hP h0 hR0 hD (i := D - 1 - (T - C)) ⟨by omega, by omega⟩
          exact ⟨w, fun rc => by rw [eA rc, if_neg c1, if_neg c3, w1 rc], w2⟩
      · rw [if_neg c2]
        have far : ∀ (rc : Int → fx_U → fx_U) (i : Int), (i < 0 ∨ D ≤ i) → kJ_X5_drive_58 u (N 0) c rc i = rc (c + 1) u := fun rc i hi => by
          unfold kJ_X5_drive_58 kJ_X5_drive_89 f_X7_isDot
          simp only [fz_lt, g1]
          rcases hi with h | h
          · rw [if_pos h, if_pos rfl]
          · rw [if_neg (show ¬ i < 0 by omega), if_neg (show ¬ i < D by omega), if_pos rfl]
        refine ⟨u, fun rc => ?_, zn_S.rf hR0⟩
        rw [eA rc, if_neg c1, far rc _ (Or.inr (by omega)), far rc _ (Or.inl (by omega)), ite_self]
/-- all the cars, and then what comes behind them -/
theorem zn_cars (X : zn_X N la bk) (Y : zn_Y a2 b bq bf) (hD : 8 ≤ D ∧ D ≤ 64) : ∀ (f : Nat) (c : Int) (u v : fx_U), 12 - c < (f : Int) → 0 ≤ c → c ≤ 12 → zn_P N u → v a2 0 = (b : Int) → zn_R N b D u v → ∃ (w z : fx_U), kL_X5_drive_2 (N 0) f c u = w ∧ kL_X12_minuteGoes_22 a2 b f c v = (if z b 515 = z b 513 then kL_X12_minuteGoes_60 b a2 65 0 z else kJ_X12_minuteGoes_121 b z) ∧ zn_S N la bk a2 b bq bf D u v w z := by
  intro f
  induction f with
  | zero => intro c u v h1 h2 h3; omega
  | succ f ih =>
    intro c u v h1 h2 h3 hP h0 hR
    by_cases c1 : c < 12
    · obtain ⟨w1, e1, S1⟩ := zn_drives X Y hP h0 hR hD ⟨h2, c1⟩
      obtain ⟨w, z, e2, e3, S2⟩ := ih (c + 1) w1 (f_X12_drives v a2 c) (by omega) (by omega) (by omega) (hP.cs X S1.1) ((S1.2.1.2.1 0 (by decide)).trans h0) S1.2.2.2
      refine ⟨w, z, ?_, ?_, S1.tr S2⟩
      · show kB_X5_drive_2 (kL_X5_drive_2 (N 0) f) (N 0) c u = w
        rw [e1]
        exact e2
      · show kB_X12_minuteGoes_22 (kL_X12_minuteGoes_22 a2 b f) a2 b c v = _
        unfold kB_X12_minuteGoes_22
        simp only [fz_lt, fz_ls]
        rw [if_pos c1]
        exact e3
    · refine ⟨u, v, ?_, ?_, zn_S.rf hR⟩
      · show kB_X5_drive_2 (kL_X5_drive_2 (N 0) f) (N 0) c u = u
        unfold kB_X5_drive_2
        rw [if_neg c1]
      · show kB_X12_minuteGoes_22 (kL_X12_minuteGoes_22 a2 b f) a2 b c v = _
        unfold kB_X12_minuteGoes_22
        simp only [fz_lt, fz_ls, show Int.toNat 515 = 515 from rfl, show Int.toNat 513 = 513 from rfl, show Int.toNat (64 - 0) + 1 = 65 from rfl]
        rw [if_neg c1]
/-- dew on all dots -/
theorem zn_dew (X : zn_X N la bk) (Y : zn_Y a2 b bq bf) (hD : 8 ≤ D ∧ D ≤ 64) : ∀ (f : Nat) (i : Int) (u v : fx_U), D - i < (f : Int) → 0 < f → 0 ≤ i → zn_P N u → v a2 0 = (b : Int) → zn_R N b D u v → ∃ (w z : fx_U), kL_X5_letDewFall_14 (N 0) f i u = w ∧ kL_X12_minuteGoes_60 b a2 f i v = kJ_X12_minuteGoes_121 b z ∧ zn_S N la bk a2 b bq bf D u v w z := by
  intro f
  induction f with
  | zero => intro i u v h1 h2; omega
  | succ f ih =>
    intro i u v h1 _ h3 hP h0 hR
    have hR0 := hR
    obtain ⟨⟨⟨g1, g2⟩, g3, g4, g5, g6, g7⟩, hd, ⟨hA0, hA1⟩, hne, hC⟩ := hR
    have t3 : Int.toNat 513 = 513 := rfl
    have t2 : Int.toNat 512 = 512 := rfl
    have e448 : (448 + i).toNat = 448 + i.toNat := by omega
    by_cases c1 : i < D
    · obtain ⟨w1, w2, w3⟩ := zn_wet hP h0 (hd i.toNat (by omega)) h3 g5 ⟨by omega, by omega⟩
      obtain ⟨Q, hQ⟩ : ∃ Q : Int, Q = f_X7_isWet u (N 0) i := ⟨_, rfl⟩
      rw [← hQ] at w1 w2
      have eA : kL_X5_letDewFall_14 (N 0) (f + 1) i u = if Q = 0 then kL_X5_letDewFall_14 (N 0) f (i + 1) u else kL_X5_letDewFall_14 (N 0) f (i + 1) (f_X7_spoil u (N 0) i 12) := by
        show kB_X5_letDewFall_14 (kL_X5_letDewFall_14 (N 0) f) (N 0) i u = _
        unfold kB_X5_letDewFall_14 kJ_X5_letDewFall_37
        simp only [fz_lt, fz_ls, g1, ← hQ]
        rw [if_pos c1]
      have eB : kL_X12_minuteGoes_60 b a2 (f + 1) i v = if Q = 0 then kL_X12_minuteGoes_60 b a2 f (i + 1) v else kL_X12_minuteGoes_60 b a2 f (i + 1) (if v b (448 + i.toNat) = -2 then fx_pt v b (448 + i.toNat) 12 else v) := by
        show kB_X12_minuteGoes_60 (kL_X12_minuteGoes_60 b a2 f) b a2 i v = _
        unfold kB_X12_minuteGoes_60 kJ_X12_minuteGoes_115
        simp only [fz_lt, fz_ls, t2, t3, g2, e448, ← w1]
        rw [if_pos c1]
        by_cases q1 : v b (448 + i.toNat) = -2
        · simp only [if_pos q1]
        · simp only [if_neg q1, ite_self]
      rcases w2 with q | q
      · obtain ⟨w, z, e1, e2, S⟩ := ih (i + 1) u v (by omega) (by omega) (by omega) hP h0 hR0
        refine ⟨w, z, ?_, ?_, S⟩
        · rw [eA, if_pos q]
          exact e1
        · rw [eB, if_pos q]
          exact e2
      · have q3 : ¬ Q = 0 := by omega
        have sp := zn_sp (x := 12) X Y hP hR0 (i := i) ⟨h3, by omega⟩
        obtain ⟨w, z, e1, e2, S⟩ := ih (i + 1) _ _ (by omega) (by omega) (by omega) (hP.cs X sp.1) ((sp.2.1.2.1 0 (by decide)).trans h0) sp.2.2.2
        refine ⟨w, z, ?_, ?_, sp.tr S⟩
        · rw [eA, if_neg q3]
          exact e1
        · rw [eB, if_neg q3]
          exact e2
    · refine ⟨u, v, ?_, ?_, zn_S.rf hR0⟩
      · show kB_X5_letDewFall_14 (kL_X5_letDewFall_14 (N 0) f) (N 0) i u = u
        unfold kB_X5_letDewFall_14
        simp only [fz_lt, g1]
        rw [if_neg c1]
      · show kB_X12_minuteGoes_60 (kL_X12_minuteGoes_60 b a2 f) b a2 i v = _
        unfold kB_X12_minuteGoes_60
        simp only [fz_lt, t2, g2]
        rw [if_neg c1]
end Drives
