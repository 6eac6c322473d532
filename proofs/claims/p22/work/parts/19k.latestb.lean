/-! THE LATEST MINUTE, whole -/
section Latestb
variable {K J : Nat → Nat} {A B : Int → Int → Int → Int} {D m x am : Int} {u v w z : fx_U} {a1 : Nat}
theorem zp_ca.tr (h : zp_ca K u w) (k : zp_ca K w z) : zp_ca K u z := ⟨fun b h0 h1 h3 h4 h5 h6 i => (k.1 b h0 h1 h3 h4 h5 h6 i).trans (h.1 b h0 h1 h3 h4 h5 h6 i), fun j hj => (k.2.1 j hj).trans (h.2.1 j hj), fun j hj => (k.2.2 j hj).trans (h.2.2 j hj)⟩
theorem zp_qc.mv (h : zp_qc K A B D u) (k : zp_ca K u w) : zp_qc K A B D w := fun y hy i t p i0 i1 p01 => h y (k.tr hy) i t p i0 i1 p01
theorem zq_latest (hK : zp_dis 7 K) (hJ : zp_dis 9 J) (hqc : zp_qc K A B D u) (hqr : zp_qr J A B D v) (hb : zp_bd A B D) (hpc : zp_pc K u) (hpr : zp_pr J v) (hD : 8 ≤ D ∧ D ≤ 64) (hu : u (K 2) 0 = D) (h9 : v (J 0) 0 = (J 9 : Int)) (n9 : ∀ i : Nat, i < 9 → J 9 ≠ J i) (hv : v (J 9) 512 = D) (ha : u a1 9 = (K 3 : Int) ∧ u a1 5 = (K 2 : Int) ∧ u a1 4 = (K 0 : Int)) (na : a1 ≠ K 0 ∧ a1 ≠ K 1 ∧ a1 ≠ K 3 ∧ a1 ≠ K 4 ∧ a1 ≠ K 5 ∧ a1 ≠ K 6) (ham : u (K 0) 2 = am) (hA : am = 0 → ∀ i t p : Int, 0 ≤ i → i < D → A i t p = A i 0 p ∧ B i t p = B i 0 p) : (f_X11_latest u a1 x).1 = (f_X12_latest v (J 0) x).1 := by
  obtain ⟨dd, hdd⟩ : ∃ dd : Int → Int, dd = fun m => f_X12_allDry (f_X12_paintsBare v (J 0) m m) (J 0) := ⟨_, rfl⟩
  have k2n : ∀ w : fx_U, zp_ca K u w → w (K 2) 0 = D := fun w hw => (hw.1 (K 2) (hK 2 0 (by decide) (by decide) (by decide)) (hK 2 1 (by decide) (by decide) (by decide)) (hK 2 3 (by decide) (by decide) (by decide)) (hK 2 4 (by decide) (by decide) (by decide)) (hK 2 5 (by decide) (by decide) (by decide)) (hK 2 6 (by decide) (by decide) (by decide)) 0).trans hu
  have dC : ∀ w : fx_U, zp_ca K u w → ∀ m : Int, 0 ≤ m → m ≤ 600 → f_X6_paint w (K 3) (K 2) (K 0) m m (K 3) 3 = dd m ∧ zp_ca K u (f_X6_paint w (K 3) (K 2) (K 0) m m) := by
    intro w hw m m0 m1
    have hF := zp_paint hK hJ (hqc.mv hw) hqr hb ⟨(hw.2.2 0 (by decide)).trans hpc.1, (hw.2.2 1 (by decide)).trans hpc.2.1, (hw.2.2 2 (by decide)).trans hpc.2.2⟩ hpr hD ⟨m0, m1⟩ ⟨m0, m1⟩ (k2n w hw) h9 ⟨n9 0 (by decide), n9 7 (by decide)⟩ hv
    refine ⟨?_, hw.tr hF.1⟩
    rw [hdd]
    exact (zp_all hF hJ hpr h9 n9 hv hD.2).symm
  have dR : ∀ z : fx_U, zp_ra J v z → ∀ m : Int, 0 ≤ m → m ≤ 600 → ∃ y : fx_U, f_X12_dryFrom z (J 0) m = (dd m, y) ∧ zp_ra J v y := by
    intro z hz m m0 m1
    have w9 : z (J 0) 0 = (J 9 : Int) := (hz.2 0 (by decide)).trans h9
    have wv : z (J 9) 512 = D := (hz.1 (J 9) (n9 0 (by decide)) (n9 1 (by decide)) (n9 2 (by decide)) (n9 3 (by decide)) (n9 4 (by decide)) (n9 5 (by decide)) (n9 6 (by decide)) (n9 7 (by decide)) (n9 8 (by decide)) 512).trans hv
    have wp : zp_pr J z := ⟨⟨(hz.2 33 (by decide)).trans hpr.1.1, (hz.2 34 (by decide)).trans hpr.1.2.1, (hz.2 35 (by decide)).trans hpr.1.2.2.1, (hz.2 36 (by decide)).trans hpr.1.2.2.2⟩, (hz.2 37 (by decide)).trans hpr.2.1, (hz.2 38 (by decide)).trans hpr.2.2⟩
    have hF := zp_paint hK hJ hqc (hqr.mv hz) hb hpc wp hD ⟨m0, m1⟩ ⟨m0, m1⟩ hu w9 ⟨n9 0 (by decide), n9 7 (by decide)⟩ wv
    refine ⟨f_X12_paintsBare z (J 0) m m, ?_, hz.tr hF.2.1⟩
    unfold f_X12_dryFrom
    simp only [fz_ls, fz_lt]
    rw [zp_all hF hJ wp w9 n9 wv hD.2, (dC u zp_ca.rf m m0 m1).1]
  have bnd : ∀ m : Int, 0 ≤ m → m ≤ 600 → 2 * m + D ≤ 2 * dd m := by
    intro m m0 m1
    obtain ⟨w, e1, e2, e3, e4, e5⟩ := zq_p0 (m := m) hK hpc ⟨by omega, hD.2⟩ hu
    have r := zq_run hK hqc hb hpc ⟨by omega, hD.2⟩ ⟨m0, m1⟩ 65 0 (D - 1) w (by omega) ⟨by decide, by omega, by omega⟩ e2 ⟨⟨⟨by omega, by omega⟩, by omega, by omega, by omega⟩, ⟨fun q => by omega, fun q => by omega, fun _ => e3, fun _ => e4⟩, fun _ => e5, by omega⟩
    rw [← e1, (dC u zp_ca.rf m m0 m1).1] at r
    exact r
  have shf : am = 0 → ∀ m : Int, 0 ≤ m → m ≤ 600 → dd m = dd 0 + m := by
    intro h m m0 m1
    obtain ⟨w, e1, e2, e3, e4, e5⟩ := zq_p0 (m := 0) hK hpc ⟨by omega, hD.2⟩ hu
    obtain ⟨w', f1, f2, f3, f4, f5⟩ := zq_p0 (m := m) hK hpc ⟨by omega, hD.2⟩ hu
    have r := zq_sh hK hqc hb hpc ⟨by omega, hD.2⟩ ⟨m0, m1⟩ (hA h) 65 0 (D - 1) w w' (by omega) ⟨by decide, by omega, by omega⟩ e2 f2 ⟨by omega, by omega⟩ ⟨by omega, by omega⟩ ⟨by omega, by omega⟩ (Or.inl ⟨rfl, rfl, e5, f5⟩)
    rw [← e1, ← f1, (dC u zp_ca.rf m m0 m1).1, (dC u zp_ca.rf 0 (by decide) (by decide)).1] at r
    exact r
  have lR : ∀ (f : Nat) (m : Int) (z : fx_U), m ≤ 600 → zp_ra J v z → (kL_X12_latest_15 (J 0) x f m z).1 = zq_L dd x f m := by
    intro f
    induction f with
    | zero => intro m z _ _; rfl
    | succ f ih =>
      intro m z hm hz
      show (kB_X12_latest_15 (kL_X12_latest_15 (J 0) x f) (J 0) x m z).1 = _
      unfold kB_X12_latest_15 kJ_X12_latest_35 zq_L
      by_cases c : m < 0
      · simp only [if_pos c]
      · obtain ⟨y, y1, y2⟩ := dR z hz m (by omega) hm
        simp only [if_neg c, fz_lc, fz_lt, y1]
        by_cases c2 : x < dd m
        · simp only [if_pos c2]
          exact ih (m - 1) y (by omega) y2
        · simp only [if_neg c2]
  have lC : ∀ (f : Nat) (m : Int) (w : fx_U), m ≤ 600 → zp_ca K u w → (kL_X11_latest_82 a1 (K 2) (K 0) x f m w).1 = zq_L dd x f m := by
    intro f
    induction f with
    | zero => intro m w _ _; rfl
    | succ f ih =>
      intro m w hm hw
      have w9 : w a1 9 = (K 3 : Int) := (hw.1 a1 na.1 na.2.1 na.2.2.1 na.2.2.2.1 na.2.2.2.2.1 na.2.2.2.2.2 9).trans ha.1
      show (kB_X11_latest_82 (kL_X11_latest_82 a1 (K 2) (K 0) x f) a1 (K 2) (K 0) x m w).1 = _
      unfold kB_X11_latest_82 zq_L
      by_cases c : m < 0
      · simp only [if_pos c]
      · obtain ⟨y1, y2⟩ := dC w hw m (by omega) hm
        simp only [if_neg c, fz_lr, fz_ls, fz_lt, w9, Int.toNat_natCast, y1]
        by_cases c2 : x < dd m
        · simp only [if_pos c2]
          rw [show m + -1 = m - 1 by omega]
          exact ih (m - 1) _ (by omega) y2
        · simp only [if_neg c2]
  unfold f_X11_latest f_X12_latest
  simp only [fz_lt, fz_lr, fz_ls, zz_is, zz_is2, ha.1, ha.2.1, ha.2.2, Int.toNat_natCast, ham, hu]
  by_cases c1 : 0 ≤ x ∧ x ≤ 600
  · simp only [if_pos c1, if_neg zz_n10]
    rw [lR (Int.toNat (x - -1) + 1) x v c1.2 zp_ra.rf]
    by_cases c2 : am = 0
    · have sh := shf c2
      have d0 := bnd 0 (by decide) (by decide)
      obtain ⟨y1, -⟩ := dC u zp_ca.rf 0 (by decide) (by decide)
      have res := zq_Ls (dd := dd) (b := x) (m0 := x - dd 0) (fun m h1 h2 h3 => by
        rw [sh m h1 (by omega)]
        omega) (dd 0).toNat (Int.toNat (x - -1) + 1) x (by omega) (by omega) (Int.le_refl x) (by omega) (by omega)
      rw [res]
      simp only [if_pos c2, y1]
      by_cases c3 : x < dd 0
      · simp only [if_pos c3]
        rw [if_pos (by omega)]
      · simp only [if_neg c3]
        have sb : fx_b_sub x (dd 0) = x - dd 0 := zz_wsub (zz_sml ⟨by omega, by omega⟩) (zz_sml ⟨by omega, by omega⟩) (zz_sml ⟨by omega, by omega⟩)
        rw [if_neg (by omega), sb]
        unfold zq_L
        rw [if_neg (by omega), sh (x - dd 0) (by omega) (by omega), if_neg (by omega)]
    · have res := zq_Ls (dd := dd) (b := x) (m0 := x - (D + 1) / 2) (fun m h1 h2 h3 => by
        have := bnd m h1 (by omega)
        omega) ((D + 1) / 2).toNat (Int.toNat (x - -1) + 1) x (by omega) (by omega) (Int.le_refl x) (by omega) (by omega)
      rw [res]
      simp only [if_neg c2]
      rw [lC _ (x - (D + 1) / 2) u (by omega) zp_ca.rf]
      by_cases c3 : x - (D + 1) / 2 < 0
      · rw [if_pos c3]
        unfold zq_L
        rw [if_pos c3]
      · rw [if_neg c3]
        exact zq_Lf _ _ _ (by omega) (by omega) (by omega) (by omega)
  · simp only [if_neg c1, if_true]
end Latestb
