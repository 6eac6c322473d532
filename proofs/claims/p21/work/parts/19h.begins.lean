/-! BEGINS: both say alike -/
section Beg
variable {K J : Nat → Nat} {A B : Int → Int → Int → Int} {D x1 x2 : Int} {u v W Z : fx_U}
/-- how many cones -/
theorem zp_con (hF : zp_F K J D u v W Z) (hpc : zp_pc K u) (hpr : zp_pr J v) (h9 : v (J 0) 0 = (J 9 : Int)) (n9 : ∀ i : Nat, i < 9 → J 9 ≠ J i) (hv : v (J 9) 512 = D) (hD : D ≤ 64) : f_X6_conesNeeded W (K 3) D = f_X12_conesFor Z (J 0) := by
  obtain ⟨kw, kz, hd, -, -, -⟩ := hF
  have T5 : Int.toNat 512 = 512 := rfl
  have e0 : Z (J 0) 0 = (J 9 : Int) := (kz.2 0 (by decide)).trans h9
  have e1 : Z (J 9) 512 = D := (kz.1 (J 9) (n9 0 (by decide)) (n9 1 (by decide)) (n9 2 (by decide)) (n9 3 (by decide)) (n9 4 (by decide)) (n9 5 (by decide)) (n9 6 (by decide)) (n9 7 (by decide)) (n9 8 (by decide)) 512).trans hv
  have e3 : Z (J 0) 33 = (J 3 : Int) := (kz.2 33 (by decide)).trans hpr.1.1
  have e5 : Z (J 0) 35 = (J 5 : Int) := (kz.2 35 (by decide)).trans hpr.1.2.2.1
  have e6 : Z (J 0) 36 = (J 6 : Int) := (kz.2 36 (by decide)).trans hpr.1.2.2.2
  have q0 : W (K 3) 0 = (K 4 : Int) := (kw.2.2 0 (by decide)).trans hpc.1
  have q1 : W (K 3) 1 = (K 5 : Int) := (kw.2.2 1 (by decide)).trans hpc.2.1
  have inn : ∀ (rc rr : Int → Int → Int) (k m : Int), 0 ≤ k → k < D → (∀ x y : Int, k < y → rc x y = rr x y) → ∀ (f : Nat) (a i : Int), D - i < (f : Int) → 0 ≤ i → kL_X6_conesNeeded_15 D W (K 3) k m rc f a i = kL_X12_conesFor_21 D Z (J 0) k m rr f a i := by
    intro rc rr k m k0 kD hr f
    induction f with
    | zero =>
      intro a i hf i0
      rfl
    | succ f ih =>
      intro a i hf i0
      show kB_X6_conesNeeded_15 (kL_X6_conesNeeded_15 D W (K 3) k m rc f) D W (K 3) k m rc a i = kB_X12_conesFor_21 (kL_X12_conesFor_21 D Z (J 0) k m rr f) D Z (J 0) k m rr a i
      unfold kB_X6_conesNeeded_15 kB_X12_conesFor_21 kJ_X6_conesNeeded_59 kJ_X6_conesNeeded_60 kJ_X12_conesFor_81 kJ_X12_conesFor_82
      simp only [fz_lt, fz_lr, q0, q1, e3, e5, e6, Int.toNat_natCast]
      by_cases g : i < D
      · obtain ⟨b1, b2, b3, -⟩ := hd i.toNat (by omega)
        obtain ⟨c1, -⟩ := hd k.toNat (by omega)
        have mx : f_X12_max Z (Z (J 3) i.toNat) (Z (J 6) i.toNat) = Z (J 6) i.toNat := by
          unfold f_X12_max
          by_cases q : Z (J 6) i.toNat < Z (J 3) i.toNat
          · omega
          · rw [if_neg q]
        simp only [if_pos g, b1, b2, c1, mx]
        by_cases g2 : Z (J 5) k.toNat < Z (J 5) i.toNat
        · simp only [if_pos g2]
          exact ih _ (i + 1) (by omega) (by omega)
        · by_cases g3 : Z (J 5) k.toNat < Z (J 6) i.toNat
          · simp only [if_neg g2, if_pos g3]
            exact ih _ (i + 1) (by omega) (by omega)
          · simp only [if_neg g2, if_neg g3]
            exact ih _ (i + 1) (by omega) (by omega)
      · simp only [if_neg g, zm_max (u1 := W) (u2 := Z)]
        exact hr _ _ (by omega)
  have out : ∀ (f : Nat) (m k : Int), D - k < (f : Int) → 0 ≤ k → kL_X6_conesNeeded_4 D W (K 3) f m k = kL_X12_conesFor_4 Z (J 0) f m k := by
    intro f
    induction f with
    | zero =>
      intro m k hf k0
      rfl
    | succ f ih =>
      intro m k hf k0
      show kB_X6_conesNeeded_4 (kL_X6_conesNeeded_4 D W (K 3) f) D W (K 3) m k = kB_X12_conesFor_4 (kL_X12_conesFor_4 Z (J 0) f) Z (J 0) m k
      unfold kB_X6_conesNeeded_4 kB_X12_conesFor_4
      simp only [fz_lt, fz_lr, e0, Int.toNat_natCast, T5, e1, show Int.toNat (64 - 0) + 1 = 65 from rfl]
      by_cases g : k < D
      · rw [if_pos g, if_pos g]
        exact inn _ _ k m k0 g (fun x y hy => ih x y (by omega) (by omega)) 65 0 0 (by omega) (by decide)
      · rw [if_neg g, if_neg g]
  unfold f_X6_conesNeeded f_X12_conesFor
  rw [show Int.toNat (64 - 0) + 1 = 65 from rfl]
  exact out 65 0 0 (by omega) (by decide)
/-- begins -/
theorem zp_begins {a1 : Nat} {x y : Int} (hK : zp_dis 7 K) (hJ : zp_dis 9 J) (hqc : zp_qc K A B D u) (hqr : zp_qr J A B D v) (hb : zp_bd A B D) (hpc : zp_pc K u) (hpr : zp_pr J v) (hD : 8 ≤ D ∧ D ≤ 64) (hu : u (K 2) 0 = D) (h9 : v (J 0) 0 = (J 9 : Int)) (n9 : ∀ i : Nat, i < 9 → J 9 ≠ J i) (hv : v (J 9) 512 = D) (ha : u a1 9 = (K 3 : Int) ∧ u a1 5 = (K 2 : Int) ∧ u a1 4 = (K 0 : Int)) : (f_X11_begins u a1 x y).1 = (f_X12_begins v (J 0) x y).1 := by
  unfold f_X11_begins f_X12_begins
  simp only [fz_lt, fz_lr, fz_ls, zz_is, zz_is2, ha.1, ha.2.1, ha.2.2, Int.toNat_natCast]
  by_cases c1 : 0 ≤ x ∧ x ≤ 600
  · by_cases c2 : 0 ≤ y ∧ y ≤ 2
    · simp only [if_pos c1, if_pos c2, if_neg zz_n10]
      have hF := zp_paint hK hJ hqc hqr hb hpc hpr hD c1 c1 hu h9 ⟨n9 0 (by decide), n9 7 (by decide)⟩ hv
      obtain ⟨W, hW⟩ : ∃ W : fx_U, W = f_X6_paint u (K 3) (K 2) (K 0) x x := ⟨_, rfl⟩
      obtain ⟨Z, hZ⟩ : ∃ Z : fx_U, Z = f_X12_paintsBare v (J 0) x x := ⟨_, rfl⟩
      rw [← hW, ← hZ] at hF ⊢
      have k20 : W (K 2) 0 = D := (hF.1.1 (K 2) (hK 2 0 (by decide) (by decide) (by decide)) (hK 2 1 (by decide) (by decide) (by decide)) (hK 2 3 (by decide) (by decide) (by decide)) (hK 2 4 (by decide) (by decide) (by decide)) (hK 2 5 (by decide) (by decide) (by decide)) (hK 2 6 (by decide) (by decide) (by decide)) 0).trans hu
      by_cases y0 : y = 0
      · simp only [if_pos y0]
        exact (zp_all hF hJ hpr h9 n9 hv hD.2).symm
      · by_cases y1 : y = 1
        · simp only [if_neg y0, if_pos y1, k20]
          exact zp_con hF hpc hpr h9 n9 hv hD.2
        · simp only [if_neg y0, if_neg y1]
          exact hF.2.2.2.2.1.2
    · simp only [if_pos c1, if_neg c2, if_neg zz_n10, if_true]
  · simp only [if_neg c1, if_true]
end Beg
