/-! TO MEET: both say alike -/
section Meet
variable {K J N : Nat → Nat} {A B : Int → Int → Int → Int} {D : Int} {u v : fx_U}
theorem zp_meet {a1 : Nat} {x y t : Int} (hK : zp_dis 7 K) (hJ : zp_dis 9 J) (hqc : zp_qc K A B D u) (hqr : zp_qr J A B D v) (hb : zp_bd A B D) (hpc : zp_pc K u) (hpr : zp_pr J v) (hD : 8 ≤ D ∧ D ≤ 64) (hu : u (K 2) 0 = D) (h9 : v (J 0) 0 = (J 9 : Int)) (n9 : ∀ i : Nat, i < 9 → J 9 ≠ J i) (hv : v (J 9) 512 = D) (ha : u a1 9 = (K 3 : Int) ∧ u a1 5 = (K 2 : Int) ∧ u a1 4 = (K 0 : Int)) (e0 : N 0 = K 2) (hP : zn_P N u) (hR : zn_R N (J 9) D u v) (hrow : ∀ k : Nat, k < 64 → u (N 1) k = v (J 9) k) (nN : ∀ k : Nat, (k = 1 ∨ k = 12) → N k ≠ K 0 ∧ N k ≠ K 1 ∧ N k ≠ K 3 ∧ N k ≠ K 4 ∧ N k ≠ K 5 ∧ N k ≠ K 6) : (f_X11_meet u a1 x y t).1 = (f_X12_meet v (J 0) x y t).1 := by
  unfold f_X11_meet f_X12_meet
  simp only [fz_lt, fz_lr, fz_ls, zz_is, zz_is2, ha.1, ha.2.1, ha.2.2, Int.toNat_natCast]
  by_cases c1 : 0 ≤ x ∧ x ≤ 600
  · by_cases c2 : 0 ≤ y ∧ y ≤ 600
    · by_cases c3 : 0 ≤ t ∧ t ≤ 2
      · simp only [if_pos c1, if_pos c2, if_pos c3, if_neg zz_n10]
        have hF := zp_paint hK hJ hqc hqr hb hpc hpr hD c1 c2 hu h9 ⟨n9 0 (by decide), n9 7 (by decide)⟩ hv
        obtain ⟨W, hW⟩ : ∃ W : fx_U, W = f_X6_paint u (K 3) (K 2) (K 0) x y := ⟨_, rfl⟩
        obtain ⟨Z, hZ⟩ : ∃ Z : fx_U, Z = f_X12_paintsBare v (J 0) x y := ⟨_, rfl⟩
        rw [← hW, ← hZ] at hF ⊢
        obtain ⟨kw, kz, hd, -, ⟨l4, -⟩, hh⟩ := hF
        have k2 : ∀ i : Nat, W (K 2) i = u (K 2) i := kw.1 (K 2) (hK 2 0 (by decide) (by decide) (by decide)) (hK 2 1 (by decide) (by decide) (by decide)) (hK 2 3 (by decide) (by decide) (by decide)) (hK 2 4 (by decide) (by decide) (by decide)) (hK 2 5 (by decide) (by decide) (by decide)) (hK 2 6 (by decide) (by decide) (by decide))
        have kN : ∀ k : Nat, (k = 1 ∨ k = 12) → ∀ i : Nat, W (N k) i = u (N k) i := fun k hk i => by
          obtain ⟨q0, q1, q3, q4, q5, q6⟩ := nN k hk
          exact kw.1 (N k) q0 q1 q3 q4 q5 q6 i
        have k9 : ∀ i : Nat, Z (J 9) i = v (J 9) i := kz.1 (J 9) (n9 0 (by decide)) (n9 1 (by decide)) (n9 2 (by decide)) (n9 3 (by decide)) (n9 4 (by decide)) (n9 5 (by decide)) (n9 6 (by decide)) (n9 7 (by decide)) (n9 8 (by decide))
        have z0 : Z (J 0) 0 = (J 9 : Int) := (kz.2 0 (by decide)).trans h9
        have z34 : Z (J 0) 34 = (J 4 : Int) := (kz.2 34 (by decide)).trans hpr.1.2.1
        have z512 : Z (J 9) 512 = D := (k9 512).trans hv
        obtain ⟨h, hh0⟩ : ∃ h : Int, h = W (K 3) 6 := ⟨_, rfl⟩
        rw [← hh0] at hh ⊢
        have hby : ∀ j : Nat, (j : Int) < D → ((j : Int) ≤ h → Z (J 4) j = 0) ∧ (h < (j : Int) → Z (J 4) j = 1) := fun j hj => by
          obtain ⟨-, -, -, q1, q2, -⟩ := hd j hj
          rw [hh0]
          exact ⟨q1, q2⟩
        -- the reference's loop ends at the highest dot of party 0
        have loop : ∀ (f : Nat) (i : Int), h - i < (f : Int) → -1 ≤ i → i ≤ h → kL_X12_meet_52 Z (J 0) t f i = kJ_X12_meet_88 t h Z (h + 1) D (J 9) := by
          intro f
          induction f with
          | zero => intro i h1 h2 h3; omega
          | succ f ih =>
            intro i h1 h2 h3
            show kB_X12_meet_52 (kL_X12_meet_52 Z (J 0) t f) Z (J 0) t i = _
            unfold kB_X12_meet_52
            simp only [fz_lt, fz_lr, z0, Int.toNat_natCast, show Int.toNat 512 = 512 from rfl, z512, z34]
            by_cases g : i + 1 < D
            · rw [if_pos g]
              obtain ⟨b1, b2⟩ := hby (i + 1).toNat (by omega)
              by_cases e : i + 1 ≤ h
              · rw [if_pos (b1 (by omega))]
                exact ih (i + 1) (by omega) (by omega) e
              · have q : ¬ Z (J 4) (i + 1).toNat = 0 := by
                  have := b2 (by omega)
                  omega
                rw [if_neg q, show i = h by omega]
            · rw [if_neg g, show i = h by omega]
        have lp := loop 65 (-1) (by omega) (by decide) hh.1
        rw [show Int.toNat (63 - (-1)) + 1 = 65 from rfl]
        by_cases t1 : t = 1
        · simp only [if_pos t1]
          exact l4
        · simp only [if_neg t1]
          rw [lp]
          unfold kJ_X12_meet_88
          by_cases t0 : t = 0
          · simp only [if_pos t0]
            by_cases g : h < 0
            · rw [if_pos g, if_pos (show h = -1 by omega)]
            · rw [if_neg g, if_neg (show ¬ h = -1 by omega)]
          · simp only [if_neg t0]
            by_cases g : h < 0
            · rw [if_pos g, if_pos (show h = -1 by omega)]
            · rw [if_neg g, if_neg (show ¬ h = -1 by omega)]
              simp only [fz_lt, fz_lr, k2, hu]
              by_cases g2 : h < D - 1
              · rw [if_pos g2, if_neg (show ¬ h + 1 = D by omega)]
                have p1 := hP 1 (by decide) (by decide)
                have p12 := hP 12 (by decide) (by decide)
                rw [e0] at p1 p12
                have A0 : u (N 12) 0 = v (J 9) 518 := hR.2.2.1.1.2.1.1
                have A1 : u (N 12) 1 = v (J 9) 519 := hR.2.2.1.2.2.1.1
                have off : ∀ (p i : Int), f_X7_offsetBy W (K 2) p i = f_X12_held Z (fx_b_add (u (N 1) i.toNat) (u (N 12) p.toNat)) := fun p i => by
                  unfold f_X7_offsetBy
                  simp only [fz_lt, fz_lr, k2, p1, p12, Int.toNat_natCast, kN 1 (Or.inl rfl), kN 12 (Or.inr rfl)]
                  exact (zn_hel W Z).1
                have sz : ∀ a : Int, f_J9_abs_0f7a4 W a = f_X12_size Z a := fun _ => rfl
                have r1 := hrow h.toNat (by omega)
                have r2 := hrow (h + 1).toNat (by omega)
                rw [off, off, sz, Int.zero_add, k9, k9, k9, k9, r1, r2, show Int.toNat 0 = 0 from rfl, show Int.toNat 1 = 1 from rfl, show Int.toNat 518 = 518 from rfl, show Int.toNat 519 = 519 from rfl, ← A0, ← A1]
              · rw [if_neg g2, if_pos (show h + 1 = D by omega)]
      · simp only [if_pos c1, if_pos c2, if_neg c3, if_neg zz_n10, if_true]
    · simp only [if_pos c1, if_neg c2, if_neg zz_n10, if_true]
  · simp only [if_neg c1, if_true]
end Meet
