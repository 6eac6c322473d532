/-! HOW LIKELY ALL IS DRY: the sums, and all of it -/
section Oddsb
variable {K J : Nat → Nat} {A B : Int → Int → Int → Int} {D x1 x2 x3 x4 M t : Int} {u v W Z : fx_U} {a1 a2 ta tb pl : Nat} {T : Nat → Int}
theorem zo_loop (h0 : W a1 0 = (ta : Int)) (h3 : W pl 3 = M) (hW : ∀ i : Nat, (i : Int) < x3 → W ta i = T i) (g3 : Z a2 3 = (tb : Int)) (hZ : ∀ i : Nat, (i : Int) < x3 → fx_b_and (Z tb i) 255 = T i) (hT : ∀ i : Nat, (i : Int) < x3 → 0 ≤ T i ∧ T i ≤ 255) (hx3 : x3 ≤ 40) : ∀ (f : Nat) (k a b : Int), x3 - k < (f : Int) → 0 ≤ k → k ≤ x3 → (0 ≤ a ∧ a ≤ b) → b ≤ 255 * k → (kL_X11_dewOdds_78 x3 W a1 pl x2 x4 f a b k).1 = (kL_X12_dewOdds_73 x3 Z a2 x2 M x4 f b a k).1 := by
  intro f
  induction f with
  | zero => intro k a b h _ h1; omega
  | succ f ih =>
    intro k a b hf k0 k1 hab hb
    show (kB_X11_dewOdds_78 (kL_X11_dewOdds_78 x3 W a1 pl x2 x4 f) x3 W a1 pl x2 x4 a b k).1 = (kB_X12_dewOdds_73 (kL_X12_dewOdds_73 x3 Z a2 x2 M x4 f) x3 Z a2 x2 M x4 b a k).1
    unfold kB_X11_dewOdds_78 kB_X12_dewOdds_73 kJ_X11_dewOdds_122 kJ_X12_dewOdds_121
    simp only [fz_lt, fz_lr, fz_ls, h0, g3, h3, Int.toNat_natCast]
    by_cases g : k < x3
    · have e1 := hW k.toNat (by omega)
      have e2 := hZ k.toNat (by omega)
      have e3 := hT k.toNat (by omega)
      have s1 : fx_b_add b (T k.toNat) = b + T k.toNat := zz_wadd (zz_sml ⟨by omega, by omega⟩) (zz_sml ⟨by omega, by omega⟩) (zz_sml ⟨by omega, by omega⟩)
      have s2 : fx_b_add a 0 = a + 0 := zz_wadd (zz_sml ⟨by omega, by omega⟩) (zz_sml ⟨by decide, by decide⟩) (zz_sml ⟨by omega, by omega⟩)
      have s3 : fx_b_add a (T k.toNat) = a + T k.toNat := zz_wadd (zz_sml ⟨by omega, by omega⟩) (zz_sml ⟨by omega, by omega⟩) (zz_sml ⟨by omega, by omega⟩)
      simp only [if_pos g, e1, e2, s1, s2, s3]
      by_cases g2 : x2 + k < M
      · simp only [if_pos g2]
        exact ih (k + 1) (a + 0) (b + T k.toNat) (by omega) (by omega) (by omega) ⟨by omega, by omega⟩ (by omega)
      · simp only [if_neg g2]
        exact ih (k + 1) (a + T k.toNat) (b + T k.toNat) (by omega) (by omega) (by omega) ⟨by omega, by omega⟩ (by omega)
    · simp only [if_neg g]
      by_cases b0 : b = 0
      · rw [if_neg (show ¬ 0 < b by omega), if_pos b0]
      · obtain ⟨d1, d2⟩ := zo_div (q := fx_pt W a1 1 0) hab ⟨show 0 < b by omega, by omega⟩
        have d3 : f_X12_gcd (fx_pt W a1 1 0) a b = f_X12_gcd Z a b := rfl
        rw [if_pos (show 0 < b by omega), if_neg b0, d1, d3]
        by_cases c : x4 = 0
        · rw [if_pos c, if_pos c]
          exact Int.tdiv_eq_ediv_of_nonneg hab.1
        · rw [if_neg c, if_neg c]
theorem zo_odds (hK : zp_dis 7 K) (hJ : zp_dis 9 J) (hqc : zp_qc K A B D u) (hqr : zp_qr J A B D v) (hb : zp_bd A B D) (hpc : zp_pc K u) (hpr : zp_pr J v) (hD : 8 ≤ D ∧ D ≤ 64) (hu : u (K 2) 0 = D) (h9 : v (J 0) 0 = (J 9 : Int)) (n9 : ∀ i : Nat, i < 9 → J 9 ≠ J i) (hv : v (J 9) 512 = D) (ha : u a1 9 = (K 3 : Int) ∧ u a1 5 = (K 2 : Int) ∧ u a1 4 = (K 0 : Int)) (na : a1 ≠ K 0 ∧ a1 ≠ K 1 ∧ a1 ≠ K 3 ∧ a1 ≠ K 4 ∧ a1 ≠ K 5 ∧ a1 ≠ K 6) (nt : ta ≠ K 0 ∧ ta ≠ K 1 ∧ ta ≠ K 3 ∧ ta ≠ K 4 ∧ ta ≠ K 5 ∧ ta ≠ K 6) (ntb : ∀ i : Nat, i < 9 → tb ≠ J i) (tp : zz_tp u v a1 (J 0) ta tb t) (hvb : ∀ i : Nat, i < 260 → -128 ≤ v tb i ∧ v tb i ≤ 127) (ht : t ≤ 260) : (f_X11_dewOdds u a1 x1 x2 x3 x4).1 = (f_X12_dewOdds v (J 0) x1 x2 x3 x4).1 := by
  obtain ⟨⟨t1, t2⟩, ⟨t3, t4⟩, t5⟩ := tp
  unfold f_X11_dewOdds f_X12_dewOdds f_X12_dryFrom
  simp only [fz_lt, fz_lr, fz_ls, fz_lc, zz_is, zz_is2, t1, t2, ha.1, ha.2.1, ha.2.2, Int.toNat_natCast]
  by_cases c1 : 0 ≤ x1 ∧ x1 ≤ 600
  · by_cases c2 : 0 ≤ x2 ∧ x2 ≤ 9999
    · by_cases c3 : 1 ≤ x3 ∧ x3 ≤ 40
      · by_cases c4 : 0 ≤ x4 ∧ x4 ≤ 1
        · by_cases c5 : t < x3
          · simp only [if_pos c1, if_pos c2, if_pos c3, if_pos c4, if_neg zz_n10, if_pos c5]
          · simp only [if_pos c1, if_pos c2, if_pos c3, if_pos c4, if_neg zz_n10, if_neg c5, show Int.toNat (40 - 0) + 1 = 41 from rfl]
            obtain ⟨v1, hv1⟩ : ∃ v1 : fx_U, v1 = fx_pt v (J 0) 4 0 := ⟨_, rfl⟩
            have kv : zp_ra J v v1 := by
              rw [hv1]
              exact ⟨fun b h0 _ _ _ _ _ _ _ _ i => zz_pa h0, fun j hj => zz_pj hj.1⟩
            rw [← hv1]
            have w9 : v1 (J 0) 0 = (J 9 : Int) := (kv.2 0 (by decide)).trans h9
            have wb : ∀ b i : Nat, b ≠ J 0 → v1 b i = v b i := fun b i h => by
              rw [hv1]
              exact zz_pa h
            have wv : v1 (J 9) 512 = D := (wb (J 9) 512 (n9 0 (by decide))).trans hv
            have wp : zp_pr J v1 := ⟨⟨(kv.2 33 (by decide)).trans hpr.1.1, (kv.2 34 (by decide)).trans hpr.1.2.1, (kv.2 35 (by decide)).trans hpr.1.2.2.1, (kv.2 36 (by decide)).trans hpr.1.2.2.2⟩, (kv.2 37 (by decide)).trans hpr.2.1, (kv.2 38 (by decide)).trans hpr.2.2⟩
            have hF := zp_paint hK hJ hqc (hqr.mv kv) hb hpc wp hD c1 c1 hu w9 ⟨n9 0 (by decide), n9 7 (by decide)⟩ wv
            obtain ⟨W, hW⟩ : ∃ W : fx_U, W = f_X6_paint u (K 3) (K 2) (K 0) x1 x1 := ⟨_, rfl⟩
            obtain ⟨Z, hZ⟩ : ∃ Z : fx_U, Z = f_X12_paintsBare v1 (J 0) x1 x1 := ⟨_, rfl⟩
            rw [← hW, ← hZ] at hF ⊢
            have al := zp_all hF hJ wp w9 n9 wv hD.2
            obtain ⟨kw, kz, -⟩ := hF
            have e0 : W a1 0 = (ta : Int) := (kw.1 a1 na.1 na.2.1 na.2.2.1 na.2.2.2.1 na.2.2.2.2.1 na.2.2.2.2.2 0).trans t3
            have e3 : Z (J 0) 3 = (tb : Int) := (kz.2 3 (by decide)).trans ((kv.2 3 (by decide)).trans t4)
            rw [al]
            refine zo_loop (T := fun i => v tb i % 256) e0 rfl (fun i hi => ?_) e3 (fun i hi => ?_) (fun i hi => ?_) c3.2 41 0 0 0 (by omega) (by decide) (by omega) (by decide) (by decide)
            · exact (kw.1 ta nt.1 nt.2.1 nt.2.2.1 nt.2.2.2.1 nt.2.2.2.2.1 nt.2.2.2.2.2 i).trans (t5 i (by omega))
            · rw [kz.1 tb (ntb 0 (by decide)) (ntb 1 (by decide)) (ntb 2 (by decide)) (ntb 3 (by decide)) (ntb 4 (by decide)) (ntb 5 (by decide)) (ntb 6 (by decide)) (ntb 7 (by decide)) (ntb 8 (by decide)) i, wb tb i (ntb 0 (by decide))]
              exact zz_and (hvb i (by omega))
            · show 0 ≤ v tb i % 256 ∧ v tb i % 256 ≤ 255
              omega
        · simp only [if_pos c1, if_pos c2, if_pos c3, if_neg c4, if_neg zz_n10, if_true]
      · simp only [if_pos c1, if_pos c2, if_neg c3, if_neg zz_n10, if_true]
    · simp only [if_pos c1, if_neg c2, if_neg zz_n10, if_true]
  · simp only [if_neg c1, if_true]
end Oddsb
