/-! THE NIGHT: a party paints on -/
section Paints
variable {N : Nat → Nat} {la bk a2 b bq bf : Nat} {A B : Int → Int → Int → Int} {D p n : Int} {u v w y z : fx_U}
theorem zn_hel {x : Int} (u v : fx_U) : f_X11_heldIn u x (-99) 99 = f_X12_held v x ∧ -99 ≤ f_X12_held v x ∧ f_X12_held v x ≤ 99 := by
  unfold f_X11_heldIn f_X12_held f_J9_min_7cf53 f_J9_max_7cf53 f_X12_min f_X12_max
  simp only [fz_lt]
  by_cases c1 : x < 99
  · have d1 : ¬ (99 : Int) < x := by omega
    rw [if_pos c1, if_neg d1]
    by_cases c2 : -99 < x
    · have d2 : ¬ x < -99 := by omega
      rw [if_pos c2, if_neg d2]
      exact ⟨rfl, by omega, by omega⟩
    · by_cases c3 : x < -99
      · rw [if_neg c2, if_pos c3]
        exact ⟨rfl, by decide, by decide⟩
      · rw [if_neg c2, if_neg c3]
        exact ⟨by omega, by omega, by omega⟩
  · by_cases d1 : (99 : Int) < x
    · rw [if_neg c1, if_pos d1, if_pos (by decide), if_neg (by decide)]
      exact ⟨rfl, by decide, by decide⟩
    · have e : x = 99 := by omega
      rw [if_neg c1, if_neg d1, e]
      decide
def zn_a5 (i k j : Nat) : Prop := (j ≠ 256 + i ∧ j ≠ 320 + i ∧ j ≠ 384 + i) ∧ j ≠ 520 + k ∧ j ≠ 522 + k
theorem zn_a5.mi {i k j : Nat} (hi : i < 64) (h0 : 448 ≤ j) (h : j < 520) : zn_a5 i k j := ⟨⟨by omega, by omega, by omega⟩, by omega, by omega⟩
theorem zn_a5.hi {i k j : Nat} (hi : i < 64) (hk : k = 0 ∨ k = 1) (h : 524 ≤ j) : zn_a5 i k j := ⟨⟨by omega, by omega, by omega⟩, by omega, by omega⟩
theorem zn_a5.lo {i k j : Nat} (h : j < 256) : zn_a5 i k j := ⟨⟨by omega, by omega, by omega⟩, by omega, by omega⟩
theorem zn_a5.ne {i k j : Nat} (hi : i < 64) (hj : j < 64) (h : j ≠ i) : zn_a5 i k (256 + j) ∧ zn_a5 i k (320 + j) ∧ zn_a5 i k (384 + j) := ⟨⟨⟨by omega, by omega, by omega⟩, by omega, by omega⟩, ⟨⟨by omega, by omega, by omega⟩, by omega, by omega⟩, ⟨by omega, by omega, by omega⟩, by omega, by omega⟩
theorem zn_a5.ot {i k : Nat} (hi : i < 64) (hk : k = 0 ∨ k = 1) : zn_a5 i k (520 + (1 - k)) ∧ zn_a5 i k (522 + (1 - k)) := ⟨⟨⟨by omega, by omega, by omega⟩, by omega, by omega⟩, ⟨by omega, by omega, by omega⟩, by omega, by omega⟩
theorem zn_l192 {j : Nat} (hj : j < 64) : 192 + j < 256 ∧ 448 ≤ 448 + j ∧ 448 + j < 520 := by omega
theorem zn_g516 {k : Nat} (hk : k = 0 ∨ k = 1) : 448 ≤ 516 + k ∧ 448 ≤ 518 + k ∧ 448 ≤ 516 + (1 - k) ∧ 448 ≤ 518 + (1 - k) := by omega
set_option maxHeartbeats 8000000 in
theorem zn_paints (X : zn_X N la bk) (Y : zn_Y a2 b bq bf) (hP : zn_P N u) (h0 : v a2 0 = (b : Int)) (hR : zn_R N b D u v) (hD : 8 ≤ D ∧ D ≤ 64) (hrow : ∀ k : Nat, k < 64 → u (N 1) k = v b k) (qc : zn_qc N la bk A B D u) (qr : zn_qr a2 b bq bf A B D v) (bd : zp_bd A B D) (hm : u (N 0) 17 < 9999) (hp : p = 0 ∨ p = 1) (hn : 0 ≤ n ∧ n ≤ 2000) (hv : 0 ≤ v a2 29 ∧ v a2 29 ≤ 2000) : ∃ (w : fx_U) (m : Int), (m = 0 ∨ m = 1) ∧ (∀ rc : Int → Int → fx_U → Int × fx_U, kB_X5_paintDots_4 rc (N 0) la n p u = rc (n + m) (p + 1) w) ∧ zn_cs N la bk u w ∧ zn_ra a2 b bq bf v (f_X12_paintsOn v a2 p) ∧ (f_X12_paintsOn v a2 p) a2 29 = v a2 29 + m ∧ zn_R N b D w (f_X12_paintsOn v a2 p) := by
  have p1 := hP 1 (by decide) (by decide)
  have p5 := hP 5 (by decide) (by decide)
  have p6 := hP 6 (by decide) (by decide)
  have p7 := hP 7 (by decide) (by decide)
  have p10 := hP 10 (by decide) (by decide)
  have p11 := hP 11 (by decide) (by decide)
  have p12 := hP 12 (by decide) (by decide)
  have lt2 : p < 2 := by omega
  have q2 : (520 + p).toNat = 520 + p.toNat := by omega
  have q3 : (522 + p).toNat = 522 + p.toNat := by omega
  have q4 : (518 + p).toNat = 518 + p.toNat := by omega
  have t3 : Int.toNat 513 = 513 := rfl
  have pn : p.toNat = 0 ∨ p.toNat = 1 := by omega
  have hR0 := hR
  obtain ⟨hG, hd, hAA, hne, hC⟩ := hR
  obtain ⟨hA, hO⟩ := zn_Aa hp hAA
  have hne2 := (zn_ne hp).1 hne
  have gG := hG
  obtain ⟨⟨g1, g2⟩, g3, -, g5, g6, g7⟩ := hG
  obtain ⟨e9, e12, e10, e11⟩ := hA
  have nk : ∀ r k : Nat, 5 ≤ r → r ≤ 11 → k ≤ 14 → k ≠ r → N k ≠ N r := fun r k r1 r2 k1 k2 => X.1 r k (by omega) k1 (Or.inr ⟨r1, r2⟩) (fun h => k2 h.symm)
  rcases e11 with c1 | ⟨i1, i2, i3, i4, i5⟩
  · have eB : f_X12_paintsOn v a2 p = v := by
      unfold f_X12_paintsOn
      simp only [fz_lr, fz_lt, h0, Int.toNat_natCast, q2]
      rw [if_pos (e10.symm.trans c1)]
    rw [eB]
    refine ⟨u, 0, Or.inl rfl, fun rc => ?_, zn_cs.rf, zn_ra.rf, (Int.add_zero _).symm, hR0⟩
    unfold kB_X5_paintDots_4 kJ_X5_paintDots_114 f_X7_isDot
    simp only [fz_lr, fz_lt, p10, Int.toNat_natCast, c1]
    rw [if_pos lt2, if_pos (show (-2 : Int) < 0 by decide), if_pos rfl, Int.add_zero]
  · obtain ⟨i, hi⟩ : ∃ i : Int, i = u (N 10) p.toNat := ⟨_, rfl⟩
    rw [← hi] at e10 i1 i2 hne2
    obtain ⟨L, hL⟩ : ∃ L : Int, L = u (N 11) p.toNat := ⟨_, rfl⟩
    rw [← hL] at i3 i4 i5
    have ni0 : ¬ i < 0 := by omega
    have ni2 : ¬ i = -2 := by omega
    have sL : fx_b_sub L 1 = L - 1 := zz_wsub (zz_sml ⟨by omega, by omega⟩) (zz_sml ⟨by decide, by decide⟩) (zz_sml ⟨by omega, by omega⟩)
    obtain ⟨u1, hu1⟩ : ∃ x : fx_U, x = fx_pt u (N 11) p.toNat (L - 1) := ⟨_, rfl⟩
    obtain ⟨v1, hv1⟩ : ∃ x : fx_U, x = fx_pt v b (522 + p.toNat) (L - 1) := ⟨_, rfl⟩
    have F1 : zn_cs N la bk u u1 := by
      rw [hu1]
      exact zn_cs.pt X ⟨by decide, by decide⟩
    have G1 : zn_ra a2 b bq bf v v1 := by
      rw [hv1]
      exact zn_ra.pt Y (by omega) (by omega)
    have U1 : ∀ k j : Nat, k ≤ 14 → (k ≠ 11 ∨ j ≠ p.toNat) → u1 (N k) j = u (N k) j := fun k j k1 k2 => by
      rw [hu1]
      rcases k2 with h | h
      · exact zz_pa (nk 11 k (by decide) (by decide) k1 h)
      · exact zz_pj h
    have V1 : ∀ j : Nat, j ≠ 522 + p.toNat → v1 b j = v b j := fun j j1 => by
      rw [hv1]
      exact zz_pj j1
    by_cases c2 : 0 < L - 1
    · have eB : f_X12_paintsOn v a2 p = v1 := by
        unfold f_X12_paintsOn
        simp only [fz_lr, fz_lt, fz_ls, h0, Int.toNat_natCast, q2, q3, ← e10, ← i3, sL, ← hv1]
        rw [if_neg ni2, if_pos c2]
      rw [eB]
      refine ⟨u1, 0, Or.inl rfl, fun rc => ?_, F1, G1, ?_, ?_⟩
      · unfold kB_X5_paintDots_4 kJ_X5_paintDots_114 f_X7_isDot
        simp only [fz_lr, fz_lt, fz_ls, p10, p11, Int.toNat_natCast, ← hi, ← hL, sL, ← hu1, g1]
        rw [if_pos lt2, if_neg ni0, if_pos i1.2, if_neg zz_n10, if_pos c2, Int.add_zero]
      · rw [hv1, Int.add_zero]
        exact zz_pa Y.1.2
      · refine ⟨zn_Gm gG (F1.N0 X) ⟨V1 512 (by omega), V1 513 (by omega), V1 514 (by omega), V1 515 (by omega)⟩, fun j hj => zn_Dm (hd j hj) ⟨U1 4 j (by decide) (Or.inl (by decide)), U1 5 j (by decide) (Or.inl (by decide)), U1 6 j (by decide) (Or.inl (by decide)), U1 7 j (by decide) (Or.inl (by decide)), U1 8 j (by decide) (Or.inl (by decide))⟩ ⟨V1 _ (by omega), V1 _ (by omega), V1 _ (by omega), V1 _ (by omega), V1 _ (by omega)⟩, zn_AA hp ?_ ?_, (zn_ne hp).2 ?_, fun c hc => zn_Cm (hC c hc) ⟨U1 13 c (by decide) (Or.inl (by decide)), U1 14 c (by decide) (Or.inl (by decide))⟩ ⟨V1 _ (by omega), V1 _ (by omega), V1 _ (by omega)⟩⟩
        · have sU : u1 (N 11) p.toNat = L - 1 := by
            rw [hu1]
            exact zz_ps
          have sV : v1 b (522 + p.toNat) = L - 1 := by
            rw [hv1]
            exact zz_ps
          unfold zn_A
          rw [U1 9 _ (by decide) (Or.inl (by decide)), U1 10 _ (by decide) (Or.inl (by decide)), U1 12 _ (by decide) (Or.inl (by decide)), U1 5 _ (by decide) (Or.inl (by decide)), V1 (516 + p.toNat) (by omega), V1 (518 + p.toNat) (by omega), V1 (520 + p.toNat) (by omega), sU, sV, ← hi]
          exact ⟨e9, e12, e10, Or.inr ⟨i1, i2, rfl, by omega, by omega⟩⟩
        · exact zn_Am hO ⟨U1 9 _ (by decide) (Or.inl (by decide)), U1 10 _ (by decide) (Or.inl (by decide)), U1 11 _ (by decide) (Or.inr (by omega)), U1 12 _ (by decide) (Or.inl (by decide))⟩ (fun _ => U1 5 _ (by decide) (Or.inl (by decide))) ⟨V1 _ (by omega), V1 _ (by omega), V1 _ (by omega), V1 _ (by omega)⟩
        · rw [U1 10 _ (by decide) (Or.inl (by decide)), U1 10 _ (by decide) (Or.inl (by decide)), ← hi]
          exact hne2
    · obtain ⟨T, hT⟩ : ∃ T : Int, T = v b 513 := ⟨_, rfl⟩
      rw [← hT] at g5
      have sT : fx_b_add T 1 = T + 1 := zz_wadd (zz_sml ⟨by omega, by omega⟩) (zz_sml ⟨by decide, by decide⟩) (zz_sml ⟨by omega, by omega⟩)
      obtain ⟨O, hO2⟩ : ∃ O : Int, O = f_X12_held v1 (fx_b_add (v b i.toNat) (v b (518 + p.toNat))) := ⟨_, rfl⟩
      have hel := zn_hel (x := fx_b_add (v b i.toNat) (v b (518 + p.toNat))) u1 v1
      rw [← hO2] at hel
      obtain ⟨u2, hu2⟩ : ∃ x : fx_U, x = fx_pt u1 (N 10) p.toNat (-2) := ⟨_, rfl⟩
      obtain ⟨u3, hu3⟩ : ∃ x : fx_U, x = fx_pt u2 (N 5) i.toNat O := ⟨_, rfl⟩
      obtain ⟨u4, hu4⟩ : ∃ x : fx_U, x = fx_pt u3 (N 6) i.toNat (T + 1) := ⟨_, rfl⟩
      obtain ⟨v2, hv2⟩ : ∃ x : fx_U, x = fx_pt v1 b (256 + i.toNat) O := ⟨_, rfl⟩
      obtain ⟨v3, hv3⟩ : ∃ x : fx_U, x = fx_pt v2 b (320 + i.toNat) (T + 1) := ⟨_, rfl⟩
      have F2 : zn_cs N la bk u u2 := by
        rw [hu2]
        exact F1.tr (zn_cs.pt X ⟨by decide, by decide⟩)
      have F3 : zn_cs N la bk u u3 := by
        rw [hu3]
        exact F2.tr (zn_cs.pt X ⟨by decide, by decide⟩)
      have F4 : zn_cs N la bk u u4 := by
        rw [hu4]
        exact F3.tr (zn_cs.pt X ⟨by decide, by decide⟩)
      have G2 : zn_ra a2 b bq bf v v2 := by
        rw [hv2]
        exact G1.tr (zn_ra.pt Y (by omega) (by omega))
      have G3 : zn_ra a2 b bq bf v v3 := by
        rw [hv3]
        exact G2.tr (zn_ra.pt Y (by omega) (by omega))
      obtain ⟨-, u5, a1, f5⟩ := qc u4 (F4.ca X) i (T + 1) p i1.1 i1.2 hp
      obtain ⟨-, v4, b1, f4⟩ := qr v3 G3 i (T + 1) p i1.1 i1.2 hp
      obtain ⟨-, m1, m2⟩ := bd i (T + 1) p i1.1 i1.2 hp
      obtain ⟨M, hM⟩ : ∃ M : Int, M = B i (T + 1) p := ⟨_, rfl⟩
      rw [← hM] at a1 b1 m1 m2
      obtain ⟨u6, hu6⟩ : ∃ x : fx_U, x = fx_pt u5 (N 7) i.toNat M := ⟨_, rfl⟩
      obtain ⟨v5, hv5⟩ : ∃ x : fx_U, x = fx_pt v4 b (384 + i.toNat) M := ⟨_, rfl⟩
      obtain ⟨v6, hv6⟩ : ∃ x : fx_U, x = fx_pt v5 b (520 + p.toNat) (-2) := ⟨_, rfl⟩
      have F6 : zn_cs N la bk u u6 := by
        rw [hu6]
        exact (F4.tr (zn_cs.fa f5)).tr (zn_cs.pt X ⟨by decide, by decide⟩)
      have G6 : zn_ra a2 b bq bf v v6 := by
        rw [hv6, hv5]
        exact ((G3.tr (zn_ra.fb Y f4)).tr (zn_ra.pt Y (by omega) (by omega))).tr (zn_ra.pt Y (by omega) (by omega))
      have k256 : (256 + i).toNat = 256 + i.toNat := by omega
      have k320 : (320 + i).toNat = 320 + i.toNat := by omega
      have k384 : (384 + i).toNat = 384 + i.toNat := by omega
      have w1 : v1 b i.toNat = v b i.toNat := V1 _ (by omega)
      have w2 : v1 b (518 + p.toNat) = v b (518 + p.toNat) := V1 _ (by omega)
      have w3 : v2 b 513 = T := by
        rw [hv2]
        exact (zz_pj (by omega)).trans ((V1 513 (by omega)).trans hT.symm)
      have w4 : v3 b 513 = T := by
        rw [hv3]
        exact (zz_pj (by omega)).trans w3
      have v29 : v6 a2 29 = v a2 29 := by
        rw [hv6]
        refine (zz_pa Y.1.2).trans ?_
        rw [hv5]
        refine (zz_pa Y.1.2).trans ((f4 a2 Y.2.1.1 Y.2.1.2 29).trans ?_)
        rw [hv3]
        refine (zz_pa Y.1.2).trans ?_
        rw [hv2]
        refine (zz_pa Y.1.2).trans ?_
        rw [hv1]
        exact zz_pa Y.1.2
      have s29 : fx_b_add (v a2 29) 1 = v a2 29 + 1 := zz_wadd (zz_sml ⟨by omega, by omega⟩) (zz_sml ⟨by decide, by decide⟩) (zz_sml ⟨by omega, by omega⟩)
      have sn : fx_b_add n 1 = n + 1 := zz_wadd (zz_sml ⟨by omega, by omega⟩) (zz_sml ⟨by decide, by decide⟩) (zz_sml ⟨by omega, by omega⟩)
      obtain ⟨v7, hv7⟩ : ∃ x : fx_U, x = fx_pt v6 a2 29 (v a2 29 + 1) := ⟨_, rfl⟩
      have eB : f_X12_paintsOn v a2 p = v7 := by
        unfold f_X12_paintsOn
        simp only [fz_lr, fz_lt, fz_ls, h0, Int.toNat_natCast, q2, q3, q4, ← e10, ← i3, sL, ← hv1, Int.zero_add, k256, k320, k384, w1, w2, ← hO2, ← hv2, t3, w3, sT, ← hv3, w4, b1, fz_lc, ← hv5, ← hv6, v29, s29, ← hv7]
        rw [if_neg ni2, if_neg c2]
      have y1 : u2 (N 0) 1 = (N 1 : Int) := (F2.N0 X 1).trans p1
      have y12 : u2 (N 0) 12 = (N 12 : Int) := (F2.N0 X 12).trans p12
      have y5 : u2 (N 0) 5 = (N 5 : Int) := (F2.N0 X 5).trans p5
      have y6 : u3 (N 0) 6 = (N 6 : Int) := (F3.N0 X 6).trans p6
      have y17 : u3 (N 0) 17 = T := (F3.N0 X 17).trans g5
      have y7 : u4 (N 0) 7 = (N 7 : Int) := (F4.N0 X 7).trans p7
      have yk : u2 (N 1) i.toNat = v b i.toNat := (F2.Nj X (by decide) (Or.inl (by decide)) _).trans (hrow i.toNat (by omega))
      have yo : u2 (N 12) p.toNat = v b (518 + p.toNat) := (F2.Nj X (by decide) (Or.inr (by decide)) _).trans e12.1
      have eO : f_X7_offsetBy u2 (N 0) p i = O := by
        unfold f_X7_offsetBy
        simp only [fz_lr, fz_lt, y1, y12, Int.toNat_natCast, yk, yo]
        exact hel.1
      have U : ∀ k j : Nat, k ≤ 14 → ((k ≠ 5 ∧ k ≠ 6 ∧ k ≠ 7) ∨ j ≠ i.toNat) → ((k ≠ 10 ∧ k ≠ 11) ∨ j ≠ p.toNat) → u6 (N k) j = u (N k) j := fun k j k1 k2 k3 => by
        have s6 : u6 (N k) j = u5 (N k) j := by
          rw [hu6]
          rcases k2 with h | h
          · exact zz_pa (nk 7 k (by decide) (by decide) k1 h.2.2)
          · exact zz_pj h
        have s4 : u4 (N k) j = u3 (N k) j := by
          rw [hu4]
          rcases k2 with h | h
          · exact zz_pa (nk 6 k (by decide) (by decide) k1 h.2.1)
          · exact zz_pj h
        have s3 : u3 (N k) j = u2 (N k) j := by
          rw [hu3]
          rcases k2 with h | h
          · exact zz_pa (nk 5 k (by decide) (by decide) k1 h.1)
          · exact zz_pj h
        have s2 : u2 (N k) j = u1 (N k) j := by
          rw [hu2]
          rcases k3 with h | h
          · exact zz_pa (nk 10 k (by decide) (by decide) k1 h.1)
          · exact zz_pj h
        have s1 : u1 (N k) j = u (N k) j := by
          rcases k3 with h | h
          · exact U1 k j k1 (Or.inl h.2)
          · exact U1 k j k1 (Or.inr h)
        exact s6.trans ((f5.1 (N k) (X.2.1 k k1).1 (X.2.1 k k1).2 j).trans (s4.trans (s3.trans (s2.trans s1))))
      have V : ∀ j : Nat, j ≠ 256 + i.toNat → j ≠ 320 + i.toNat → j ≠ 384 + i.toNat → j ≠ 520 + p.toNat → j ≠ 522 + p.toNat → v7 b j = v b j := fun j j1 j2 j3 j4 j5 => by
        rw [hv7]
        refine (zz_pa Y.1.1).trans ?_
        rw [hv6]
        refine (zz_pj j4).trans ?_
        rw [hv5]
        refine (zz_pj j3).trans ((f4 b Y.2.2.1 Y.2.2.2 j).trans ?_)
        rw [hv3]
        refine (zz_pj j2).trans ?_
        rw [hv2]
        exact (zz_pj j1).trans (V1 j j5)
      have VV : ∀ j : Nat, zn_a5 i.toNat p.toNat j → v7 b j = v b j := fun j h => V j h.1.1 h.1.2.1 h.1.2.2 h.2.1 h.2.2
      have i64 : i.toNat < 64 := by omega
      have z4 : ∀ j : Nat, u5 (N 5) j = u4 (N 5) j := fun j => f5.1 (N 5) (X.2.1 5 (by decide)).1 (X.2.1 5 (by decide)).2 j
      have U5 : u6 (N 5) i.toNat = O := by
        rw [hu6]
        refine (zz_pa (nk 7 5 (by decide) (by decide) (by decide) (by decide))).trans ((z4 _).trans ?_)
        rw [hu4]
        refine (zz_pa (nk 6 5 (by decide) (by decide) (by decide) (by decide))).trans ?_
        rw [hu3]
        exact zz_ps
      have U6 : u6 (N 6) i.toNat = T + 1 := by
        rw [hu6]
        refine (zz_pa (nk 7 6 (by decide) (by decide) (by decide) (by decide))).trans ((f5.1 (N 6) (X.2.1 6 (by decide)).1 (X.2.1 6 (by decide)).2 _).trans ?_)
        rw [hu4]
        exact zz_ps
      have U7 : u6 (N 7) i.toNat = M := by
        rw [hu6]
        exact zz_ps
      have U10 : u6 (N 10) p.toNat = -2 := by
        rw [hu6]
        refine (zz_pa (nk 7 10 (by decide) (by decide) (by decide) (by decide))).trans ((f5.1 (N 10) (X.2.1 10 (by decide)).1 (X.2.1 10 (by decide)).2 _).trans ?_)
        rw [hu4]
        refine (zz_pa (nk 6 10 (by decide) (by decide) (by decide) (by decide))).trans ?_
        rw [hu3]
        refine (zz_pa (nk 5 10 (by decide) (by decide) (by decide) (by decide))).trans ?_
        rw [hu2]
        exact zz_ps
      have V256 : v7 b (256 + i.toNat) = O := by
        rw [hv7]
        refine (zz_pa Y.1.1).trans ?_
        rw [hv6]
        refine (zz_pj (by omega)).trans ?_
        rw [hv5]
        refine (zz_pj (by omega)).trans ((f4 b Y.2.2.1 Y.2.2.2 _).trans ?_)
        rw [hv3]
        refine (zz_pj (by omega)).trans ?_
        rw [hv2]
        exact zz_ps
      have V320 : v7 b (320 + i.toNat) = T + 1 := by
        rw [hv7]
        refine (zz_pa Y.1.1).trans ?_
        rw [hv6]
        refine (zz_pj (by omega)).trans ?_
        rw [hv5]
        refine (zz_pj (by omega)).trans ((f4 b Y.2.2.1 Y.2.2.2 _).trans ?_)
        rw [hv3]
        exact zz_ps
      have V384 : v7 b (384 + i.toNat) = M := by
        rw [hv7]
        refine (zz_pa Y.1.1).trans ?_
        rw [hv6]
        refine (zz_pj (by omega)).trans ?_
        rw [hv5]
        exact zz_ps
      have V520 : v7 b (520 + p.toNat) = -2 := by
        rw [hv7]
        refine (zz_pa Y.1.1).trans ?_
        rw [hv6]
        exact zz_ps
      rw [eB]
      refine ⟨u6, 1, Or.inr rfl, fun rc => ?_, F6, ?_, ?_, ?_⟩
      · unfold kB_X5_paintDots_4 kJ_X5_paintDots_114 f_X7_isDot
        simp only [fz_lr, fz_lt, fz_ls, p10, p11, Int.toNat_natCast, ← hi, ← hL, sL, ← hu1, g1, ← hu2, y5, eO, ← hu3, y6, y17, sT, ← hu4, y7, a1, fz_lc, ← hu6, sn]
        rw [if_pos lt2, if_neg ni0, if_pos i1.2, if_neg zz_n10, if_neg c2]
      · refine G6.tr ⟨fun c h1 _ _ _ j => ?_, fun j hj => ?_, fun j _ => ?_⟩
        · rw [hv7]
          exact zz_pa h1
        · rw [hv7]
          exact zz_pj hj
        · rw [hv7]
          exact zz_pa Y.1.1
      · rw [hv7]
        exact zz_ps
      · refine ⟨zn_Gm gG (F6.N0 X) ⟨VV 512 (zn_a5.mi i64 (by decide) (by decide)), VV 513 (zn_a5.mi i64 (by decide) (by decide)), VV 514 (zn_a5.mi i64 (by decide) (by decide)), VV 515 (zn_a5.mi i64 (by decide) (by decide))⟩, fun j hj => ?_, zn_AA hp ?_ ?_, (zn_ne hp).2 ?_, fun c hc => zn_Cm (hC c hc) ⟨U 13 c (by decide) (Or.inl (by decide)) (Or.inl (by decide)), U 14 c (by decide) (Or.inl (by decide)) (Or.inl (by decide))⟩ ⟨VV _ (zn_a5.hi i64 pn (Nat.le_refl 524)), VV _ (zn_a5.hi i64 pn (zn_c525 c).1), VV _ (zn_a5.hi i64 pn (zn_c525 c).2)⟩⟩
        · by_cases c3 : j = i.toNat
          · obtain ⟨d1, d2, -⟩ := hd j hj
            rw [c3] at d1 d2 ⊢
            unfold zn_D
            rw [U5, U6, U7, V256, V320, V384, U 4 _ (by decide) (Or.inl (by decide)) (Or.inl (by decide)), U 8 _ (by decide) (Or.inl (by decide)) (Or.inl (by decide)), VV (192 + i.toNat) (zn_a5.lo (zn_l192 i64).1), VV (448 + i.toNat) (zn_a5.mi i64 (zn_l192 i64).2.1 (zn_l192 i64).2.2)]
            exact ⟨d1, d2, Or.inr ⟨⟨hel.2.1, hel.2.2⟩, ⟨by omega, by omega⟩, rfl, rfl, rfl, m1, m2⟩⟩
          · exact zn_Dm (hd j hj) ⟨U 4 j (by decide) (Or.inr c3) (Or.inl (by decide)), U 5 j (by decide) (Or.inr c3) (Or.inl (by decide)), U 6 j (by decide) (Or.inr c3) (Or.inl (by decide)), U 7 j (by decide) (Or.inr c3) (Or.inl (by decide)), U 8 j (by decide) (Or.inr c3) (Or.inl (by decide))⟩ ⟨VV _ (zn_a5.lo (zn_l192 hj).1), VV _ (zn_a5.ne i64 hj c3).1, VV _ (zn_a5.ne i64 hj c3).2.1, VV _ (zn_a5.ne i64 hj c3).2.2, VV _ (zn_a5.mi i64 (zn_l192 hj).2.1 (zn_l192 hj).2.2)⟩
        · unfold zn_A
          rw [U10, V520, U 9 _ (by decide) (Or.inl (by decide)) (Or.inl (by decide)), U 12 _ (by decide) (Or.inl (by decide)) (Or.inl (by decide)), VV (516 + p.toNat) (zn_a5.mi i64 (zn_g516 pn).1 (zn_k516 pn).1), VV (518 + p.toNat) (zn_a5.mi i64 (zn_g516 pn).2.1 (zn_k516 pn).2.1)]
          exact ⟨e9, e12, rfl, Or.inl rfl⟩
        · refine zn_Am hO ⟨U 9 _ (by decide) (Or.inl (by decide)) (Or.inl (by decide)), U 10 _ (by decide) (Or.inl (by decide)) (Or.inr (zn_no pn)), U 11 _ (by decide) (Or.inl (by decide)) (Or.inr (zn_no pn)), U 12 _ (by decide) (Or.inl (by decide)) (Or.inl (by decide))⟩ (fun hq => U 5 _ (by decide) (Or.inr ?_) (Or.inl (by decide))) ⟨VV _ (zn_a5.mi i64 (zn_g516 pn).2.2.1 (zn_k516 pn).2.2.1), VV _ (zn_a5.mi i64 (zn_g516 pn).2.2.2 (zn_k516 pn).2.2.2), VV _ (zn_a5.ot i64 pn).1, VV _ (zn_a5.ot i64 pn).2⟩
          rcases hO.2.2.2 with h | ⟨h, -⟩
          · exact absurd h hq
          · intro e
            have e2 : i = u (N 10) (1 - p.toNat) := by omega
            exact ni2 (hne2 e2)
        · rw [U10]
          exact fun _ => rfl
end Paints
