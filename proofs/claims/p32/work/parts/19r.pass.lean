/-! THE NIGHT: minutes go by -/
section Pass
variable {N : Nat → Nat} {la bk a2 b bq bf : Nat} {A B : Int → Int → Int → Int} {D x : Int} {u v w y z : fx_U}
def zn_row (N : Nat → Nat) (b : Nat) (u v : fx_U) : Prop := ∀ k : Nat, k < 64 → u (N 1) k = v b k
theorem zn_row.mv (X : zn_X N la bk) (h : zn_row N b u v) (k1 : zn_cs N la bk u w) (k2 : zn_ra a2 b bq bf v z) : zn_row N b w z := fun k hk => (k1.Nj X (by decide) (Or.inl (by decide)) k).trans ((h k hk).trans (k2.2.2 k (Or.inl (by omega))).symm)
theorem zn_min (X : zn_X N la bk) (Y : zn_Y a2 b bq bf) (hP : zn_P N u) (h0 : v a2 0 = (b : Int)) (hR : zn_R N b D u v) (hD : 8 ≤ D ∧ D ≤ 64) (hrow : zn_row N b u v) (qc : zn_qc N la bk A B D u) (qr : zn_qr a2 b bq bf A B D v) (bd : zp_bd A B D) (hm : u (N 0) 17 < 9999) (hv : 0 ≤ v a2 29 ∧ v a2 29 ≤ 1500) : ∃ (w z : fx_U) (m : Int), (0 ≤ m ∧ m ≤ 2) ∧ f_X5_letDewFall (f_X5_drive (f_X5_paintDots (f_X5_beginDots u (N 0) la) (N 0) la).2 (N 0)) (N 0) = w ∧ (f_X5_paintDots (f_X5_beginDots u (N 0) la) (N 0) la).1 = m ∧ f_X12_minuteGoes v a2 = kJ_X12_minuteGoes_121 b z ∧ zn_cs N la bk u w ∧ zn_ra a2 b bq bf v z ∧ z a2 29 = v a2 29 + m ∧ zn_R N b D w z := by
  obtain ⟨u1, e1, c1, r1, n1, R1⟩ := zn_begin X Y hP h0 hR hD qc qr bd (p := 0) (Or.inl rfl)
  obtain ⟨v1, hv1⟩ : ∃ q : fx_U, q = f_X12_beginsWith v a2 0 := ⟨_, rfl⟩
  rw [← hv1] at r1 n1 R1
  have h01 : v1 a2 0 = (b : Int) := (r1.2.1 0 (by decide)).trans h0
  obtain ⟨u2, e2, c2, r2, n2, R2⟩ := zn_begin X Y (hP.cs X c1) h01 R1 hD (qc.mv (c1.ca X)) (qr.mv r1) bd (p := 1) (Or.inr rfl)
  obtain ⟨v2, hv2⟩ : ∃ q : fx_U, q = f_X12_beginsWith v1 a2 1 := ⟨_, rfl⟩
  rw [← hv2] at r2 n2 R2
  have c12 := c1.tr c2
  have r12 := r1.tr r2
  have h02 : v2 a2 0 = (b : Int) := (r12.2.1 0 (by decide)).trans h0
  have m2 : u2 (N 0) 17 < 9999 := by
    rw [c12.N0 X 17]
    exact hm
  have a2v : v2 a2 29 = v a2 29 := n2.trans n1
  obtain ⟨u3, m0, z0, e3, c3, r3, n3, R3⟩ := zn_paints X Y (hP.cs X c12) h02 R2 hD (hrow.mv X c12 r12) (qc.mv (c12.ca X)) (qr.mv r12) bd m2 (p := 0) (n := 0) (Or.inl rfl) ⟨by decide, by decide⟩ (by rw [a2v]; omega)
  obtain ⟨v3, hv3⟩ : ∃ q : fx_U, q = f_X12_paintsOn v2 a2 0 := ⟨_, rfl⟩
  rw [← hv3] at r3 n3 R3
  have c13 := c12.tr c3
  have r13 := r12.tr r3
  have h03 : v3 a2 0 = (b : Int) := (r13.2.1 0 (by decide)).trans h0
  have m3 : u3 (N 0) 17 < 9999 := by
    rw [c13.N0 X 17]
    exact hm
  obtain ⟨u4, m1, z1, e4, c4, r4, n4, R4⟩ := zn_paints X Y (hP.cs X c13) h03 R3 hD (hrow.mv X c13 r13) (qc.mv (c13.ca X)) (qr.mv r13) bd m3 (p := 1) (n := 0 + m0) (Or.inr rfl) ⟨by omega, by omega⟩ (by rw [n3, a2v]; omega)
  obtain ⟨v4, hv4⟩ : ∃ q : fx_U, q = f_X12_paintsOn v3 a2 1 := ⟨_, rfl⟩
  rw [← hv4] at r4 n4 R4
  have c14 := c13.tr c4
  have r14 := r13.tr r4
  have h04 : v4 a2 0 = (b : Int) := (r14.2.1 0 (by decide)).trans h0
  obtain ⟨u5, v5, e5, e6, S5⟩ := zn_cars X Y hD 13 0 u4 v4 (by decide) (by decide) (by decide) (hP.cs X c14) h04 R4
  obtain ⟨c5, r5, n5, R5⟩ := S5
  have c15 := c14.tr c5
  have r15 := r14.tr r5
  have h05 : v5 a2 0 = (b : Int) := (r15.2.1 0 (by decide)).trans h0
  have eb : f_X5_beginDots u (N 0) la = u2 := by
    unfold f_X5_beginDots
    rw [show Int.toNat (2 - 0) + 1 = 3 from rfl]
    show kB_X5_beginDots_2 (kL_X5_beginDots_2 (N 0) la 2) (N 0) la 0 u = u2
    rw [e1]
    show kB_X5_beginDots_2 (kL_X5_beginDots_2 (N 0) la 1) (N 0) la 1 u1 = u2
    rw [e2]
    show kB_X5_beginDots_2 (kL_X5_beginDots_2 (N 0) la 0) (N 0) la 2 u2 = u2
    unfold kB_X5_beginDots_2
    rw [if_neg (by decide)]
  have ep : f_X5_paintDots u2 (N 0) la = (0 + m0 + m1, u4) := by
    unfold f_X5_paintDots
    rw [show Int.toNat (2 - 0) + 1 = 3 from rfl]
    show kB_X5_paintDots_4 (kL_X5_paintDots_4 (N 0) la 2) (N 0) la 0 0 u2 = _
    rw [e3]
    show kB_X5_paintDots_4 (kL_X5_paintDots_4 (N 0) la 1) (N 0) la (0 + m0) 1 u3 = _
    rw [e4]
    show kB_X5_paintDots_4 (kL_X5_paintDots_4 (N 0) la 0) (N 0) la (0 + m0 + m1) 2 u4 = _
    unfold kB_X5_paintDots_4
    rw [if_neg (by decide)]
  have ed : f_X5_drive u4 (N 0) = u5 := by
    unfold f_X5_drive
    rw [show Int.toNat (12 - 0) + 1 = 13 from rfl]
    exact e5
  have er : f_X12_minuteGoes v a2 = if v5 b 515 = v5 b 513 then kL_X12_minuteGoes_60 b a2 65 0 v5 else kJ_X12_minuteGoes_121 b v5 := by
    unfold f_X12_minuteGoes
    simp only [fz_lr, fz_ls, h0, Int.toNat_natCast, ← hv1, ← hv2, ← hv3, ← hv4, show Int.toNat (12 - 0) + 1 = 13 from rfl]
    exact e6
  rw [eb, ep]
  show ∃ (w z : fx_U) (m : Int), (0 ≤ m ∧ m ≤ 2) ∧ f_X5_letDewFall (f_X5_drive u4 (N 0)) (N 0) = w ∧ 0 + m0 + m1 = m ∧ _
  rw [ed, er]
  have R5' := R5
  obtain ⟨⟨-, -, g4, g5, g6, g7⟩, -⟩ := R5'
  have n45 : v5 a2 29 = v a2 29 + (0 + m0 + m1) := by
    rw [n5, n4, n3, a2v]
    omega
  by_cases c : v5 b 515 = v5 b 513
  · have c' : u5 (N 0) 17 = u5 (N 0) 16 := by omega
    obtain ⟨w, z, d1, d2, d3, d4, d5, d6⟩ := zn_dew X Y hD 65 0 u5 v5 (by omega) (by decide) (by decide) (hP.cs X c15) h05 R5
    refine ⟨w, z, 0 + m0 + m1, ⟨by omega, by omega⟩, ?_, rfl, ?_, c15.tr d3, r15.tr d4, d5.trans n45, d6⟩
    · unfold f_X5_letDewFall
      simp only [fz_lt, show Int.toNat (64 - 0) + 1 = 65 from rfl]
      rw [if_pos c']
      exact d1
    · rw [if_pos c]
      exact d2
  · have c' : ¬ u5 (N 0) 17 = u5 (N 0) 16 := by omega
    refine ⟨u5, v5, 0 + m0 + m1, ⟨by omega, by omega⟩, ?_, rfl, ?_, c15, r15, n45, R5⟩
    · unfold f_X5_letDewFall
      simp only [fz_lt]
      rw [if_neg c']
    · rw [if_neg c]
theorem zn_tick (X : zn_X N la bk) (hR : zn_R N b D u v) (hm : u (N 0) 17 < 9999) : zn_R N b D (fx_pt u (N 0) 17 (u (N 0) 17 + 1)) (fx_pt v b 513 (u (N 0) 17 + 1)) := by
  have nk : ∀ k : Nat, k ≤ 14 → k ≠ 0 → N k ≠ N 0 := fun k k1 k2 => X.1 0 k (by decide) k1 (Or.inl rfl) (fun h => k2 h.symm)
  obtain ⟨⟨⟨g1, g2⟩, g3, g4, g5, g6, g7⟩, hd, ⟨hA0, hA1⟩, hne, hC⟩ := hR
  have am : ∀ a : Nat, a < 2 → zn_A N b D u v a → zn_A N b D (fx_pt u (N 0) 17 (u (N 0) 17 + 1)) (fx_pt v b 513 (u (N 0) 17 + 1)) a := fun a ha h => zn_Am h ⟨zz_pa (nk 9 (by decide) (by decide)), zz_pa (nk 10 (by decide) (by decide)), zz_pa (nk 11 (by decide) (by decide)), zz_pa (nk 12 (by decide) (by decide))⟩ (fun _ => zz_pa (nk 5 (by decide) (by decide))) ⟨zz_pj (by omega), zz_pj (by omega), zz_pj (by omega), zz_pj (by omega)⟩
  refine ⟨?_, fun j hj => zn_Dm (hd j hj) ⟨zz_pa (nk 4 (by decide) (by decide)), zz_pa (nk 5 (by decide) (by decide)), zz_pa (nk 6 (by decide) (by decide)), zz_pa (nk 7 (by decide) (by decide)), zz_pa (nk 8 (by decide) (by decide))⟩ ⟨zz_pj (by omega), zz_pj (by omega), zz_pj (by omega), zz_pj (by omega), zz_pj (by omega)⟩, ⟨am 0 (by decide) hA0, am 1 (by decide) hA1⟩, ?_, fun c hc => zn_Cm (hC c hc) ⟨zz_pa (nk 13 (by decide) (by decide)), zz_pa (nk 14 (by decide) (by decide))⟩ ⟨zz_pj (by omega), zz_pj (by omega), zz_pj (by omega)⟩⟩
  · have k0 : fx_pt u (N 0) 17 (u (N 0) 17 + 1) (N 0) 0 = u (N 0) 0 := zz_pj (by decide)
    have k15 : fx_pt u (N 0) 17 (u (N 0) 17 + 1) (N 0) 15 = u (N 0) 15 := zz_pj (by decide)
    have k16 : fx_pt u (N 0) 17 (u (N 0) 17 + 1) (N 0) 16 = u (N 0) 16 := zz_pj (by decide)
    have k17 : fx_pt u (N 0) 17 (u (N 0) 17 + 1) (N 0) 17 = u (N 0) 17 + 1 := zz_ps
    have r1 : fx_pt v b 513 (u (N 0) 17 + 1) b 512 = v b 512 := zz_pj (by decide)
    have r2 : fx_pt v b 513 (u (N 0) 17 + 1) b 514 = v b 514 := zz_pj (by decide)
    have r3 : fx_pt v b 513 (u (N 0) 17 + 1) b 515 = v b 515 := zz_pj (by decide)
    have r4 : fx_pt v b 513 (u (N 0) 17 + 1) b 513 = u (N 0) 17 + 1 := zz_ps
    unfold zn_G
    rw [k0, k15, k16, k17, r1, r2, r3, r4]
    exact ⟨⟨g1, g2⟩, g3, g4, rfl, by omega, by omega⟩
  · have k0 : fx_pt u (N 0) 17 (u (N 0) 17 + 1) (N 10) 0 = u (N 10) 0 := zz_pa (nk 10 (by decide) (by decide))
    have k1 : fx_pt u (N 0) 17 (u (N 0) 17 + 1) (N 10) 1 = u (N 10) 1 := zz_pa (nk 10 (by decide) (by decide))
    rw [k0, k1]
    exact hne
theorem zn_P.ca (h : zn_P N u) (k : zn_ca N la bk u w) : zn_P N w := fun j h1 h2 => (k.2.2 j (by omega)).trans (h j h1 h2)
theorem zn_row.ca (X : zn_X N la bk) (h : zn_row N b u v) (k1 : zn_ca N la bk u w) (k2 : zn_ra a2 b bq bf v z) : zn_row N b w z := fun k hk => (k1.1 (N 1) (X.2.1 1 (by decide)).1 (X.2.1 1 (by decide)).2 (X.1 0 1 (by decide) (by decide) (Or.inl rfl) (by decide)) (fun j h1 h2 => X.1 j 1 (by omega) (by decide) (Or.inr ⟨h1, h2⟩) (by omega)) k).trans ((h k hk).trans (k2.2.2 k (Or.inl (by omega))).symm)
theorem zn_pass (X : zn_X N la bk) (Y : zn_Y a2 b bq bf) (hD : 8 ≤ D ∧ D ≤ 64) (bd : zp_bd A B D) (hx : x ≤ 600) : ∀ (f : Nat) (n k : Int) (u v : fx_U), x - k < (f : Int) → 0 < f → 0 ≤ k → v a2 29 = n → 0 ≤ n → n ≤ 2 * k → k ≤ 600 → zn_P N u → v a2 0 = (b : Int) → zn_R N b D u v → zn_row N b u v → zn_qc N la bk A B D u → zn_qr a2 b bq bf A B D v → ∃ (w z : fx_U), kL_X5_pass_5 x (N 0) la f n k u = (z a2 29, w) ∧ kL_X12_minutesGo_7 x b a2 f k v = z ∧ zn_ca N la bk u w ∧ zn_ra a2 b bq bf v z ∧ zn_R N b D w z := by
  intro f
  induction f with
  | zero => intro n k u v _ h; omega
  | succ f ih =>
    intro n k u v h1 _ h3 hn n0 n1 k6 hP h0 hR hrow qc qr
    have t3 : Int.toNat 513 = 513 := rfl
    have g5 := hR.1.2.2.2.1
    have g6 := hR.1.2.2.2.2.1
    by_cases c1 : k < x
    · by_cases c2 : u (N 0) 17 < 9999
      · obtain ⟨w, z, m, mb, e1, e2, e3, cs, ra, e4, R1⟩ := zn_min X Y hP h0 hR hD hrow qc qr bd c2 (by rw [hn]; omega)
        have w17 : w (N 0) 17 = u (N 0) 17 := cs.N0 X 17
        have z5 : z b 513 = u (N 0) 17 := R1.1.2.2.2.1.symm.trans w17
        have s1 : fx_b_add (u (N 0) 17) 1 = u (N 0) 17 + 1 := zz_wadd (zz_sml ⟨by omega, by omega⟩) (zz_sml ⟨by decide, by decide⟩) (zz_sml ⟨by omega, by omega⟩)
        have s2 : fx_b_add n m = n + m := zz_wadd (zz_sml ⟨by omega, by omega⟩) (zz_sml ⟨by omega, by omega⟩) (zz_sml ⟨by omega, by omega⟩)
        have R2 := zn_tick X R1 (by rw [w17]; exact c2)
        rw [w17] at R2
        obtain ⟨w2, hw2⟩ : ∃ q : fx_U, q = fx_pt w (N 0) 17 (u (N 0) 17 + 1) := ⟨_, rfl⟩
        obtain ⟨z2, hz2⟩ : ∃ q : fx_U, q = fx_pt z b 513 (u (N 0) 17 + 1) := ⟨_, rfl⟩
        rw [← hw2, ← hz2] at R2
        have ca2 : zn_ca N la bk u w2 := (cs.ca X).tr (by
          rw [hw2]
          exact ⟨fun c _ _ h _ i => zz_pa h, fun j _ => zz_pa (X.2.1 0 (by decide)).1.symm, fun j hj => zz_pj hj⟩)
        have ra2 : zn_ra a2 b bq bf v z2 := ra.tr (by
          rw [hz2]
          exact zn_ra.pt Y (by decide) (by decide))
        have z29 : z2 a2 29 = n + m := by
          rw [hz2, ← hn, ← e4]
          exact zz_pa Y.1.2
        obtain ⟨w3, z3, q1, q2, q3, q4, q5⟩ := ih (n + m) (k + 1) w2 z2 (by omega) (by omega) (by omega) z29 (by omega) (by omega) (by omega) (hP.ca ca2) ((ra2.2.1 0 (by decide)).trans h0) R2 (hrow.ca X ca2 ra2) (qc.mv ca2) (qr.mv ra2)
        refine ⟨w3, z3, ?_, ?_, ca2.tr q3, ra2.tr q4, q5⟩
        · show kB_X5_pass_5 (kL_X5_pass_5 x (N 0) la f) x (N 0) la n k u = _
          unfold kB_X5_pass_5
          simp only [fz_lt, fz_ls, fz_lc, e1, e2, s2, ← hw2]
          rw [if_pos c1, if_pos c2]
          exact q1
        · show kB_X12_minutesGo_7 (kL_X12_minutesGo_7 x b a2 f) x b a2 k v = _
          unfold kB_X12_minutesGo_7
          simp only [fz_lt, fz_ls, t3, e3, ← g5]
          rw [if_pos c1, if_pos c2]
          unfold kJ_X12_minuteGoes_121
          simp only [fz_lt, fz_ls, t3, z5, s1, ← hz2]
          exact q2
      · refine ⟨u, v, ?_, ?_, zn_ca.rf, zn_ra.rf, hR⟩
        · show kB_X5_pass_5 (kL_X5_pass_5 x (N 0) la f) x (N 0) la n k u = _
          unfold kB_X5_pass_5
          simp only [fz_lt]
          rw [if_pos c1, if_neg c2, hn]
        · show kB_X12_minutesGo_7 (kL_X12_minutesGo_7 x b a2 f) x b a2 k v = _
          unfold kB_X12_minutesGo_7
          simp only [fz_lt, t3, ← g5]
          rw [if_pos c1, if_neg c2]
    · refine ⟨u, v, ?_, ?_, zn_ca.rf, zn_ra.rf, hR⟩
      · show kB_X5_pass_5 (kL_X5_pass_5 x (N 0) la f) x (N 0) la n k u = _
        unfold kB_X5_pass_5
        simp only [fz_lt]
        rw [if_neg c1, hn]
      · show kB_X12_minutesGo_7 (kL_X12_minutesGo_7 x b a2 f) x b a2 k v = _
        unfold kB_X12_minutesGo_7
        rw [if_neg c1]
/-- minutes, whole -/
theorem zn_go (X : zn_X N la bk) (Y : zn_Y a2 b bq bf) (hD : 8 ≤ D ∧ D ≤ 64) (bd : zp_bd A B D) (hx : 1 ≤ x ∧ x ≤ 600) (hP : zn_P N u) (h0 : v a2 0 = (b : Int)) (hR : zn_R N b D u v) (hrow : zn_row N b u v) (qc : zn_qc N la bk A B D u) (qr : zn_qr a2 b bq bf A B D v) : ∃ (w z : fx_U), f_X5_pass u (N 0) la x = (z a2 29, w) ∧ f_X12_minutesGo v a2 x = z ∧ zn_ca N la bk u w ∧ zn_ra a2 b bq bf v z ∧ zn_R N b D w z := by
  obtain ⟨v1, hv1⟩ : ∃ q : fx_U, q = fx_pt v a2 29 0 := ⟨_, rfl⟩
  have ra1 : zn_ra a2 b bq bf v v1 := by
    rw [hv1]
    exact ⟨fun c h _ _ _ i => zz_pa h, fun j hj => zz_pj hj, fun j _ => zz_pa Y.1.1⟩
  have vb : ∀ j : Nat, v1 b j = v b j := fun j => by
    rw [hv1]
    exact zz_pa Y.1.1
  have R1 : zn_R N b D u v1 := by
    obtain ⟨hG, hd, ⟨hA0, hA1⟩, hne, hC⟩ := hR
    exact ⟨zn_Gm hG (fun _ => rfl) ⟨vb _, vb _, vb _, vb _⟩, fun j hj => zn_Dm (hd j hj) ⟨rfl, rfl, rfl, rfl, rfl⟩ ⟨vb _, vb _, vb _, vb _, vb _⟩, ⟨zn_Am hA0 ⟨rfl, rfl, rfl, rfl⟩ (fun _ => rfl) ⟨vb _, vb _, vb _, vb _⟩, zn_Am hA1 ⟨rfl, rfl, rfl, rfl⟩ (fun _ => rfl) ⟨vb _, vb _, vb _, vb _⟩⟩, hne, fun c hc => zn_Cm (hC c hc) ⟨rfl, rfl⟩ ⟨vb _, vb _, vb _⟩⟩
  have z29 : v1 a2 29 = 0 := by
    rw [hv1]
    exact zz_ps
  obtain ⟨w, z, e1, e2, e3, e4, e5⟩ := zn_pass X Y hD bd hx.2 601 0 0 u v1 (by omega) (by decide) (by decide) z29 (by decide) (by decide) (by decide) hP ((ra1.2.1 0 (by decide)).trans h0) R1 (fun k hk => (hrow k hk).trans (vb k).symm) qc (qr.mv ra1)
  refine ⟨w, z, ?_, ?_, e3, ra1.tr e4, e5⟩
  · unfold f_X5_pass
    rw [show Int.toNat (600 - 0) + 1 = 601 from rfl]
    exact e1
  · unfold f_X12_minutesGo
    simp only [fz_lr, fz_ls, h0, Int.toNat_natCast, ← hv1, show Int.toNat (600 - 0) + 1 = 601 from rfl]
    exact e2
end Pass
