/-! THE NIGHT: kept, undone, tried -/
section Kept
variable {N M : Nat → Nat} {la bk a1 a2 b b2 bq bf : Nat} {A B : Int → Int → Int → Int} {D x1 x2 : Int} {u v w z : fx_U}
/-- two roads, all of whose rows lie apart -/
def zn_two (N M : Nat → Nat) : Prop := zp_dis 15 M ∧ ∀ k j : Nat, k ≤ 14 → j ≤ 14 → N k ≠ M j
theorem zn_keepW (T : zn_two N M) (hN : zn_P N u) (hM : zn_P M u) (h5 : u a1 5 = (N 0 : Int)) (h6 : u a1 6 = (M 0 : Int)) (n1 : ∀ j : Nat, j ≤ 14 → a1 ≠ M j ∧ a1 ≠ N j) (h0 : v a2 0 = (b : Int)) (h2 : v a2 2 = (b2 : Int)) (n2 : b ≠ b2 ∧ a2 ≠ b ∧ a2 ≠ b2) (hR : zn_R N b D u v) (hD : D ≤ 64) : ∃ (w z : fx_U) (m : Int), f_X11_keep u a1 = (m, w) ∧ f_X12_keep v a2 = (m, z) ∧ zn_R N b D w z ∧ zn_R M b2 D w z := by
  obtain ⟨w, e, f1, f2, f3, f4, f5, f6⟩ := zn_copy T.1 T.2 hM hN
  obtain ⟨v1, hv1⟩ : ∃ q : fx_U, q = fx_pt v a2 45 1 := ⟨_, rfl⟩
  obtain ⟨z, e2, g1, g2⟩ := zn_cq100_102 (u := v1) n2.1
  have wN : ∀ k j : Nat, k ≤ 14 → fx_pt w a1 8 1 (N k) j = u (N k) j := fun k j hk => (zz_pa (n1 k hk).2.symm).trans (f1 (N k) (fun i hi => T.2 k i hk hi) j)
  have wM : ∀ k j : Nat, k ≤ 14 → fx_pt w a1 8 1 (M k) j = w (M k) j := fun k j hk => zz_pa (n1 k hk).1.symm
  have vb : ∀ j : Nat, v1 b j = v b j := fun j => by
    rw [hv1]
    exact zz_pa n2.2.1.symm
  have zb : ∀ j : Nat, z b j = v b j := fun j => (g1 b n2.1 j).trans (vb j)
  have zb2 : ∀ j : Nat, j < 549 → z b2 j = v b j := fun j hj => (g2 j hj).trans (vb j)
  have R1 : zn_R N b D (fx_pt w a1 8 1) z := zn_Rcp hR ⟨wN 0 0 (by decide), wN 0 15 (by decide), wN 0 16 (by decide), wN 0 17 (by decide)⟩ (fun k j _ k2 _ => wN k j (by omega)) (fun k a _ k2 _ => wN k a (by omega)) (fun k c _ k2 _ => wN k c (by omega)) (fun j _ => zb j) hD
  have R2 : zn_R M b2 D (fx_pt w a1 8 1) z := zn_Rcp hR ⟨(wM 0 0 (by decide)).trans f6.1, (wM 0 15 (by decide)).trans f6.2.1, (wM 0 16 (by decide)).trans f6.2.2.1, (wM 0 17 (by decide)).trans f6.2.2.2⟩ (fun k j k1 k2 hj => (wM k j (by omega)).trans (f3 k j (by omega) k2 hj)) (fun k a k1 k2 ha => (wM k a (by omega)).trans (f4 k a k1 k2 ha)) (fun k c k1 k2 hc => (wM k c (by omega)).trans (f5 k c k1 k2 hc)) zb2 hD
  have P1 : zn_P N (fx_pt w a1 8 1) := fun j h1 h2 => (wN 0 j (by decide)).trans (hN j h1 h2)
  have z0 : z a2 0 = (b : Int) := by
    refine (g1 a2 n2.2.2 0).trans ?_
    rw [hv1]
    exact (zz_pj (by decide)).trans h0
  refine ⟨fx_pt w a1 8 1, z, f_X12_paintedAll z a2, ?_, ?_, R1, R2⟩
  · unfold f_X11_keep
    simp only [fz_lr, fz_lt, fz_ls, h5, h6, Int.toNat_natCast, e, zn_cP P1 z0 R1 hD]
  · unfold f_X12_keep
    simp only [fz_lr, fz_lt, fz_ls, h0, h2, Int.toNat_natCast, ← hv1, e2]
theorem zn_undoW {k1 k2 : Int} (T : zn_two M N) (hN : zn_P N u) (hM : zn_P M u) (h5 : u a1 5 = (N 0 : Int)) (h6 : u a1 6 = (M 0 : Int)) (h8 : u a1 8 = k1) (h45 : v a2 45 = k2) (hk : k1 = k2) (h0 : v a2 0 = (b : Int)) (h2 : v a2 2 = (b2 : Int)) (n2 : b2 ≠ b) (hR : k1 = 0 → zn_R N b D u v) (hK : k1 ≠ 0 → zn_R M b2 D u v) (hD : D ≤ 64) : ∃ (w z : fx_U) (m : Int), f_X11_undo u a1 = (m, w) ∧ f_X12_undo v a2 = (m, z) ∧ zn_R N b D w z ∧ (k1 ≠ 0 → zn_R M b2 D w z) := by
  by_cases c : k1 = 0
  · have c2 : k2 = 0 := by omega
    refine ⟨u, v, 0, ?_, ?_, hR c, fun h => absurd c h⟩
    · unfold f_X11_undo
      simp only [fz_lr, fz_lt, h8]
      rw [if_pos c]
    · unfold f_X12_undo
      simp only [fz_lr, fz_lt, h45]
      rw [if_pos c2]
  · have c2 : ¬ k2 = 0 := by omega
    obtain ⟨w, e, f1, f2, f3, f4, f5, f6⟩ := zn_copy T.1 T.2 hN hM
    obtain ⟨z, e2, g1, g2⟩ := zn_cq102_100 (u := v) n2
    have wM : ∀ k j : Nat, k ≤ 14 → w (M k) j = u (M k) j := fun k j hk => f1 (M k) (fun i hi => T.2 k i hk hi) j
    refine ⟨w, z, 1, ?_, ?_, zn_Rcp (hK c) f6 (fun k j k1 k2 hj => f3 k j (by omega) k2 hj) f4 f5 g2 hD, fun _ => zn_Rcp (hK c) ⟨wM 0 0 (by decide), wM 0 15 (by decide), wM 0 16 (by decide), wM 0 17 (by decide)⟩ (fun k j _ k2 _ => wM k j (by omega)) (fun k a _ k2 _ => wM k a (by omega)) (fun k c _ k2 _ => wM k c (by omega)) (fun j _ => g1 b2 n2 j) hD⟩
    · unfold f_X11_undo
      simp only [fz_lr, fz_lt, fz_ls, h8, h5, h6, Int.toNat_natCast, e]
      rw [if_neg c]
    · unfold f_X12_undo
      simp only [fz_lr, fz_lt, fz_ls, h45, h0, h2, Int.toNat_natCast, e2]
      rw [if_neg c2]
/-- tried: M is the road that is tried on, b2 the reference's row aside -/
theorem zn_triedW (X : zn_X M la bk) (Y : zn_Y a2 b bq bf) (T : zn_two N M) (hN : zn_P N u) (hM : zn_P M u) (h5 : u a1 5 = (N 0 : Int)) (h7 : u a1 7 = (M 0 : Int)) (h4 : u a1 4 = (la : Int)) (n1 : ∀ j : Nat, j ≤ 14 → a1 ≠ M j) (h0 : v a2 0 = (b : Int)) (h1 : v a2 1 = (b2 : Int)) (n2 : (b ≠ b2 ∧ b2 ≠ b) ∧ (a2 ≠ b2 ∧ b2 ≠ a2) ∧ b2 ≠ bq ∧ b2 ≠ bf) (hR : zn_R N b D u v) (hD : 8 ≤ D ∧ D ≤ 64) (bd : zp_bd A B D) (hrow : zn_row N b u v) (qc : ∀ w : fx_U, (∀ c : Nat, (∀ j : Nat, j ≤ 14 → c ≠ M j) → ∀ i : Nat, w c i = u c i) → zn_P M w → w (M 0) 0 = u (N 0) 0 → (∀ k j : Nat, 1 ≤ k → k ≤ 3 → j < 64 → w (M k) j = u (N k) j) → zn_qc M la bk A B D w) (qr : ∀ z : fx_U, (∀ c : Nat, c ≠ b2 → ∀ i : Nat, z c i = v c i) → zn_qr a2 b bq bf A B D z) : ∃ (w z : fx_U) (m : Int), f_X11_tried u a1 x1 x2 = (m, w) ∧ f_X12_tried v a2 x1 x2 = (m, z) ∧ zn_fr M la bk u w ∧ ∀ j : Nat, j < 549 → z b j = v b j := by
  have in1 : f_X11_isIn u x1 1 600 = f_X12_in v x1 1 600 := rfl
  have in2 : f_X11_isIn u x2 0 6 = f_X12_in v x2 0 6 := rfl
  by_cases c1 : f_X12_in v x1 1 600 = 0
  · refine ⟨u, v, -1, ?_, ?_, zn_fr.rf, fun _ _ => rfl⟩
    · unfold f_X11_tried
      simp only [fz_lr, fz_lt, in1, c1, if_true]
    · unfold f_X12_tried
      simp only [fz_lr, fz_lt, c1, if_true]
  · by_cases c2 : f_X12_in v x2 0 6 = 0
    · refine ⟨u, v, -1, ?_, ?_, zn_fr.rf, fun _ _ => rfl⟩
      · unfold f_X11_tried
        simp only [fz_lr, fz_lt, in1, in2, c2, if_neg c1, if_true]
      · unfold f_X12_tried
        simp only [fz_lr, fz_lt, c2, if_neg c1, if_true]
    · have hx : 1 ≤ x1 ∧ x1 ≤ 600 := by
        unfold f_X12_in at c1
        by_cases t1 : x1 < 1
        · rw [if_pos t1] at c1
          exact absurd rfl c1
        · rw [if_neg t1] at c1
          by_cases t2 : 600 < x1
          · rw [if_pos t2] at c1
            exact absurd rfl c1
          · omega
      obtain ⟨w0, e, f1, f2, f3, f4, f5, f6⟩ := zn_copy T.1 T.2 hM hN
      obtain ⟨v0, e2, g1, g2⟩ := zn_cq100_101 (u := v) n2.1.1
      have R0 : zn_R M b D w0 v0 := zn_Rcp hR f6 (fun k j k1 k2 hj => f3 k j (by omega) k2 hj) f4 f5 (fun j _ => g1 b n2.1.1 j) hD.2
      have r0 : zn_row M b w0 v0 := fun k hk => (f3 1 k (by decide) (by decide) hk).trans ((hrow k hk).trans (g1 b n2.1.1 k).symm)
      have v00 : v0 a2 0 = (b : Int) := (g1 a2 n2.2.1.1 0).trans h0
      have v01 : v0 a2 1 = (b2 : Int) := (g1 a2 n2.2.1.1 1).trans h1
      obtain ⟨w1, v1, k1, k2, k3, k4, k5⟩ := zn_go X Y hD bd hx f2 v00 R0 r0 (qc w0 f1 f2 f6.1 (fun k j k1 k2 hj => f3 k j k1 (by omega) hj)) (qr v0 g1)
      obtain ⟨z, e3, l1, l2⟩ := zn_cq101_100 (u := v1) n2.1.2
      have P1 := f2.ca k3
      have v10 : v1 a2 0 = (b : Int) := (k4.2.1 0 (by decide)).trans v00
      have r1 : zn_row M b w1 v1 := r0.ca X k3 k4
      have fr : zn_fr M la bk u w1 := fun c h1 h2 h3 i => (k3.fr c h1 h2 h3 i).trans (f1 c h3 i)
      have zb : ∀ j : Nat, j < 549 → z b j = v b j := fun j hj => (l2 j hj).trans ((k4.1 b2 n2.2.1.2 n2.1.2 n2.2.2.1 n2.2.2.2 j).trans (g2 j hj))
      have a4 : w0 a1 4 = (la : Int) := (f1 a1 n1 4).trans h4
      have p10 := P1 10 (by decide) (by decide)
      have g := k5.1.1
      have A0 := k5.2.2.1.1.2.2.1
      have A1 := k5.2.2.1.2.2.2.1
      have cP := zn_cP P1 v10 k5 hD.2
      have cS := zn_cS P1 v10 k5 hD.2
      have cW := zn_cW P1 v10 k5 hD.2
      have cO := zn_cO P1 v10 k5 r1 hD.2
      have t0 : Int.toNat 0 = 0 := rfl
      have t1 : Int.toNat 1 = 1 := rfl
      have eB : ∀ m : Int, kJ_X12_tried_164 v1 b2 b m = (m, z) := fun m => by
        unfold kJ_X12_tried_164
        simp only [fz_ls, e3]
      have EA : f_X11_tried u a1 x1 x2 = (if x2 = 0 then (f_X12_paintedAll v1 a2, w1) else if x2 = 1 then (f_X12_spoiltAll v1 a2, w1) else if x2 = 2 then (f_X12_wetAll v1 a2, w1) else if x2 = 3 then (if f_X12_paintedAll v1 a2 = D then (if f_X12_wetAll v1 a2 = 0 then (1, w1) else (0, w1)) else (0, w1)) else if x2 = 4 then (v1 b 520, w1) else if x2 = 5 then (v1 b 521, w1) else (f_X12_offAll v1 a2, w1)) := by
        unfold f_X11_tried
        simp only [fz_lr, fz_lt, fz_ls, fz_lc, in1, in2, if_neg c1, if_neg c2, h7, h5, Int.toNat_natCast, e, a4, k1, cP, cS, cW, cO, g.1, p10, t0, t1, A0, A1]
      have EB : f_X12_tried v a2 x1 x2 = (if x2 = 0 then (f_X12_paintedAll v1 a2, z) else if x2 = 1 then (f_X12_spoiltAll v1 a2, z) else if x2 = 2 then (f_X12_wetAll v1 a2, z) else if x2 = 3 then (if f_X12_paintedAll v1 a2 = D then (if f_X12_wetAll v1 a2 = 0 then (1, z) else (0, z)) else (0, z)) else if x2 = 4 then (v1 b 520, z) else if x2 = 5 then (v1 b 521, z) else (f_X12_offAll v1 a2, z)) := by
        unfold f_X12_tried kJ_X12_tried_130 kJ_X12_tried_131
        simp only [fz_lr, fz_lt, fz_ls, fz_lc, if_neg c1, if_neg c2, h0, h1, Int.toNat_natCast, e2, k2, eB, show Int.toNat 512 = 512 from rfl, show Int.toNat 520 = 520 from rfl, show Int.toNat 521 = 521 from rfl, g.2]
      have fin : ∃ m : Int, f_X11_tried u a1 x1 x2 = (m, w1) ∧ f_X12_tried v a2 x1 x2 = (m, z) := by
        rw [EA, EB]
        by_cases q0 : x2 = 0
        · rw [if_pos q0, if_pos q0]
          exact ⟨_, rfl, rfl⟩
        · rw [if_neg q0, if_neg q0]
          by_cases q1 : x2 = 1
          · rw [if_pos q1, if_pos q1]
            exact ⟨_, rfl, rfl⟩
          · rw [if_neg q1, if_neg q1]
            by_cases q2 : x2 = 2
            · rw [if_pos q2, if_pos q2]
              exact ⟨_, rfl, rfl⟩
            · rw [if_neg q2, if_neg q2]
              by_cases q3 : x2 = 3
              · rw [if_pos q3, if_pos q3]
                by_cases s1 : f_X12_paintedAll v1 a2 = D
                · rw [if_pos s1, if_pos s1]
                  by_cases s2 : f_X12_wetAll v1 a2 = 0
                  · rw [if_pos s2, if_pos s2]
                    exact ⟨_, rfl, rfl⟩
                  · rw [if_neg s2, if_neg s2]
                    exact ⟨_, rfl, rfl⟩
                · rw [if_neg s1, if_neg s1]
                  exact ⟨_, rfl, rfl⟩
              · rw [if_neg q3, if_neg q3]
                by_cases q4 : x2 = 4
                · rw [if_pos q4, if_pos q4]
                  exact ⟨_, rfl, rfl⟩
                · rw [if_neg q4, if_neg q4]
                  by_cases q5 : x2 = 5
                  · rw [if_pos q5, if_pos q5]
                    exact ⟨_, rfl, rfl⟩
                  · rw [if_neg q5, if_neg q5]
                    exact ⟨_, rfl, rfl⟩
      obtain ⟨m, m1, m2⟩ := fin
      exact ⟨w1, z, m, m1, m2, fr, zb⟩
end Kept
