/-! ALL IS PAINTED BY BOTH: starts and ends in the reference -/
def zp_S (J : Nat → Nat) (z : fx_U) (L H d0 d1 l0 l1 : Int) : Prop := (z (J 0) 39 = L ∧ z (J 0) 40 = H) ∧ (z (J 7) 0 = d0 ∧ z (J 7) 1 = d1) ∧ z (J 8) 0 = l0 ∧ z (J 8) 1 = l1
section Planr
variable {J : Nat → Nat} {A B : Int → Int → Int → Int} {D L H d0 d1 l0 l1 t x : Int} {v w y z : fx_U}
theorem zp_ra.rf : zp_ra J v v := ⟨fun _ _ _ _ _ _ _ _ _ _ _ => rfl, fun _ _ => rfl⟩
theorem zp_ra.fb (hJ : zp_dis 9 J) (h : zp_ra J v z) (k : zv_fb (J 1) (J 2) z y) : zp_ra J v y := ⟨fun b h0 h1 h2 h3 h4 h5 h6 h7 h8 i => (k b h1 h2 i).trans (h.1 b h0 h1 h2 h3 h4 h5 h6 h7 h8 i), fun j hj => (k (J 0) (hJ 0 1 (by decide) (by decide) (by decide)) (hJ 0 2 (by decide) (by decide) (by decide)) j).trans (h.2 j hj)⟩
theorem zp_ra.rw (hJ : zp_dis 9 J) {r j : Nat} {x : Int} (hr : r = 3 ∨ r = 4 ∨ r = 5 ∨ r = 6 ∨ r = 7 ∨ r = 8) (h : zp_ra J v z) : zp_ra J v (fx_pt z (J r) j x) := by
  refine ⟨fun b h0 h1 h2 h3 h4 h5 h6 h7 h8 i => (zz_pa ?_).trans (h.1 b h0 h1 h2 h3 h4 h5 h6 h7 h8 i), fun j hj => (zz_pa (hJ 0 r (by decide) (by omega) (by omega))).trans (h.2 j hj)⟩
  rcases hr with e | e | e | e | e | e <;> rw [e] <;> assumption
theorem zp_ra.a2 (hJ : zp_dis 9 J) {j : Nat} {x : Int} (hj : 39 ≤ j ∧ j ≤ 42) (h : zp_ra J v z) : zp_ra J v (fx_pt z (J 0) j x) := ⟨fun b h0 h1 h2 h3 h4 h5 h6 h7 h8 i => (zz_pa h0).trans (h.1 b h0 h1 h2 h3 h4 h5 h6 h7 h8 i), fun i hi => (zz_pj (by omega)).trans (h.2 i hi)⟩
theorem zp_n0 (hp : zp_pr J v) (hz : zp_ra J v z) (hS : zp_S J z L H d0 d1 l0 l1) (h : d0 ≠ -1 ∨ H < L) : f_X12_startsOne_0 z (J 0) x t = z := by
  have p7 : z (J 0) 37 = (J 7 : Int) := (hz.2 37 (by decide)).trans hp.2.1
  have p8 : z (J 0) 38 = (J 8 : Int) := (hz.2 38 (by decide)).trans hp.2.2
  obtain ⟨⟨s1, s2⟩, ⟨s3, s4⟩, s5, s6⟩ := hS
  have t0 : Int.toNat 0 = 0 := rfl
  have t1 : Int.toNat 1 = 1 := rfl
  unfold f_X12_startsOne_0
  simp only [fz_lt, fz_lr, p7, p8, Int.toNat_natCast, s1, s2, t0, t1, s3, s4, s5, s6]
  by_cases g : d0 = -1
  · rw [if_pos g, if_pos (by omega)]
  · rw [if_neg g]
theorem zp_s0 (hJ : zp_dis 9 J) (hq : zp_qr J A B D v) (hp : zp_pr J v) (hz : zp_ra J v z) (hS : zp_S J z L H (-1) d1 l0 l1) (hL : L ≤ H) (h0 : 0 ≤ L ∧ H < D) : ∃ y : fx_U, f_X12_startsOne_0 z (J 0) x t = y ∧ zp_ra J v y ∧ zp_S J y (L + 1) H L d1 (A L t 0) l1 ∧ (y (J 5) L.toNat = t ∧ ∀ j : Nat, j ≠ L.toNat → y (J 5) j = z (J 5) j) ∧ (∀ j : Nat, y (J 3) j = z (J 3) j ∧ y (J 4) j = z (J 4) j ∧ y (J 6) j = z (J 6) j) ∧ (y (J 0) 41 = z (J 0) 41 ∧ y (J 0) 42 = z (J 0) 42) := by
  have n01 : J 0 ≠ J 1 := hJ 0 1 (by decide) (by decide) (by decide)
  have n02 : J 0 ≠ J 2 := hJ 0 2 (by decide) (by decide) (by decide)
  have n05 : J 0 ≠ J 5 := hJ 0 5 (by decide) (by decide) (by decide)
  have n07 : J 0 ≠ J 7 := hJ 0 7 (by decide) (by decide) (by decide)
  have n08 : J 0 ≠ J 8 := hJ 0 8 (by decide) (by decide) (by decide)
  have n30 : J 3 ≠ J 0 := hJ 3 0 (by decide) (by decide) (by decide)
  have n31 : J 3 ≠ J 1 := hJ 3 1 (by decide) (by decide) (by decide)
  have n32 : J 3 ≠ J 2 := hJ 3 2 (by decide) (by decide) (by decide)
  have n35 : J 3 ≠ J 5 := hJ 3 5 (by decide) (by decide) (by decide)
  have n37 : J 3 ≠ J 7 := hJ 3 7 (by decide) (by decide) (by decide)
  have n38 : J 3 ≠ J 8 := hJ 3 8 (by decide) (by decide) (by decide)
  have n40 : J 4 ≠ J 0 := hJ 4 0 (by decide) (by decide) (by decide)
  have n41 : J 4 ≠ J 1 := hJ 4 1 (by decide) (by decide) (by decide)
  have n42 : J 4 ≠ J 2 := hJ 4 2 (by decide) (by decide) (by decide)
  have n45 : J 4 ≠ J 5 := hJ 4 5 (by decide) (by decide) (by decide)
  have n47 : J 4 ≠ J 7 := hJ 4 7 (by decide) (by decide) (by decide)
  have n48 : J 4 ≠ J 8 := hJ 4 8 (by decide) (by decide) (by decide)
  have n50 : J 5 ≠ J 0 := hJ 5 0 (by decide) (by decide) (by decide)
  have n51 : J 5 ≠ J 1 := hJ 5 1 (by decide) (by decide) (by decide)
  have n52 : J 5 ≠ J 2 := hJ 5 2 (by decide) (by decide) (by decide)
  have n57 : J 5 ≠ J 7 := hJ 5 7 (by decide) (by decide) (by decide)
  have n58 : J 5 ≠ J 8 := hJ 5 8 (by decide) (by decide) (by decide)
  have n60 : J 6 ≠ J 0 := hJ 6 0 (by decide) (by decide) (by decide)
  have n61 : J 6 ≠ J 1 := hJ 6 1 (by decide) (by decide) (by decide)
  have n62 : J 6 ≠ J 2 := hJ 6 2 (by decide) (by decide) (by decide)
  have n65 : J 6 ≠ J 5 := hJ 6 5 (by decide) (by decide) (by decide)
  have n67 : J 6 ≠ J 7 := hJ 6 7 (by decide) (by decide) (by decide)
  have n68 : J 6 ≠ J 8 := hJ 6 8 (by decide) (by decide) (by decide)
  have n70 : J 7 ≠ J 0 := hJ 7 0 (by decide) (by decide) (by decide)
  have n71 : J 7 ≠ J 1 := hJ 7 1 (by decide) (by decide) (by decide)
  have n72 : J 7 ≠ J 2 := hJ 7 2 (by decide) (by decide) (by decide)
  have n75 : J 7 ≠ J 5 := hJ 7 5 (by decide) (by decide) (by decide)
  have n78 : J 7 ≠ J 8 := hJ 7 8 (by decide) (by decide) (by decide)
  have n80 : J 8 ≠ J 0 := hJ 8 0 (by decide) (by decide) (by decide)
  have n81 : J 8 ≠ J 1 := hJ 8 1 (by decide) (by decide) (by decide)
  have n82 : J 8 ≠ J 2 := hJ 8 2 (by decide) (by decide) (by decide)
  have n85 : J 8 ≠ J 5 := hJ 8 5 (by decide) (by decide) (by decide)
  have n87 : J 8 ≠ J 7 := hJ 8 7 (by decide) (by decide) (by decide)
  have p7 : z (J 0) 37 = (J 7 : Int) := (hz.2 37 (by decide)).trans hp.2.1
  have p8 : z (J 0) 38 = (J 8 : Int) := (hz.2 38 (by decide)).trans hp.2.2
  have p5 : z (J 0) 35 = (J 5 : Int) := (hz.2 35 (by decide)).trans hp.1.2.2.1
  obtain ⟨⟨s1, s2⟩, ⟨s3, s4⟩, s5, s6⟩ := hS
  have t0 : Int.toNat 0 = 0 := rfl
  have t1 : Int.toNat 1 = 1 := rfl
  obtain ⟨u, hu⟩ : ∃ u : fx_U, u = fx_pt (fx_pt (fx_pt z (J 7) 0 L) (J 0) 39 (L + 1)) (J 5) L.toNat t := ⟨_, rfl⟩
  have ku : zp_ra J v u := by
    rw [hu]
    exact zp_ra.rw hJ (by decide) (zp_ra.a2 hJ (by decide) (zp_ra.rw hJ (by decide) hz))
  obtain ⟨⟨r, e1, g1⟩, -⟩ := hq u ku L t 0 (by omega) (by omega) (by decide)
  have p35 : fx_pt (fx_pt z (J 7) 0 L) (J 0) 39 (L + 1) (J 0) 35 = (J 5 : Int) := (zz_pj (by decide)).trans ((zz_pa n07).trans p5)
  have nL : ¬ H < L := by omega
  have n10 : ¬ ((1 : Int) = 0) := by decide
  have e : f_X12_startsOne_0 z (J 0) x t = fx_pt r (J 8) 0 (A L t 0) := by
    unfold f_X12_startsOne_0
    simp only [fz_lt, fz_lr, fz_ls, fz_lc, p7, p8, Int.toNat_natCast, s1, s2, t0, t1, s3, s4, s5, s6, if_true, eq_self, if_neg nL, if_neg n10, p35, ← hu, e1]
  have ub : ∀ b j : Nat, b ≠ J 0 → b ≠ J 5 → b ≠ J 7 → u b j = z b j := fun b j h1 h2 h3 => by
    rw [hu]
    exact (zz_pa h2).trans ((zz_pa h1).trans (zz_pa h3))
  have rb : ∀ b j : Nat, b ≠ J 1 → b ≠ J 2 → r b j = u b j := fun b j h1 h2 => g1 b h1 h2 j
  refine ⟨_, e, zp_ra.rw hJ (by decide) (ku.fb hJ g1), ⟨⟨?_, ?_⟩, ⟨?_, ?_⟩, ?_, ?_⟩, ⟨?_, fun j hj => ?_⟩, fun j => ⟨?_, ?_, ?_⟩, ?_, ?_⟩
  · rw [zz_pa n08, rb _ _ n01 n02, hu, zz_pa n05]
    exact zz_ps
  · rw [zz_pa n08, rb _ _ n01 n02, hu, zz_pa n05, zz_pj (by decide), zz_pa n07]
    exact s2
  · rw [zz_pa n78, rb _ _ n71 n72, hu, zz_pa n75, zz_pa n70]
    exact zz_ps
  · rw [zz_pa n78, rb _ _ n71 n72, hu, zz_pa n75, zz_pa n70, zz_pj (by decide)]
    exact s4
  · exact zz_ps
  · rw [zz_pj (by decide), rb _ _ n81 n82, ub _ _ n80 n85 n87]
    exact s6
  · rw [zz_pa n58, rb _ _ n51 n52, hu]
    exact zz_ps
  · rw [zz_pa n58, rb _ _ n51 n52, hu, zz_pj hj, zz_pa n50]
    exact zz_pa n57
  · rw [zz_pa n38, rb _ _ n31 n32]
    exact ub _ _ n30 n35 n37
  · rw [zz_pa n48, rb _ _ n41 n42]
    exact ub _ _ n40 n45 n47
  · rw [zz_pa n68, rb _ _ n61 n62]
    exact ub _ _ n60 n65 n67
  · rw [zz_pa n08, rb _ _ n01 n02, hu, zz_pa n05, zz_pj (by decide)]
    exact zz_pa n07
  · rw [zz_pa n08, rb _ _ n01 n02, hu, zz_pa n05, zz_pj (by decide)]
    exact zz_pa n07
theorem zp_i0 (hp : zp_pr J v) (hz : zp_ra J v z) (hS : zp_S J z L H d0 d1 l0 l1) (h : d0 = -1) : f_X12_endsOne_0 z (J 0) x t = z := by
  have p7 : z (J 0) 37 = (J 7 : Int) := (hz.2 37 (by decide)).trans hp.2.1
  have p8 : z (J 0) 38 = (J 8 : Int) := (hz.2 38 (by decide)).trans hp.2.2
  obtain ⟨⟨s1, s2⟩, ⟨s3, s4⟩, s5, s6⟩ := hS
  have t0 : Int.toNat 0 = 0 := rfl
  have t1 : Int.toNat 1 = 1 := rfl
  unfold f_X12_endsOne_0
  simp only [fz_lt, fz_lr, p7, p8, Int.toNat_natCast, s1, s2, t0, t1, s3, s4, s5, s6]
  rw [if_pos h]
theorem zp_g0 (hJ : zp_dis 9 J) (hp : zp_pr J v) (hz : zp_ra J v z) (hS : zp_S J z L H d0 d1 l0 l1) (h : d0 ≠ -1) (hl : 1 < l0) : ∃ y : fx_U, f_X12_endsOne_0 z (J 0) x t = y ∧ zp_ra J v y ∧ zp_S J y L H d0 d1 (l0 - 1) l1 ∧ (∀ b j : Nat, b ≠ J 8 → y b j = z b j) := by
  have n08 : J 0 ≠ J 8 := hJ 0 8 (by decide) (by decide) (by decide)
  have n78 : J 7 ≠ J 8 := hJ 7 8 (by decide) (by decide) (by decide)
  have p7 : z (J 0) 37 = (J 7 : Int) := (hz.2 37 (by decide)).trans hp.2.1
  have p8 : z (J 0) 38 = (J 8 : Int) := (hz.2 38 (by decide)).trans hp.2.2
  obtain ⟨⟨s1, s2⟩, ⟨s3, s4⟩, s5, s6⟩ := hS
  have t0 : Int.toNat 0 = 0 := rfl
  have t1 : Int.toNat 1 = 1 := rfl
  have nl : 0 < l0 - 1 := by omega
  have e : f_X12_endsOne_0 z (J 0) x t = fx_pt z (J 8) 0 (l0 - 1) := by
    unfold f_X12_endsOne_0
    simp only [fz_lt, fz_lr, fz_ls, p7, p8, Int.toNat_natCast, s1, s2, t0, t1, s3, s4, s5, s6, if_neg h, if_pos nl]
  refine ⟨_, e, zp_ra.rw hJ (by decide) hz, ⟨⟨?_, ?_⟩, ⟨?_, ?_⟩, ?_, ?_⟩, fun b j hb => zz_pa hb⟩
  · exact (zz_pa n08).trans s1
  · exact (zz_pa n08).trans s2
  · exact (zz_pa n78).trans s3
  · exact (zz_pa n78).trans s4
  · exact zz_ps
  · exact (zz_pj (by decide)).trans s6
theorem zp_e0 (hJ : zp_dis 9 J) (hq : zp_qr J A B D v) (hb : zp_bd A B D) (hp : zp_pr J v) (hz : zp_ra J v z) (hS : zp_S J z L H d0 d1 l0 l1) (h : 0 ≤ d0 ∧ d0 < D) (hl : l0 = 1) (ht : 0 ≤ t ∧ t ≤ 2000) : ∃ y : fx_U, f_X12_endsOne_0 z (J 0) x t = y ∧ zp_ra J v y ∧ zp_S J y L H (-1) d1 (l0 - 1) l1 ∧ (∀ j : Nat, y (J 5) j = z (J 5) j) ∧ (y (J 3) d0.toNat = t + 1 ∧ y (J 4) d0.toNat = 0 ∧ y (J 6) d0.toNat = t + 1 + B d0 (t + 1) 0) ∧ (∀ j : Nat, j ≠ d0.toNat → y (J 3) j = z (J 3) j ∧ y (J 4) j = z (J 4) j ∧ y (J 6) j = z (J 6) j) ∧ (y (J 0) 41 = d0 ∧ y (J 0) 42 = t + 1) := by
  have n01 : J 0 ≠ J 1 := hJ 0 1 (by decide) (by decide) (by decide)
  have n02 : J 0 ≠ J 2 := hJ 0 2 (by decide) (by decide) (by decide)
  have n03 : J 0 ≠ J 3 := hJ 0 3 (by decide) (by decide) (by decide)
  have n04 : J 0 ≠ J 4 := hJ 0 4 (by decide) (by decide) (by decide)
  have n05 : J 0 ≠ J 5 := hJ 0 5 (by decide) (by decide) (by decide)
  have n06 : J 0 ≠ J 6 := hJ 0 6 (by decide) (by decide) (by decide)
  have n07 : J 0 ≠ J 7 := hJ 0 7 (by decide) (by decide) (by decide)
  have n08 : J 0 ≠ J 8 := hJ 0 8 (by decide) (by decide) (by decide)
  have n10 : J 1 ≠ J 0 := hJ 1 0 (by decide) (by decide) (by decide)
  have n12 : J 1 ≠ J 2 := hJ 1 2 (by decide) (by decide) (by decide)
  have n13 : J 1 ≠ J 3 := hJ 1 3 (by decide) (by decide) (by decide)
  have n14 : J 1 ≠ J 4 := hJ 1 4 (by decide) (by decide) (by decide)
  have n15 : J 1 ≠ J 5 := hJ 1 5 (by decide) (by decide) (by decide)
  have n16 : J 1 ≠ J 6 := hJ 1 6 (by decide) (by decide) (by decide)
  have n17 : J 1 ≠ J 7 := hJ 1 7 (by decide) (by decide) (by decide)
  have n18 : J 1 ≠ J 8 := hJ 1 8 (by decide) (by decide) (by decide)
  have n20 : J 2 ≠ J 0 := hJ 2 0 (by decide) (by decide) (by decide)
  have n21 : J 2 ≠ J 1 := hJ 2 1 (by decide) (by decide) (by decide)
  have n23 : J 2 ≠ J 3 := hJ 2 3 (by decide) (by decide) (by decide)
  have n24 : J 2 ≠ J 4 := hJ 2 4 (by decide) (by decide) (by decide)
  have n25 : J 2 ≠ J 5 := hJ 2 5 (by decide) (by decide) (by decide)
  have n26 : J 2 ≠ J 6 := hJ 2 6 (by decide) (by decide) (by decide)
  have n27 : J 2 ≠ J 7 := hJ 2 7 (by decide) (by decide) (by decide)
  have n28 : J 2 ≠ J 8 := hJ 2 8 (by decide) (by decide) (by decide)
  have n30 : J 3 ≠ J 0 := hJ 3 0 (by decide) (by decide) (by decide)
  have n31 : J 3 ≠ J 1 := hJ 3 1 (by decide) (by decide) (by decide)
  have n32 : J 3 ≠ J 2 := hJ 3 2 (by decide) (by decide) (by decide)
  have n34 : J 3 ≠ J 4 := hJ 3 4 (by decide) (by decide) (by decide)
  have n35 : J 3 ≠ J 5 := hJ 3 5 (by decide) (by decide) (by decide)
  have n36 : J 3 ≠ J 6 := hJ 3 6 (by decide) (by decide) (by decide)
  have n37 : J 3 ≠ J 7 := hJ 3 7 (by decide) (by decide) (by decide)
  have n38 : J 3 ≠ J 8 := hJ 3 8 (by decide) (by decide) (by decide)
  have n40 : J 4 ≠ J 0 := hJ 4 0 (by decide) (by decide) (by decide)
  have n41 : J 4 ≠ J 1 := hJ 4 1 (by decide) (by decide) (by decide)
  have n42 : J 4 ≠ J 2 := hJ 4 2 (by decide) (by decide) (by decide)
  have n43 : J 4 ≠ J 3 := hJ 4 3 (by decide) (by decide) (by decide)
  have n45 : J 4 ≠ J 5 := hJ 4 5 (by decide) (by decide) (by decide)
  have n46 : J 4 ≠ J 6 := hJ 4 6 (by decide) (by decide) (by decide)
  have n47 : J 4 ≠ J 7 := hJ 4 7 (by decide) (by decide) (by decide)
  have n48 : J 4 ≠ J 8 := hJ 4 8 (by decide) (by decide) (by decide)
  have n50 : J 5 ≠ J 0 := hJ 5 0 (by decide) (by decide) (by decide)
  have n51 : J 5 ≠ J 1 := hJ 5 1 (by decide) (by decide) (by decide)
  have n52 : J 5 ≠ J 2 := hJ 5 2 (by decide) (by decide) (by decide)
  have n53 : J 5 ≠ J 3 := hJ 5 3 (by decide) (by decide) (by decide)
  have n54 : J 5 ≠ J 4 := hJ 5 4 (by decide) (by decide) (by decide)
  have n56 : J 5 ≠ J 6 := hJ 5 6 (by decide) (by decide) (by decide)
  have n57 : J 5 ≠ J 7 := hJ 5 7 (by decide) (by decide) (by decide)
  have n58 : J 5 ≠ J 8 := hJ 5 8 (by decide) (by decide) (by decide)
  have n60 : J 6 ≠ J 0 := hJ 6 0 (by decide) (by decide) (by decide)
  have n61 : J 6 ≠ J 1 := hJ 6 1 (by decide) (by decide) (by decide)
  have n62 : J 6 ≠ J 2 := hJ 6 2 (by decide) (by decide) (by decide)
  have n63 : J 6 ≠ J 3 := hJ 6 3 (by decide) (by decide) (by decide)
  have n64 : J 6 ≠ J 4 := hJ 6 4 (by decide) (by decide) (by decide)
  have n65 : J 6 ≠ J 5 := hJ 6 5 (by decide) (by decide) (by decide)
  have n67 : J 6 ≠ J 7 := hJ 6 7 (by decide) (by decide) (by decide)
  have n68 : J 6 ≠ J 8 := hJ 6 8 (by decide) (by decide) (by decide)
  have n70 : J 7 ≠ J 0 := hJ 7 0 (by decide) (by decide) (by decide)
  have n71 : J 7 ≠ J 1 := hJ 7 1 (by decide) (by decide) (by decide)
  have n72 : J 7 ≠ J 2 := hJ 7 2 (by decide) (by decide) (by decide)
  have n73 : J 7 ≠ J 3 := hJ 7 3 (by decide) (by decide) (by decide)
  have n74 : J 7 ≠ J 4 := hJ 7 4 (by decide) (by decide) (by decide)
  have n75 : J 7 ≠ J 5 := hJ 7 5 (by decide) (by decide) (by decide)
  have n76 : J 7 ≠ J 6 := hJ 7 6 (by decide) (by decide) (by decide)
  have n78 : J 7 ≠ J 8 := hJ 7 8 (by decide) (by decide) (by decide)
  have n80 : J 8 ≠ J 0 := hJ 8 0 (by decide) (by decide) (by decide)
  have n81 : J 8 ≠ J 1 := hJ 8 1 (by decide) (by decide) (by decide)
  have n82 : J 8 ≠ J 2 := hJ 8 2 (by decide) (by decide) (by decide)
  have n83 : J 8 ≠ J 3 := hJ 8 3 (by decide) (by decide) (by decide)
  have n84 : J 8 ≠ J 4 := hJ 8 4 (by decide) (by decide) (by decide)
  have n85 : J 8 ≠ J 5 := hJ 8 5 (by decide) (by decide) (by decide)
  have n86 : J 8 ≠ J 6 := hJ 8 6 (by decide) (by decide) (by decide)
  have n87 : J 8 ≠ J 7 := hJ 8 7 (by decide) (by decide) (by decide)
  have p7 : z (J 0) 37 = (J 7 : Int) := (hz.2 37 (by decide)).trans hp.2.1
  have p8 : z (J 0) 38 = (J 8 : Int) := (hz.2 38 (by decide)).trans hp.2.2
  obtain ⟨⟨s1, s2⟩, ⟨s3, s4⟩, s5, s6⟩ := hS
  have t0 : Int.toNat 0 = 0 := rfl
  have t1 : Int.toNat 1 = 1 := rfl
  have nd : ¬ d0 = -1 := by omega
  have nl : ¬ 0 < l0 - 1 := by omega
  obtain ⟨u1, hu1⟩ : ∃ u : fx_U, u = fx_pt z (J 8) 0 (l0 - 1) := ⟨_, rfl⟩
  have k1 : zp_ra J v u1 := by
    rw [hu1]
    exact zp_ra.rw hJ (by decide) hz
  obtain ⟨u2, hu2⟩ : ∃ u : fx_U, u = fx_pt u1 (J 3) d0.toNat (t + 1) := ⟨_, rfl⟩
  have k2 : zp_ra J v u2 := by
    rw [hu2]
    exact zp_ra.rw hJ (by decide) k1
  obtain ⟨u3, hu3⟩ : ∃ u : fx_U, u = fx_pt u2 (J 4) d0.toNat 0 := ⟨_, rfl⟩
  have k3 : zp_ra J v u3 := by
    rw [hu3]
    exact zp_ra.rw hJ (by decide) k2
  obtain ⟨-, r, e1, g1⟩ := hq u3 k3 d0 (t + 1) 0 h.1 h.2 (by decide)
  obtain ⟨-, bb1, bb2⟩ := hb d0 (t + 1) 0 h.1 h.2 (by decide)
  have k4 := k3.fb hJ g1
  have q3 : u1 (J 0) 33 = (J 3 : Int) := (k1.2 33 (by decide)).trans hp.1.1
  have q4 : u2 (J 0) 34 = (J 4 : Int) := (k2.2 34 (by decide)).trans hp.1.2.1
  have q6 : u3 (J 0) 36 = (J 6 : Int) := (k3.2 36 (by decide)).trans hp.1.2.2.2
  have a1 : fx_b_add t 1 = t + 1 := zz_wadd (zz_sml ⟨by omega, by omega⟩) (zz_sml ⟨by decide, by decide⟩) (zz_sml ⟨by omega, by omega⟩)
  have a2 : fx_b_add (t + 1) (B d0 (t + 1) 0) = t + 1 + B d0 (t + 1) 0 := zz_wadd (zz_sml ⟨by omega, by omega⟩) (zz_sml ⟨by omega, by omega⟩) (zz_sml ⟨by omega, by omega⟩)
  have e : f_X12_endsOne_0 z (J 0) x t = fx_pt (fx_pt (fx_pt (fx_pt r (J 6) d0.toNat (t + 1 + B d0 (t + 1) 0)) (J 0) 41 d0) (J 0) 42 (t + 1)) (J 7) 0 (-1) := by
    unfold f_X12_endsOne_0
    simp only [fz_lt, fz_lr, fz_ls, fz_lc, p7, p8, Int.toNat_natCast, s1, s2, t0, t1, s3, s4, s5, s6, if_neg nd, if_neg nl, ← hu1, q3, a1, ← hu2, q4, ← hu3, q6, e1, a2]
  have rb : ∀ b j : Nat, b ≠ J 1 → b ≠ J 2 → b ≠ J 3 → b ≠ J 4 → b ≠ J 8 → r b j = z b j := fun b j h1 h2 h3 h4 h8 => by
    rw [g1 b h1 h2 j, hu3, zz_pa h4, hu2, zz_pa h3, hu1]
    exact zz_pa h8
  refine ⟨_, e, zp_ra.rw hJ (by decide) (zp_ra.a2 hJ (by decide) (zp_ra.a2 hJ (by decide) (zp_ra.rw hJ (by decide) k4))), ⟨⟨?_, ?_⟩, ⟨?_, ?_⟩, ?_, ?_⟩, fun j => ?_, ⟨?_, ?_, ?_⟩, fun j hj => ⟨?_, ?_, ?_⟩, ?_, ?_⟩
  · rw [zz_pa n07, zz_pj (by decide), zz_pj (by decide), zz_pa n06, rb _ _ n01 n02 n03 n04 n08]
    exact s1
  · rw [zz_pa n07, zz_pj (by decide), zz_pj (by decide), zz_pa n06, rb _ _ n01 n02 n03 n04 n08]
    exact s2
  · exact zz_ps
  · rw [zz_pj (by decide), zz_pa n70, zz_pa n70, zz_pa n76, rb _ _ n71 n72 n73 n74 n78]
    exact s4
  · rw [zz_pa n87, zz_pa n80, zz_pa n80, zz_pa n86, g1 _ n81 n82, hu3, zz_pa n84, hu2, zz_pa n83, hu1]
    exact zz_ps
  · rw [zz_pa n87, zz_pa n80, zz_pa n80, zz_pa n86, g1 _ n81 n82, hu3, zz_pa n84, hu2, zz_pa n83, hu1, zz_pj (by decide)]
    exact s6
  · rw [zz_pa n57, zz_pa n50, zz_pa n50, zz_pa n56]
    exact rb _ _ n51 n52 n53 n54 n58
  · rw [zz_pa n37, zz_pa n30, zz_pa n30, zz_pa n36, g1 _ n31 n32, hu3, zz_pa n34, hu2]
    exact zz_ps
  · rw [zz_pa n47, zz_pa n40, zz_pa n40, zz_pa n46, g1 _ n41 n42, hu3]
    exact zz_ps
  · rw [zz_pa n67, zz_pa n60, zz_pa n60]
    exact zz_ps
  · rw [zz_pa n37, zz_pa n30, zz_pa n30, zz_pa n36, g1 _ n31 n32, hu3, zz_pa n34, hu2, zz_pj hj, hu1]
    exact zz_pa n38
  · rw [zz_pa n47, zz_pa n40, zz_pa n40, zz_pa n46, g1 _ n41 n42, hu3, zz_pj hj, hu2, zz_pa n43, hu1]
    exact zz_pa n48
  · rw [zz_pa n67, zz_pa n60, zz_pa n60, zz_pj hj]
    exact rb _ _ n61 n62 n63 n64 n68
  · rw [zz_pa n07, zz_pj (by decide)]
    exact zz_ps
  · rw [zz_pa n07]
    exact zz_ps
theorem zp_n1 (hp : zp_pr J v) (hz : zp_ra J v z) (hS : zp_S J z L H d0 d1 l0 l1) (h : d1 ≠ -1 ∨ H < L) : f_X12_startsOne_1 z (J 0) x t = z := by
  have p7 : z (J 0) 37 = (J 7 : Int) := (hz.2 37 (by decide)).trans hp.2.1
  have p8 : z (J 0) 38 = (J 8 : Int) := (hz.2 38 (by decide)).trans hp.2.2
  obtain ⟨⟨s1, s2⟩, ⟨s3, s4⟩, s5, s6⟩ := hS
  have t0 : Int.toNat 0 = 0 := rfl
  have t1 : Int.toNat 1 = 1 := rfl
  unfold f_X12_startsOne_1
  simp only [fz_lt, fz_lr, p7, p8, Int.toNat_natCast, s1, s2, t0, t1, s3, s4, s5, s6]
  by_cases g : d1 = -1
  · rw [if_pos g, if_pos (by omega)]
  · rw [if_neg g]
theorem zp_s1 (hJ : zp_dis 9 J) (hq : zp_qr J A B D v) (hp : zp_pr J v) (hz : zp_ra J v z) (hS : zp_S J z L H d0 (-1) l0 l1) (hL : L ≤ H) (h0 : 0 ≤ L ∧ H < D) : ∃ y : fx_U, f_X12_startsOne_1 z (J 0) x t = y ∧ zp_ra J v y ∧ zp_S J y L (H - 1) d0 H l0 (A H t 1) ∧ (y (J 5) H.toNat = t ∧ ∀ j : Nat, j ≠ H.toNat → y (J 5) j = z (J 5) j) ∧ (∀ j : Nat, y (J 3) j = z (J 3) j ∧ y (J 4) j = z (J 4) j ∧ y (J 6) j = z (J 6) j) ∧ (y (J 0) 41 = z (J 0) 41 ∧ y (J 0) 42 = z (J 0) 42) := by
  have n01 : J 0 ≠ J 1 := hJ 0 1 (by decide) (by decide) (by decide)
  have n02 : J 0 ≠ J 2 := hJ 0 2 (by decide) (by decide) (by decide)
  have n05 : J 0 ≠ J 5 := hJ 0 5 (by decide) (by decide) (by decide)
  have n07 : J 0 ≠ J 7 := hJ 0 7 (by decide) (by decide) (by decide)
  have n08 : J 0 ≠ J 8 := hJ 0 8 (by decide) (by decide) (by decide)
  have n30 : J 3 ≠ J 0 := hJ 3 0 (by decide) (by decide) (by decide)
  have n31 : J 3 ≠ J 1 := hJ 3 1 (by decide) (by decide) (by decide)
  have n32 : J 3 ≠ J 2 := hJ 3 2 (by decide) (by decide) (by decide)
  have n35 : J 3 ≠ J 5 := hJ 3 5 (by decide) (by decide) (by decide)
  have n37 : J 3 ≠ J 7 := hJ 3 7 (by decide) (by decide) (by decide)
  have n38 : J 3 ≠ J 8 := hJ 3 8 (by decide) (by decide) (by decide)
  have n40 : J 4 ≠ J 0 := hJ 4 0 (by decide) (by decide) (by decide)
  have n41 : J 4 ≠ J 1 := hJ 4 1 (by decide) (by decide) (by decide)
  have n42 : J 4 ≠ J 2 := hJ 4 2 (by decide) (by decide) (by decide)
  have n45 : J 4 ≠ J 5 := hJ 4 5 (by decide) (by decide) (by decide)
  have n47 : J 4 ≠ J 7 := hJ 4 7 (by decide) (by decide) (by decide)
  have n48 : J 4 ≠ J 8 := hJ 4 8 (by decide) (by decide) (by decide)
  have n50 : J 5 ≠ J 0 := hJ 5 0 (by decide) (by decide) (by decide)
  have n51 : J 5 ≠ J 1 := hJ 5 1 (by decide) (by decide) (by decide)
  have n52 : J 5 ≠ J 2 := hJ 5 2 (by decide) (by decide) (by decide)
  have n57 : J 5 ≠ J 7 := hJ 5 7 (by decide) (by decide) (by decide)
  have n58 : J 5 ≠ J 8 := hJ 5 8 (by decide) (by decide) (by decide)
  have n60 : J 6 ≠ J 0 := hJ 6 0 (by decide) (by decide) (by decide)
  have n61 : J 6 ≠ J 1 := hJ 6 1 (by decide) (by decide) (by decide)
  have n62 : J 6 ≠ J 2 := hJ 6 2 (by decide) (by decide) (by decide)
  have n65 : J 6 ≠ J 5 := hJ 6 5 (by decide) (by decide) (by decide)
  have n67 : J 6 ≠ J 7 := hJ 6 7 (by decide) (by decide) (by decide)
  have n68 : J 6 ≠ J 8 := hJ 6 8 (by decide) (by decide) (by decide)
  have n70 : J 7 ≠ J 0 := hJ 7 0 (by decide) (by decide) (by decide)
  have n71 : J 7 ≠ J 1 := hJ 7 1 (by decide) (by decide) (by decide)
  have n72 : J 7 ≠ J 2 := hJ 7 2 (by decide) (by decide) (by decide)
  have n75 : J 7 ≠ J 5 := hJ 7 5 (by decide) (by decide) (by decide)
  have n78 : J 7 ≠ J 8 := hJ 7 8 (by decide) (by decide) (by decide)
  have n80 : J 8 ≠ J 0 := hJ 8 0 (by decide) (by decide) (by decide)
  have n81 : J 8 ≠ J 1 := hJ 8 1 (by decide) (by decide) (by decide)
  have n82 : J 8 ≠ J 2 := hJ 8 2 (by decide) (by decide) (by decide)
  have n85 : J 8 ≠ J 5 := hJ 8 5 (by decide) (by decide) (by decide)
  have n87 : J 8 ≠ J 7 := hJ 8 7 (by decide) (by decide) (by decide)
  have p7 : z (J 0) 37 = (J 7 : Int) := (hz.2 37 (by decide)).trans hp.2.1
  have p8 : z (J 0) 38 = (J 8 : Int) := (hz.2 38 (by decide)).trans hp.2.2
  have p5 : z (J 0) 35 = (J 5 : Int) := (hz.2 35 (by decide)).trans hp.1.2.2.1
  obtain ⟨⟨s1, s2⟩, ⟨s3, s4⟩, s5, s6⟩ := hS
  have t0 : Int.toNat 0 = 0 := rfl
  have t1 : Int.toNat 1 = 1 := rfl
  obtain ⟨u, hu⟩ : ∃ u : fx_U, u = fx_pt (fx_pt (fx_pt z (J 7) 1 H) (J 0) 40 (H - 1)) (J 5) H.toNat t := ⟨_, rfl⟩
  have ku : zp_ra J v u := by
    rw [hu]
    exact zp_ra.rw hJ (by decide) (zp_ra.a2 hJ (by decide) (zp_ra.rw hJ (by decide) hz))
  obtain ⟨⟨r, e1, g1⟩, -⟩ := hq u ku H t 1 (by omega) (by omega) (by decide)
  have p35 : fx_pt (fx_pt z (J 7) 1 H) (J 0) 40 (H - 1) (J 0) 35 = (J 5 : Int) := (zz_pj (by decide)).trans ((zz_pa n07).trans p5)
  have nL : ¬ H < L := by omega
  have n10 : ¬ ((1 : Int) = 0) := by decide
  have e : f_X12_startsOne_1 z (J 0) x t = fx_pt r (J 8) 1 (A H t 1) := by
    unfold f_X12_startsOne_1
    simp only [fz_lt, fz_lr, fz_ls, fz_lc, p7, p8, Int.toNat_natCast, s1, s2, t0, t1, s3, s4, s5, s6, if_true, eq_self, if_neg nL, if_neg n10, p35, ← hu, e1]
  have ub : ∀ b j : Nat, b ≠ J 0 → b ≠ J 5 → b ≠ J 7 → u b j = z b j := fun b j h1 h2 h3 => by
    rw [hu]
    exact (zz_pa h2).trans ((zz_pa h1).trans (zz_pa h3))
  have rb : ∀ b j : Nat, b ≠ J 1 → b ≠ J 2 → r b j = u b j := fun b j h1 h2 => g1 b h1 h2 j
  refine ⟨_, e, zp_ra.rw hJ (by decide) (ku.fb hJ g1), ⟨⟨?_, ?_⟩, ⟨?_, ?_⟩, ?_, ?_⟩, ⟨?_, fun j hj => ?_⟩, fun j => ⟨?_, ?_, ?_⟩, ?_, ?_⟩
  · rw [zz_pa n08, rb _ _ n01 n02, hu, zz_pa n05, zz_pj (by decide), zz_pa n07]
    exact s1
  · rw [zz_pa n08, rb _ _ n01 n02, hu, zz_pa n05]
    exact zz_ps
  · rw [zz_pa n78, rb _ _ n71 n72, hu, zz_pa n75, zz_pa n70, zz_pj (by decide)]
    exact s3
  · rw [zz_pa n78, rb _ _ n71 n72, hu, zz_pa n75, zz_pa n70]
    exact zz_ps
  · rw [zz_pj (by decide), rb _ _ n81 n82, ub _ _ n80 n85 n87]
    exact s5
  · exact zz_ps
  · rw [zz_pa n58, rb _ _ n51 n52, hu]
    exact zz_ps
  · rw [zz_pa n58, rb _ _ n51 n52, hu, zz_pj hj, zz_pa n50]
    exact zz_pa n57
  · rw [zz_pa n38, rb _ _ n31 n32]
    exact ub _ _ n30 n35 n37
  · rw [zz_pa n48, rb _ _ n41 n42]
    exact ub _ _ n40 n45 n47
  · rw [zz_pa n68, rb _ _ n61 n62]
    exact ub _ _ n60 n65 n67
  · rw [zz_pa n08, rb _ _ n01 n02, hu, zz_pa n05, zz_pj (by decide)]
    exact zz_pa n07
  · rw [zz_pa n08, rb _ _ n01 n02, hu, zz_pa n05, zz_pj (by decide)]
    exact zz_pa n07
theorem zp_i1 (hp : zp_pr J v) (hz : zp_ra J v z) (hS : zp_S J z L H d0 d1 l0 l1) (h : d1 = -1) : f_X12_endsOne_1 z (J 0) x t = z := by
  have p7 : z (J 0) 37 = (J 7 : Int) := (hz.2 37 (by decide)).trans hp.2.1
  have p8 : z (J 0) 38 = (J 8 : Int) := (hz.2 38 (by decide)).trans hp.2.2
  obtain ⟨⟨s1, s2⟩, ⟨s3, s4⟩, s5, s6⟩ := hS
  have t0 : Int.toNat 0 = 0 := rfl
  have t1 : Int.toNat 1 = 1 := rfl
  unfold f_X12_endsOne_1
  simp only [fz_lt, fz_lr, p7, p8, Int.toNat_natCast, s1, s2, t0, t1, s3, s4, s5, s6]
  rw [if_pos h]
theorem zp_g1 (hJ : zp_dis 9 J) (hp : zp_pr J v) (hz : zp_ra J v z) (hS : zp_S J z L H d0 d1 l0 l1) (h : d1 ≠ -1) (hl : 1 < l1) : ∃ y : fx_U, f_X12_endsOne_1 z (J 0) x t = y ∧ zp_ra J v y ∧ zp_S J y L H d0 d1 l0 (l1 - 1) ∧ (∀ b j : Nat, b ≠ J 8 → y b j = z b j) := by
  have n08 : J 0 ≠ J 8 := hJ 0 8 (by decide) (by decide) (by decide)
  have n78 : J 7 ≠ J 8 := hJ 7 8 (by decide) (by decide) (by decide)
  have p7 : z (J 0) 37 = (J 7 : Int) := (hz.2 37 (by decide)).trans hp.2.1
  have p8 : z (J 0) 38 = (J 8 : Int) := (hz.2 38 (by decide)).trans hp.2.2
  obtain ⟨⟨s1, s2⟩, ⟨s3, s4⟩, s5, s6⟩ := hS
  have t0 : Int.toNat 0 = 0 := rfl
  have t1 : Int.toNat 1 = 1 := rfl
  have nl : 0 < l1 - 1 := by omega
  have e : f_X12_endsOne_1 z (J 0) x t = fx_pt z (J 8) 1 (l1 - 1) := by
    unfold f_X12_endsOne_1
    simp only [fz_lt, fz_lr, fz_ls, p7, p8, Int.toNat_natCast, s1, s2, t0, t1, s3, s4, s5, s6, if_neg h, if_pos nl]
  refine ⟨_, e, zp_ra.rw hJ (by decide) hz, ⟨⟨?_, ?_⟩, ⟨?_, ?_⟩, ?_, ?_⟩, fun b j hb => zz_pa hb⟩
  · exact (zz_pa n08).trans s1
  · exact (zz_pa n08).trans s2
  · exact (zz_pa n78).trans s3
  · exact (zz_pa n78).trans s4
  · exact (zz_pj (by decide)).trans s5
  · exact zz_ps
theorem zp_e1 (hJ : zp_dis 9 J) (hq : zp_qr J A B D v) (hb : zp_bd A B D) (hp : zp_pr J v) (hz : zp_ra J v z) (hS : zp_S J z L H d0 d1 l0 l1) (h : 0 ≤ d1 ∧ d1 < D) (hl : l1 = 1) (ht : 0 ≤ t ∧ t ≤ 2000) : ∃ y : fx_U, f_X12_endsOne_1 z (J 0) x t = y ∧ zp_ra J v y ∧ zp_S J y L H d0 (-1) l0 (l1 - 1) ∧ (∀ j : Nat, y (J 5) j = z (J 5) j) ∧ (y (J 3) d1.toNat = t + 1 ∧ y (J 4) d1.toNat = 1 ∧ y (J 6) d1.toNat = t + 1 + B d1 (t + 1) 1) ∧ (∀ j : Nat, j ≠ d1.toNat → y (J 3) j = z (J 3) j ∧ y (J 4) j = z (J 4) j ∧ y (J 6) j = z (J 6) j) ∧ (y (J 0) 41 = d1 ∧ y (J 0) 42 = t + 1) := by
  have n01 : J 0 ≠ J 1 := hJ 0 1 (by decide) (by decide) (by decide)
  have n02 : J 0 ≠ J 2 := hJ 0 2 (by decide) (by decide) (by decide)
  have n03 : J 0 ≠ J 3 := hJ 0 3 (by decide) (by decide) (by decide)
  have n04 : J 0 ≠ J 4 := hJ 0 4 (by decide) (by decide) (by decide)
  have n05 : J 0 ≠ J 5 := hJ 0 5 (by decide) (by decide) (by decide)
  have n06 : J 0 ≠ J 6 := hJ 0 6 (by decide) (by decide) (by decide)
  have n07 : J 0 ≠ J 7 := hJ 0 7 (by decide) (by decide) (by decide)
  have n08 : J 0 ≠ J 8 := hJ 0 8 (by decide) (by decide) (by decide)
  have n10 : J 1 ≠ J 0 := hJ 1 0 (by decide) (by decide) (by decide)
  have n12 : J 1 ≠ J 2 := hJ 1 2 (by decide) (by decide) (by decide)
  have n13 : J 1 ≠ J 3 := hJ 1 3 (by decide) (by decide) (by decide)
  have n14 : J 1 ≠ J 4 := hJ 1 4 (by decide) (by decide) (by decide)
  have n15 : J 1 ≠ J 5 := hJ 1 5 (by decide) (by decide) (by decide)
  have n16 : J 1 ≠ J 6 := hJ 1 6 (by decide) (by decide) (by decide)
  have n17 : J 1 ≠ J 7 := hJ 1 7 (by decide) (by decide) (by decide)
  have n18 : J 1 ≠ J 8 := hJ 1 8 (by decide) (by decide) (by decide)
  have n20 : J 2 ≠ J 0 := hJ 2 0 (by decide) (by decide) (by decide)
  have n21 : J 2 ≠ J 1 := hJ 2 1 (by decide) (by decide) (by decide)
  have n23 : J 2 ≠ J 3 := hJ 2 3 (by decide) (by decide) (by decide)
  have n24 : J 2 ≠ J 4 := hJ 2 4 (by decide) (by decide) (by decide)
  have n25 : J 2 ≠ J 5 := hJ 2 5 (by decide) (by decide) (by decide)
  have n26 : J 2 ≠ J 6 := hJ 2 6 (by decide) (by decide) (by decide)
  have n27 : J 2 ≠ J 7 := hJ 2 7 (by decide) (by decide) (by decide)
  have n28 : J 2 ≠ J 8 := hJ 2 8 (by decide) (by decide) (by decide)
  have n30 : J 3 ≠ J 0 := hJ 3 0 (by decide) (by decide) (by decide)
  have n31 : J 3 ≠ J 1 := hJ 3 1 (by decide) (by decide) (by decide)
  have n32 : J 3 ≠ J 2 := hJ 3 2 (by decide) (by decide) (by decide)
  have n34 : J 3 ≠ J 4 := hJ 3 4 (by decide) (by decide) (by decide)
  have n35 : J 3 ≠ J 5 := hJ 3 5 (by decide) (by decide) (by decide)
  have n36 : J 3 ≠ J 6 := hJ 3 6 (by decide) (by decide) (by decide)
  have n37 : J 3 ≠ J 7 := hJ 3 7 (by decide) (by decide) (by decide)
  have n38 : J 3 ≠ J 8 := hJ 3 8 (by decide) (by decide) (by decide)
  have n40 : J 4 ≠ J 0 := hJ 4 0 (by decide) (by decide) (by decide)
  have n41 : J 4 ≠ J 1 := hJ 4 1 (by decide) (by decide) (by decide)
  have n42 : J 4 ≠ J 2 := hJ 4 2 (by decide) (by decide) (by decide)
  have n43 : J 4 ≠ J 3 := hJ 4 3 (by decide) (by decide) (by decide)
  have n45 : J 4 ≠ J 5 := hJ 4 5 (by decide) (by decide) (by decide)
  have n46 : J 4 ≠ J 6 := hJ 4 6 (by decide) (by decide) (by decide)
  have n47 : J 4 ≠ J 7 := hJ 4 7 (by decide) (by decide) (by decide)
  have n48 : J 4 ≠ J 8 := hJ 4 8 (by decide) (by decide) (by decide)
  have n50 : J 5 ≠ J 0 := hJ 5 0 (by decide) (by decide) (by decide)
  have n51 : J 5 ≠ J 1 := hJ 5 1 (by decide) (by decide) (by decide)
  have n52 : J 5 ≠ J 2 := hJ 5 2 (by decide) (by decide) (by decide)
  have n53 : J 5 ≠ J 3 := hJ 5 3 (by decide) (by decide) (by decide)
  have n54 : J 5 ≠ J 4 := hJ 5 4 (by decide) (by decide) (by decide)
  have n56 : J 5 ≠ J 6 := hJ 5 6 (by decide) (by decide) (by decide)
  have n57 : J 5 ≠ J 7 := hJ 5 7 (by decide) (by decide) (by decide)
  have n58 : J 5 ≠ J 8 := hJ 5 8 (by decide) (by decide) (by decide)
  have n60 : J 6 ≠ J 0 := hJ 6 0 (by decide) (by decide) (by decide)
  have n61 : J 6 ≠ J 1 := hJ 6 1 (by decide) (by decide) (by decide)
  have n62 : J 6 ≠ J 2 := hJ 6 2 (by decide) (by decide) (by decide)
  have n63 : J 6 ≠ J 3 := hJ 6 3 (by decide) (by decide) (by decide)
  have n64 : J 6 ≠ J 4 := hJ 6 4 (by decide) (by decide) (by decide)
  have n65 : J 6 ≠ J 5 := hJ 6 5 (by decide) (by decide) (by decide)
  have n67 : J 6 ≠ J 7 := hJ 6 7 (by decide) (by decide) (by decide)
  have n68 : J 6 ≠ J 8 := hJ 6 8 (by decide) (by decide) (by decide)
  have n70 : J 7 ≠ J 0 := hJ 7 0 (by decide) (by decide) (by decide)
  have n71 : J 7 ≠ J 1 := hJ 7 1 (by decide) (by decide) (by decide)
  have n72 : J 7 ≠ J 2 := hJ 7 2 (by decide) (by decide) (by decide)
  have n73 : J 7 ≠ J 3 := hJ 7 3 (by decide) (by decide) (by decide)
  have n74 : J 7 ≠ J 4 := hJ 7 4 (by decide) (by decide) (by decide)
  have n75 : J 7 ≠ J 5 := hJ 7 5 (by decide) (by decide) (by decide)
  have n76 : J 7 ≠ J 6 := hJ 7 6 (by decide) (by decide) (by decide)
  have n78 : J 7 ≠ J 8 := hJ 7 8 (by decide) (by decide) (by decide)
  have n80 : J 8 ≠ J 0 := hJ 8 0 (by decide) (by decide) (by decide)
  have n81 : J 8 ≠ J 1 := hJ 8 1 (by decide) (by decide) (by decide)
  have n82 : J 8 ≠ J 2 := hJ 8 2 (by decide) (by decide) (by decide)
  have n83 : J 8 ≠ J 3 := hJ 8 3 (by decide) (by decide) (by decide)
  have n84 : J 8 ≠ J 4 := hJ 8 4 (by decide) (by decide) (by decide)
  have n85 : J 8 ≠ J 5 := hJ 8 5 (by decide) (by decide) (by decide)
  have n86 : J 8 ≠ J 6 := hJ 8 6 (by decide) (by decide) (by decide)
  have n87 : J 8 ≠ J 7 := hJ 8 7 (by decide) (by decide) (by decide)
  have p7 : z (J 0) 37 = (J 7 : Int) := (hz.2 37 (by decide)).trans hp.2.1
  have p8 : z (J 0) 38 = (J 8 : Int) := (hz.2 38 (by decide)).trans hp.2.2
  obtain ⟨⟨s1, s2⟩, ⟨s3, s4⟩, s5, s6⟩ := hS
  have t0 : Int.toNat 0 = 0 := rfl
  have t1 : Int.toNat 1 = 1 := rfl
  have nd : ¬ d1 = -1 := by omega
  have nl : ¬ 0 < l1 - 1 := by omega
  obtain ⟨u1, hu1⟩ : ∃ u : fx_U, u = fx_pt z (J 8) 1 (l1 - 1) := ⟨_, rfl⟩
  have k1 : zp_ra J v u1 := by
    rw [hu1]
    exact zp_ra.rw hJ (by decide) hz
  obtain ⟨u2, hu2⟩ : ∃ u : fx_U, u = fx_pt u1 (J 3) d1.toNat (t + 1) := ⟨_, rfl⟩
  have k2 : zp_ra J v u2 := by
    rw [hu2]
    exact zp_ra.rw hJ (by decide) k1
  obtain ⟨u3, hu3⟩ : ∃ u : fx_U, u = fx_pt u2 (J 4) d1.toNat 1 := ⟨_, rfl⟩
  have k3 : zp_ra J v u3 := by
    rw [hu3]
    exact zp_ra.rw hJ (by decide) k2
  obtain ⟨-, r, e1, g1⟩ := hq u3 k3 d1 (t + 1) 1 h.1 h.2 (by decide)
  obtain ⟨-, bb1, bb2⟩ := hb d1 (t + 1) 1 h.1 h.2 (by decide)
  have k4 := k3.fb hJ g1
  have q3 : u1 (J 0) 33 = (J 3 : Int) := (k1.2 33 (by decide)).trans hp.1.1
  have q4 : u2 (J 0) 34 = (J 4 : Int) := (k2.2 34 (by decide)).trans hp.1.2.1
  have q6 : u3 (J 0) 36 = (J 6 : Int) := (k3.2 36 (by decide)).trans hp.1.2.2.2
  have a1 : fx_b_add t 1 = t + 1 := zz_wadd (zz_sml ⟨by omega, by omega⟩) (zz_sml ⟨by decide, by decide⟩) (zz_sml ⟨by omega, by omega⟩)
  have a2 : fx_b_add (t + 1) (B d1 (t + 1) 1) = t + 1 + B d1 (t + 1) 1 := zz_wadd (zz_sml ⟨by omega, by omega⟩) (zz_sml ⟨by omega, by omega⟩) (zz_sml ⟨by omega, by omega⟩)
  have e : f_X12_endsOne_1 z (J 0) x t = fx_pt (fx_pt (fx_pt (fx_pt r (J 6) d1.toNat (t + 1 + B d1 (t + 1) 1)) (J 0) 41 d1) (J 0) 42 (t + 1)) (J 7) 1 (-1) := by
    unfold f_X12_endsOne_1
    simp only [fz_lt, fz_lr, fz_ls, fz_lc, p7, p8, Int.toNat_natCast, s1, s2, t0, t1, s3, s4, s5, s6, if_neg nd, if_neg nl, ← hu1, q3, a1, ← hu2, q4, ← hu3, q6, e1, a2]
  have rb : ∀ b j : Nat, b ≠ J 1 → b ≠ J 2 → b ≠ J 3 → b ≠ J 4 → b ≠ J 8 → r b j = z b j := fun b j h1 h2 h3 h4 h8 => by
    rw [g1 b h1 h2 j, hu3, zz_pa h4, hu2, zz_pa h3, hu1]
    exact zz_pa h8
  refine ⟨_, e, zp_ra.rw hJ (by decide) (zp_ra.a2 hJ (by decide) (zp_ra.a2 hJ (by decide) (zp_ra.rw hJ (by decide) k4))), ⟨⟨?_, ?_⟩, ⟨?_, ?_⟩, ?_, ?_⟩, fun j => ?_, ⟨?_, ?_, ?_⟩, fun j hj => ⟨?_, ?_, ?_⟩, ?_, ?_⟩
  · rw [zz_pa n07, zz_pj (by decide), zz_pj (by decide), zz_pa n06, rb _ _ n01 n02 n03 n04 n08]
    exact s1
  · rw [zz_pa n07, zz_pj (by decide), zz_pj (by decide), zz_pa n06, rb _ _ n01 n02 n03 n04 n08]
    exact s2
  · rw [zz_pj (by decide), zz_pa n70, zz_pa n70, zz_pa n76, rb _ _ n71 n72 n73 n74 n78]
    exact s3
  · exact zz_ps
  · rw [zz_pa n87, zz_pa n80, zz_pa n80, zz_pa n86, g1 _ n81 n82, hu3, zz_pa n84, hu2, zz_pa n83, hu1, zz_pj (by decide)]
    exact s5
  · rw [zz_pa n87, zz_pa n80, zz_pa n80, zz_pa n86, g1 _ n81 n82, hu3, zz_pa n84, hu2, zz_pa n83, hu1]
    exact zz_ps
  · rw [zz_pa n57, zz_pa n50, zz_pa n50, zz_pa n56]
    exact rb _ _ n51 n52 n53 n54 n58
  · rw [zz_pa n37, zz_pa n30, zz_pa n30, zz_pa n36, g1 _ n31 n32, hu3, zz_pa n34, hu2]
    exact zz_ps
  · rw [zz_pa n47, zz_pa n40, zz_pa n40, zz_pa n46, g1 _ n41 n42, hu3]
    exact zz_ps
  · rw [zz_pa n67, zz_pa n60, zz_pa n60]
    exact zz_ps
  · rw [zz_pa n37, zz_pa n30, zz_pa n30, zz_pa n36, g1 _ n31 n32, hu3, zz_pa n34, hu2, zz_pj hj, hu1]
    exact zz_pa n38
  · rw [zz_pa n47, zz_pa n40, zz_pa n40, zz_pa n46, g1 _ n41 n42, hu3, zz_pj hj, hu2, zz_pa n43, hu1]
    exact zz_pa n48
  · rw [zz_pa n67, zz_pa n60, zz_pa n60, zz_pj hj]
    exact rb _ _ n61 n62 n63 n64 n68
  · rw [zz_pa n07, zz_pj (by decide)]
    exact zz_ps
  · rw [zz_pa n07]
    exact zz_ps
end Planr
