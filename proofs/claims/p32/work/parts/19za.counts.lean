/-! THE NIGHT: how many dots -/
section Counts
variable {N : Nat → Nat} {a2 b : Nat} {D : Int} {u v : fx_U}
theorem zn_cP (hP : zn_P N u) (h0 : v a2 0 = (b : Int)) (hR : zn_R N b D u v) (hD : D ≤ 64) : f_X7_paintedDots u (N 0) = f_X12_paintedAll v a2 := by
  obtain ⟨⟨⟨g1, g2⟩, -⟩, hd, -⟩ := hR
  have key : ∀ (f : Nat) (n i : Int), 0 ≤ i → kL_X7_paintedDots_4 u (N 0) f n i = kL_X12_paintedAll_4 v a2 f n i := by
    intro f
    induction f with
    | zero => intro n i _; rfl
    | succ f ih =>
      intro n i i0
      show kB_X7_paintedDots_4 (kL_X7_paintedDots_4 u (N 0) f) u (N 0) n i = kB_X12_paintedAll_4 (kL_X12_paintedAll_4 v a2 f) v a2 n i
      unfold kB_X7_paintedDots_4 kB_X12_paintedAll_4 kJ_X7_paintedDots_26 kJ_X12_paintedAll_30
      simp only [fz_lr, fz_lt, h0, Int.toNat_natCast, show Int.toNat 512 = 512 from rfl, g1, g2]
      by_cases c : i < D
      · obtain ⟨q1, q2⟩ := zn_pd hP h0 (hd i.toNat (by omega)) i0
        rw [if_pos c, if_pos c, q1, q2, ih _ (i + 1) (by omega), ih _ (i + 1) (by omega)]
      · rw [if_neg c, if_neg c]
  unfold f_X7_paintedDots f_X12_paintedAll
  exact key _ 0 0 (by decide)
theorem zn_cS (hP : zn_P N u) (h0 : v a2 0 = (b : Int)) (hR : zn_R N b D u v) (hD : D ≤ 64) : f_X7_spoiltDots u (N 0) = f_X12_spoiltAll v a2 := by
  obtain ⟨⟨⟨g1, g2⟩, -⟩, hd, -⟩ := hR
  have p8 := hP 8 (by decide) (by decide)
  have key : ∀ (f : Nat) (n i : Int), 0 ≤ i → kL_X7_spoiltDots_4 u (N 0) f n i = kL_X12_spoiltAll_4 v a2 f n i := by
    intro f
    induction f with
    | zero => intro n i _; rfl
    | succ f ih =>
      intro n i i0
      have e : (448 + i).toNat = 448 + i.toNat := by omega
      show kB_X7_spoiltDots_4 (kL_X7_spoiltDots_4 u (N 0) f) u (N 0) n i = kB_X12_spoiltAll_4 (kL_X12_spoiltAll_4 v a2 f) v a2 n i
      unfold kB_X7_spoiltDots_4 kB_X12_spoiltAll_4 kJ_X7_spoiltDots_26 kJ_X12_spoiltAll_37 f_X7_isSpoilt
      simp only [fz_lr, fz_lt, h0, Int.toNat_natCast, show Int.toNat 512 = 512 from rfl, g1, g2, p8, e]
      by_cases c : i < D
      · have q := (hd i.toNat (by omega)).2.1
        rw [if_pos c, if_pos c]
        simp only [q]
        rw [ih _ (i + 1) (by omega), ih _ (i + 1) (by omega)]
        by_cases t : v b (448 + i.toNat) = -2
        · rw [if_pos t, if_pos rfl, if_pos t]
        · rw [if_neg t, if_neg zz_n10, if_neg t]
      · rw [if_neg c, if_neg c]
  unfold f_X7_spoiltDots f_X12_spoiltAll
  exact key _ 0 0 (by decide)
theorem zn_cW (hP : zn_P N u) (h0 : v a2 0 = (b : Int)) (hR : zn_R N b D u v) (hD : D ≤ 64) : f_X7_wetDots u (N 0) = f_X12_wetAll v a2 := by
  obtain ⟨⟨⟨g1, g2⟩, -, -, g5, g6, g7⟩, hd, -⟩ := hR
  have key : ∀ (f : Nat) (n i : Int), 0 ≤ i → kL_X7_wetDots_4 u (N 0) f n i = kL_X12_wetAll_4 v a2 f n i := by
    intro f
    induction f with
    | zero => intro n i _; rfl
    | succ f ih =>
      intro n i i0
      show kB_X7_wetDots_4 (kL_X7_wetDots_4 u (N 0) f) u (N 0) n i = kB_X12_wetAll_4 (kL_X12_wetAll_4 v a2 f) v a2 n i
      unfold kB_X7_wetDots_4 kB_X12_wetAll_4 kJ_X7_wetDots_26 kJ_X12_wetAll_38
      simp only [fz_lr, fz_lt, h0, Int.toNat_natCast, show Int.toNat 512 = 512 from rfl, show Int.toNat 513 = 513 from rfl, g1, g2]
      by_cases c : i < D
      · obtain ⟨q1, -, -⟩ := zn_wet hP h0 (hd i.toNat (by omega)) i0 g5 ⟨by omega, by omega⟩
        rw [if_pos c, if_pos c, q1, ih _ (i + 1) (by omega), ih _ (i + 1) (by omega)]
      · rw [if_neg c, if_neg c]
  unfold f_X7_wetDots f_X12_wetAll
  exact key _ 0 0 (by decide)
theorem zn_cO (hP : zn_P N u) (h0 : v a2 0 = (b : Int)) (hR : zn_R N b D u v) (hrow : ∀ k : Nat, k < 64 → u (N 1) k = v b k) (hD : D ≤ 64) : f_X7_offKerb u (N 0) = f_X12_offAll v a2 := by
  obtain ⟨⟨⟨g1, g2⟩, -⟩, hd, -⟩ := hR
  have p5 := hP 5 (by decide) (by decide)
  have p1 := hP 1 (by decide) (by decide)
  have sz : ∀ (x : Int), f_J9_abs_0f7a4 u x = f_X12_size v x := fun _ => rfl
  have key : ∀ (f : Nat) (n i : Int), 0 ≤ i → kL_X7_offKerb_4 u (N 0) f n i = kL_X12_offAll_4 v a2 f n i := by
    intro f
    induction f with
    | zero => intro n i _; rfl
    | succ f ih =>
      intro n i i0
      have e : (256 + i).toNat = 256 + i.toNat := by omega
      show kB_X7_offKerb_4 (kL_X7_offKerb_4 u (N 0) f) u (N 0) n i = kB_X12_offAll_4 (kL_X12_offAll_4 v a2 f) v a2 n i
      unfold kB_X7_offKerb_4 kB_X12_offAll_4 kJ_X7_offKerb_41 kJ_X12_offAll_51
      simp only [fz_lr, fz_lt, h0, Int.toNat_natCast, show Int.toNat 512 = 512 from rfl, g1, g2, p5, p1, e, Int.zero_add, sz]
      by_cases c : i < D
      · have d := hd i.toNat (by omega)
        obtain ⟨q1, q2⟩ := zn_pd hP h0 d i0
        rw [if_pos c, if_pos c, q1, q2, ih _ (i + 1) (by omega), ih _ (i + 1) (by omega), hrow i.toNat (by omega)]
        rcases d.2.2 with ⟨t, -⟩ | ⟨t, -, t2, -⟩
        · rw [if_pos t, if_pos rfl, if_pos rfl]
        · rw [if_neg (show ¬ u (N 5) i.toNat = -100 by omega), if_neg zz_n10, if_neg zz_n10, t2]
      · rw [if_neg c, if_neg c]
  unfold f_X7_offKerb f_X12_offAll
  exact key _ 0 0 (by decide)
end Counts
