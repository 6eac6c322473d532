/-! THE NIGHT: what a dot is asked -/
section Dot
variable {N : Nat → Nat} {a1 a2 b : Nat} {D x1 x2 : Int} {u v : fx_U}
theorem zn_dotW (hP : zn_P N u) (h5 : u a1 5 = (N 0 : Int)) (h0 : v a2 0 = (b : Int)) (hR : zn_R N b D u v) (hD : D ≤ 64) (hrow : ∀ k : Nat, k < 64 → u (N 1) k = v b k ∧ u (N 2) k = v b (64 + k) ∧ u (N 3) k = v b (128 + k)) : f_X11_dot u a1 x1 x2 = f_X12_dot v a2 x1 x2 := by
  have p1 := hP 1 (by decide) (by decide)
  have p2 := hP 2 (by decide) (by decide)
  have p3 := hP 3 (by decide) (by decide)
  have p4 := hP 4 (by decide) (by decide)
  have p5 := hP 5 (by decide) (by decide)
  have p6 := hP 6 (by decide) (by decide)
  have p8 := hP 8 (by decide) (by decide)
  obtain ⟨⟨⟨g1, g2⟩, g3, g4, g5, g6, g7⟩, hd, ⟨hA0, hA1⟩, hne, hC⟩ := hR
  have t2 : Int.toNat 512 = 512 := rfl
  have t3 : Int.toNat 513 = 513 := rfl
  have dA : f_X7_isDot u (N 0) x1 = if x1 < 0 then 0 else if x1 < D then 1 else 0 := by
    unfold f_X7_isDot
    simp only [fz_lt, g1]
  have dB : f_X12_isDot v a2 x1 = if x1 < 0 then 0 else if x1 < D then 1 else 0 := by
    unfold f_X12_isDot
    simp only [fz_lr, fz_lt, h0, Int.toNat_natCast, t2, g2]
  by_cases c : 0 ≤ x1 ∧ x1 < D
  · rw [if_neg (by omega), if_pos c.2] at dA dB
    obtain ⟨r1, r2, r3⟩ := hrow x1.toNat (by omega)
    have d := hd x1.toNat (by omega)
    obtain ⟨q1, q2⟩ := zn_pd hP h0 d c.1
    obtain ⟨w1, w2, -⟩ := zn_wet hP h0 d c.1 g5 ⟨by omega, by omega⟩
    have po := zn_po (i := x1) hP
    have pb : f_X12_paintedBy v a2 x1 = if u (N 10) 0 = x1 then 0 else if u (N 10) 1 = x1 then 1 else -2 := by
      unfold f_X12_paintedBy
      simp only [fz_lr, fz_lt, h0, Int.toNat_natCast, show Int.toNat 520 = 520 from rfl, show Int.toNat 521 = 521 from rfl, show v b 520 = u (N 10) 0 from hA0.2.2.1.symm, show v b 521 = u (N 10) 1 from hA1.2.2.1.symm]
    have k1 : (64 + x1).toNat = 64 + x1.toNat := by omega
    have k2 : (128 + x1).toNat = 128 + x1.toNat := by omega
    have k3 : (192 + x1).toNat = 192 + x1.toNat := by omega
    have k4 : (256 + x1).toNat = 256 + x1.toNat := by omega
    have k5 : (320 + x1).toNat = 320 + x1.toNat := by omega
    have k6 : (448 + x1).toNat = 448 + x1.toNat := by omega
    unfold f_X11_dot f_X12_dot f_X11_shifted
    simp only [fz_lr, fz_lt, h5, h0, Int.toNat_natCast, dA, dB, if_neg zz_n10, p1, p2, p3, p4, p5, p6, p8, q1, q2, po, pb, w1, r1, r2, r3, Int.zero_add, k1, k2, k3, k4, k5, k6, t3]
    obtain ⟨d1, d2, d3⟩ := d
    rw [d1, d2]
    by_cases e0 : x2 = 0
    · rw [if_pos e0, if_pos e0]
    · rw [if_neg e0, if_neg e0]
      by_cases e1 : x2 = 1
      · rw [if_pos e1, if_pos e1]
      · rw [if_neg e1, if_neg e1]
        by_cases e2 : x2 = 2
        · rw [if_pos e2, if_pos e2]
        · rw [if_neg e2, if_neg e2]
          by_cases e3 : x2 = 3
          · rw [if_pos e3, if_pos e3]
          · rw [if_neg e3, if_neg e3]
            by_cases e4 : x2 = 4
            · rw [if_pos e4, if_pos e4]
              rcases d3 with ⟨s1, -⟩ | ⟨s1, -, s2, -⟩
              · simp only [if_pos s1, if_true]
              · have n : ¬ u (N 5) x1.toNat = -100 := by omega
                simp only [if_neg n, if_neg zz_n10]
                rw [s2]
            · rw [if_neg e4, if_neg e4]
              by_cases e5 : x2 = 5
              · rw [if_pos e5, if_pos e5]
                rcases d3 with ⟨s1, s2⟩ | ⟨s1, -, -, s2, -⟩
                · simp only [if_pos s1, if_true, s2]
                · have n : ¬ u (N 5) x1.toNat = -100 := by omega
                  simp only [if_neg n, if_neg zz_n10]
                  rw [s2]
              · rw [if_neg e5, if_neg e5]
  · have z : (if x1 < 0 then (0 : Int) else if x1 < D then 1 else 0) = 0 := by
      by_cases c1 : x1 < 0
      · rw [if_pos c1]
      · rw [if_neg c1, if_neg (by omega)]
    rw [z] at dA dB
    unfold f_X11_dot f_X12_dot
    simp only [fz_lr, fz_lt, h5, h0, Int.toNat_natCast, dA, dB, if_true]
end Dot
