/-! THE NIGHT: what is counted -/
section Count
variable {N : Nat → Nat} {a1 a2 b la : Nat} {D x : Int} {u v : fx_U}
theorem zn_countW (hP : zn_P N u) (h5 : u a1 5 = (N 0 : Int)) (h4 : u a1 4 = (la : Int)) (h0 : v a2 0 = (b : Int)) (hR : zn_R N b D u v) (hD : D ≤ 64) (hw : ∀ a : Nat, a < 2 → u (N 9) a = 0 ∨ u (N 9) a = 1) (hl : u la 0 = v a2 13) (ht : u a1 1 = v a2 4) : f_X11_count u a1 x = f_X12_count v a2 x := by
  have p9 := hP 9 (by decide) (by decide)
  have p12 := hP 12 (by decide) (by decide)
  have p13 := hP 13 (by decide) (by decide)
  have p14 := hP 14 (by decide) (by decide)
  have cP := zn_cP hP h0 hR hD
  have cS := zn_cS hP h0 hR hD
  obtain ⟨⟨⟨g1, g2⟩, g3, g4, g5, g6, g7⟩, hd, ⟨hA0, hA1⟩, hne, hC⟩ := hR
  have t2 : Int.toNat 512 = 512 := rfl
  have t3 : Int.toNat 513 = 513 := rfl
  have t4 : Int.toNat 514 = 514 := rfl
  have t5 : Int.toNat 515 = 515 := rfl
  have t6 : Int.toNat 524 = 524 := rfl
  have iE : ∀ lo hi : Int, f_X11_isIn u x lo hi = if lo ≤ x ∧ x ≤ hi then 1 else 0 := fun lo hi => by
    unfold f_X11_isIn
    by_cases c1 : x < lo
    · rw [if_pos c1, if_neg (by omega)]
    · rw [if_neg c1]
      by_cases c2 : hi < x
      · rw [if_pos c2, if_neg (by omega)]
      · rw [if_neg c2, if_pos ⟨by omega, by omega⟩]
  have jE : ∀ lo hi : Int, f_X12_in v x lo hi = if lo ≤ x ∧ x ≤ hi then 1 else 0 := fun lo hi => iE lo hi
  have A : ∀ a : Nat, a < 2 → u (N 9) a = v b (516 + a) ∧ u (N 12) a = v b (518 + a) := fun a ha => by
    rcases (show a = 0 ∨ a = 1 by omega) with rfl | rfl
    · exact ⟨hA0.1, hA0.2.1.1⟩
    · exact ⟨hA1.1, hA1.2.1.1⟩
  unfold f_X11_count f_X12_count kJ_X12_count_200
  simp only [fz_lr, fz_lt, h5, h4, h0, Int.toNat_natCast, iE, jE, t2, t3, t4, t5, t6, p9, p12, p13, p14, cP, cS, g1, g2]
  by_cases c1 : 10 ≤ x ∧ x ≤ 11
  · have k : (x - 10).toNat < 2 := by omega
    have k2 : (516 + x - 10).toNat = 516 + (x - 10).toNat := by omega
    simp only [if_pos c1, if_neg zz_n10, if_neg (show ¬ x = 0 by omega), if_neg (show ¬ x = 1 by omega), if_neg (show ¬ x = 2 by omega), if_neg (show ¬ x = 3 by omega), if_neg (show ¬ x = 4 by omega), if_neg (show ¬ x = 5 by omega), if_neg (show ¬ x = 6 by omega), if_neg (show ¬ x = 7 by omega), k2, ← (A _ k).1]
    rcases hw _ k with e | e
    · rw [e, if_pos rfl]
    · rw [e, if_neg zz_n10]
  · by_cases c2 : 20 ≤ x ∧ x ≤ 21
    · have k : (x - 20).toNat < 2 := by omega
      have k2 : (518 + x - 20).toNat = 518 + (x - 20).toNat := by omega
      simp only [if_neg c1, if_pos c2, if_true, if_neg zz_n10, if_neg (show ¬ x = 0 by omega), if_neg (show ¬ x = 1 by omega), if_neg (show ¬ x = 2 by omega), if_neg (show ¬ x = 3 by omega), if_neg (show ¬ x = 4 by omega), if_neg (show ¬ x = 5 by omega), if_neg (show ¬ x = 6 by omega), if_neg (show ¬ x = 7 by omega), k2, ← (A _ k).2]
    · by_cases c3 : 30 ≤ x ∧ x ≤ 41
      · have k : (x - 30).toNat < 12 := by omega
        have k2 : (525 + x - 30).toNat = 525 + (x - 30).toNat := by omega
        have kc : (((x - 30).toNat : Nat) : Int) = x - 30 := Int.toNat_of_nonneg (by omega)
        have h := hC _ k
        unfold zn_C at h
        rw [kc] at h
        have n5 : ¬ (50 ≤ x ∧ x ≤ 61) := by omega
        simp only [if_neg c1, if_neg c2, if_pos c3, if_neg n5, if_true, if_neg zz_n10, if_neg (show ¬ x = 0 by omega), if_neg (show ¬ x = 1 by omega), if_neg (show ¬ x = 2 by omega), if_neg (show ¬ x = 3 by omega), if_neg (show ¬ x = 4 by omega), if_neg (show ¬ x = 5 by omega), if_neg (show ¬ x = 6 by omega), if_neg (show ¬ x = 7 by omega), k2]
        rcases h with ⟨s1, -, s2⟩ | ⟨-, s2, s3, -⟩
        · rw [s1, s2, if_pos rfl]
        · rw [s2, if_neg zz_n10, s3]
      · by_cases c4 : 50 ≤ x ∧ x ≤ 61
        · have k : (x - 50).toNat < 12 := by omega
          have k2 : (537 + x - 50).toNat = 537 + (x - 50).toNat := by omega
          have kc : (((x - 50).toNat : Nat) : Int) = x - 50 := Int.toNat_of_nonneg (by omega)
          have h := hC _ k
          unfold zn_C at h
          rw [kc] at h
          simp only [if_neg c1, if_neg c2, if_neg c3, if_pos c4, if_true, if_neg zz_n10, if_neg (show ¬ x = 0 by omega), if_neg (show ¬ x = 1 by omega), if_neg (show ¬ x = 2 by omega), if_neg (show ¬ x = 3 by omega), if_neg (show ¬ x = 4 by omega), if_neg (show ¬ x = 5 by omega), if_neg (show ¬ x = 6 by omega), if_neg (show ¬ x = 7 by omega), k2]
          rcases h with ⟨-, s1, s2⟩ | ⟨-, s2, -, s3, -⟩
          · rw [s1, s2, if_pos rfl]
          · rw [s2, if_neg zz_n10, s3]
        · simp only [if_neg c1, if_neg c2, if_neg c3, if_neg c4, if_true, g3, g5, hl, ht]
          by_cases e5 : x = 5
          · simp only [if_neg (show ¬ x = 0 by omega), if_neg (show ¬ x = 1 by omega), if_neg (show ¬ x = 2 by omega), if_neg (show ¬ x = 3 by omega), if_neg (show ¬ x = 4 by omega), if_pos e5]
            rcases g4 with ⟨s1, s2⟩ | ⟨s1, s2⟩
            · rw [s1, s2, if_pos rfl]
            · rw [if_neg (show ¬ u (N 0) 16 = -1 by omega), s2]
          · simp only [if_neg e5]
end Count
