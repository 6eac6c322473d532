/-! THE NIGHT: cones in use -/
section Cones
variable {N : Nat → Nat} {a2 b : Nat} {D i m : Int} {u v : fx_U}
def zn_cp (p0 p1 i : Int) : Int := (if i ≤ p0 then 1 else 0) + (if i ≤ p1 then 1 else 0)
theorem zn_cones (hP : zn_P N u) (h0 : v a2 0 = (b : Int)) (hR : zn_R N b D u v) (hD : 8 ≤ D ∧ D ≤ 64) : f_X7_conesInUse u (N 0) = f_X12_busy v a2 (v b 513) := by
  obtain ⟨⟨⟨g1, g2⟩, -, -, g5, g6, g7⟩, hd, ⟨hA0, hA1⟩, hne, -⟩ := hR
  have hA : u (N 10) 0 = v b 520 ∧ u (N 10) 1 = v b 521 := ⟨hA0.2.2.1, hA1.2.2.1⟩
  have t5 : Int.toNat 512 = 512 := rfl
  have t0 : Int.toNat 0 = 0 := rfl
  have t1 : Int.toNat 1 = 1 := rfl
  obtain ⟨p0, hp0⟩ : ∃ p : Int, p = u (N 10) 0 := ⟨_, rfl⟩
  obtain ⟨p1, hp1⟩ : ∃ p : Int, p = u (N 10) 1 := ⟨_, rfl⟩
  have r0 : p0 = -2 ∨ ((0 ≤ p0 ∧ p0 < D) ∧ u (N 5) p0.toNat = -100) := by
    rcases hA0.2.2.2 with h | ⟨h1, h2, -⟩
    · exact Or.inl (hp0.trans h)
    · rw [← hp0] at h1 h2
      exact Or.inr ⟨h1, h2⟩
  have r1 : p1 = -2 ∨ ((0 ≤ p1 ∧ p1 < D) ∧ u (N 5) p1.toNat = -100) := by
    rcases hA1.2.2.2 with h | ⟨h1, h2, -⟩
    · exact Or.inl (hp1.trans h)
    · rw [← hp1] at h1 h2
      exact Or.inr ⟨h1, h2⟩
  have ne : p0 = p1 → p0 = -2 := fun h => by
    rw [hp0, hp1] at h
    rw [hp0]
    exact hne h
  have cpn : ∀ i : Int, 0 ≤ zn_cp p0 p1 i := fun i => by
    unfold zn_cp
    by_cases q0 : i ≤ p0
    · rw [if_pos q0]
      by_cases q1 : i ≤ p1
      · rw [if_pos q1]
        decide
      · rw [if_neg q1]
        decide
    · rw [if_neg q0]
      by_cases q1 : i ≤ p1
      · rw [if_pos q1]
        decide
      · rw [if_neg q1]
        decide
  have cps : ∀ i : Int, 0 ≤ i → (p0 = i ∨ p1 = i) → zn_cp p0 p1 i = zn_cp p0 p1 (i + 1) + 1 := fun i i0 q => by
    unfold zn_cp
    rcases q with e | e
    · rw [if_neg (show ¬ i + 1 ≤ p0 by omega), if_pos (show i ≤ p0 by omega)]
      by_cases d : i ≤ p1
      · have d2 : i + 1 ≤ p1 := by omega
        rw [if_pos d, if_pos d2]
        decide
      · have d2 : ¬ i + 1 ≤ p1 := by omega
        rw [if_neg d, if_neg d2]
        decide
    · rw [if_neg (show ¬ i + 1 ≤ p1 by omega), if_pos (show i ≤ p1 by omega)]
      by_cases d : i ≤ p0
      · have d2 : i + 1 ≤ p0 := by omega
        rw [if_pos d, if_pos d2]
        decide
      · have d2 : ¬ i + 1 ≤ p0 := by omega
        rw [if_neg d, if_neg d2]
        decide
  have key : ∀ (f : Nat) (n c i : Int), D - i < (f : Int) → 0 < f → (0 ≤ i ∧ i ≤ D) → (0 ≤ n ∧ n ≤ i) → (0 ≤ c ∧ c + zn_cp p0 p1 i ≤ 2) → kL_X12_busy_4 v a2 (v b 513) f (n + c) i = kL_X7_wetDots_4 u (N 0) f n i + c + zn_cp p0 p1 i := by
    intro f
    induction f with
    | zero => intro n c i _ h; omega
    | succ f ih =>
      intro n c i hf _ hi hn hc
      have c0 := cpn i
      have eW : kL_X7_wetDots_4 u (N 0) (f + 1) n i = if i < D then (if f_X7_isWet u (N 0) i = 0 then kL_X7_wetDots_4 u (N 0) f (fx_b_add n 0) (i + 1) else kL_X7_wetDots_4 u (N 0) f (fx_b_add n 1) (i + 1)) else n := by
        show kB_X7_wetDots_4 (kL_X7_wetDots_4 u (N 0) f) u (N 0) n i = _
        unfold kB_X7_wetDots_4 kJ_X7_wetDots_26
        simp only [fz_lt, g1]
      have eB : kL_X12_busy_4 v a2 (v b 513) (f + 1) (n + c) i = if i < D then (if f_X12_isPainting v a2 i = 0 then (if f_X12_isWet v a2 i (v b 513) = 0 then kL_X12_busy_4 v a2 (v b 513) f (fx_b_add (n + c) 0) (i + 1) else kL_X12_busy_4 v a2 (v b 513) f (fx_b_add (n + c) 1) (i + 1)) else kL_X12_busy_4 v a2 (v b 513) f (fx_b_add (n + c) 1) (i + 1)) else n + c := by
        show kB_X12_busy_4 (kL_X12_busy_4 v a2 (v b 513) f) v a2 (v b 513) (n + c) i = _
        unfold kB_X12_busy_4 kJ_X12_busy_34 kJ_X12_busy_39
        simp only [fz_lr, fz_lt, h0, Int.toNat_natCast, t5, g2]
      rw [eW, eB]
      by_cases g : i < D
      · obtain ⟨w1, w2, w3⟩ := zn_wet hP h0 (hd i.toNat (by omega)) hi.1 g5 ⟨by omega, by omega⟩
        obtain ⟨-, q2⟩ := zn_bp (i := i) hP h0 hA
        rw [← hp0, ← hp1] at q2
        have s0 : fx_b_add n 0 = n := (zz_wadd (zz_sml ⟨by omega, by omega⟩) (zz_sml ⟨by decide, by decide⟩) (zz_sml ⟨by omega, by omega⟩)).trans (Int.add_zero n)
        have s1 : fx_b_add n 1 = n + 1 := zz_wadd (zz_sml ⟨by omega, by omega⟩) (zz_sml ⟨by decide, by decide⟩) (zz_sml ⟨by omega, by omega⟩)
        have s2 : fx_b_add (n + c) 0 = n + c := (zz_wadd (zz_sml ⟨by omega, by omega⟩) (zz_sml ⟨by decide, by decide⟩) (zz_sml ⟨by omega, by omega⟩)).trans (Int.add_zero (n + c))
        have s3 : fx_b_add (n + c) 1 = n + c + 1 := zz_wadd (zz_sml ⟨by omega, by omega⟩) (zz_sml ⟨by decide, by decide⟩) (zz_sml ⟨by omega, by omega⟩)
        rw [if_pos g, if_pos g, q2, ← w1, s0, s1, s2, s3]
        by_cases q : p0 = i ∨ p1 = i
        · have wz : f_X7_isWet u (N 0) i = 0 := by
            rcases q with e | e
            · rcases r0 with h | ⟨-, h⟩
              · omega
              · rw [e] at h
                exact w3 h
            · rcases r1 with h | ⟨-, h⟩
              · omega
              · rw [e] at h
                exact w3 h
          rw [if_pos q, if_neg zz_n10, if_pos wz]
          have y := cps i hi.1 q
          have z := ih n (c + 1) (i + 1) (by omega) (by omega) ⟨by omega, by omega⟩ ⟨by omega, by omega⟩ ⟨by omega, by omega⟩
          rw [show n + c + 1 = n + (c + 1) by omega, z]
          omega
        · have cp : zn_cp p0 p1 (i + 1) = zn_cp p0 p1 i := by
            unfold zn_cp
            have e0 : (i + 1 ≤ p0) = (i ≤ p0) := propext ⟨fun h => by omega, fun h => by omega⟩
            have e1 : (i + 1 ≤ p1) = (i ≤ p1) := propext ⟨fun h => by omega, fun h => by omega⟩
            simp only [e0, e1]
          rw [if_neg q, if_pos rfl]
          rcases w2 with wz | wz
          · rw [if_pos wz, if_pos wz]
            rw [ih n c (i + 1) (by omega) (by omega) ⟨by omega, by omega⟩ ⟨by omega, by omega⟩ (by rw [cp]; exact hc), cp]
          · rw [if_neg (show ¬ f_X7_isWet u (N 0) i = 0 by omega), if_neg (show ¬ f_X7_isWet u (N 0) i = 0 by omega)]
            rw [show n + c + 1 = n + 1 + c by omega, ih (n + 1) c (i + 1) (by omega) (by omega) ⟨by omega, by omega⟩ ⟨by omega, by omega⟩ (by rw [cp]; exact hc), cp]
      · rw [if_neg g, if_neg g]
        unfold zn_cp
        rw [if_neg (by omega), if_neg (by omega)]
        omega
  have p10 := hP 10 (by decide) (by decide)
  have wb : ∀ (f : Nat) (n i : Int), D - i < (f : Int) → 0 < f → (0 ≤ i ∧ i ≤ D) → (0 ≤ n ∧ n ≤ i) → 0 ≤ kL_X7_wetDots_4 u (N 0) f n i ∧ kL_X7_wetDots_4 u (N 0) f n i ≤ D := by
    intro f
    induction f with
    | zero => intro n i _ h; omega
    | succ f ih =>
      intro n i hf _ hi hn
      have eW : kL_X7_wetDots_4 u (N 0) (f + 1) n i = if i < D then (if f_X7_isWet u (N 0) i = 0 then kL_X7_wetDots_4 u (N 0) f (fx_b_add n 0) (i + 1) else kL_X7_wetDots_4 u (N 0) f (fx_b_add n 1) (i + 1)) else n := by
        show kB_X7_wetDots_4 (kL_X7_wetDots_4 u (N 0) f) u (N 0) n i = _
        unfold kB_X7_wetDots_4 kJ_X7_wetDots_26
        simp only [fz_lt, g1]
      have s0 : fx_b_add n 0 = n := (zz_wadd (zz_sml ⟨by omega, by omega⟩) (zz_sml ⟨by decide, by decide⟩) (zz_sml ⟨by omega, by omega⟩)).trans (Int.add_zero n)
      have s1 : fx_b_add n 1 = n + 1 := zz_wadd (zz_sml ⟨by omega, by omega⟩) (zz_sml ⟨by decide, by decide⟩) (zz_sml ⟨by omega, by omega⟩)
      rw [eW, s0, s1]
      by_cases g : i < D
      · rw [if_pos g]
        by_cases q : f_X7_isWet u (N 0) i = 0
        · rw [if_pos q]
          exact ih n (i + 1) (by omega) (by omega) ⟨by omega, by omega⟩ ⟨by omega, by omega⟩
        · rw [if_neg q]
          exact ih (n + 1) (i + 1) (by omega) (by omega) ⟨by omega, by omega⟩ ⟨by omega, by omega⟩
      · rw [if_neg g]
        omega
  have hw := wb 65 0 0 (by omega) (by decide) ⟨by decide, by omega⟩ ⟨by decide, by decide⟩
  have hk := key 65 0 0 0 (by omega) (by decide) ⟨by decide, by omega⟩ ⟨by decide, by decide⟩
  have cs : ∀ n : Int, 0 ≤ n → n ≤ 64 → kL_X7_conesInUse_7 u (N 0) 3 n 0 = n + (if p0 = -2 then 0 else 1) + (if p1 = -2 then 0 else 1) := by
    intro n n0 n1
    have a0 : ∀ n : Int, 0 ≤ n → n ≤ 66 → fx_b_add n 0 = n := fun n n0 n1 => (zz_wadd (zz_sml ⟨by omega, by omega⟩) (zz_sml ⟨by decide, by decide⟩) (zz_sml ⟨by omega, by omega⟩)).trans (Int.add_zero n)
    have a1 : ∀ n : Int, 0 ≤ n → n ≤ 66 → fx_b_add n 1 = n + 1 := fun n n0 n1 => zz_wadd (zz_sml ⟨by omega, by omega⟩) (zz_sml ⟨by decide, by decide⟩) (zz_sml ⟨by omega, by omega⟩)
    have l2 : ∀ n : Int, kL_X7_conesInUse_7 u (N 0) 1 n 2 = n := fun n => by
      show kB_X7_conesInUse_7 (kL_X7_conesInUse_7 u (N 0) 0) u (N 0) n 2 = n
      unfold kB_X7_conesInUse_7
      rw [if_neg (by decide)]
    have l1 : ∀ n : Int, 0 ≤ n → n ≤ 66 → kL_X7_conesInUse_7 u (N 0) 2 n 1 = n + (if p1 = -2 then 0 else 1) := fun n n0 n1 => by
      show kB_X7_conesInUse_7 (kL_X7_conesInUse_7 u (N 0) 1) u (N 0) n 1 = _
      unfold kB_X7_conesInUse_7 kJ_X7_conesInUse_29
      simp only [fz_lr, fz_lt, p10, Int.toNat_natCast, t1, ← hp1, show (1 : Int) + 1 = 2 from rfl, l2, a0 n n0 n1, a1 n n0 n1]
      rw [if_pos (by decide)]
      by_cases q : p1 = -2
      · rw [if_pos q, if_pos q, Int.add_zero]
      · rw [if_neg q, if_neg q]
    show kB_X7_conesInUse_7 (kL_X7_conesInUse_7 u (N 0) 2) u (N 0) n 0 = _
    unfold kB_X7_conesInUse_7 kJ_X7_conesInUse_29
    simp only [fz_lr, fz_lt, p10, Int.toNat_natCast, t0, ← hp0, show (0 : Int) + 1 = 1 from rfl, a0 n n0 (by omega), a1 n n0 (by omega)]
    rw [if_pos (by decide)]
    by_cases q : p0 = -2
    · rw [if_pos q, if_pos q, l1 n n0 (by omega), Int.add_zero]
    · rw [if_neg q, if_neg q, l1 (n + 1) (by omega) (by omega)]
  have c20 : zn_cp p0 p1 0 = (if p0 = -2 then 0 else 1) + (if p1 = -2 then 0 else 1) := by
    unfold zn_cp
    have e0 : (if (0 : Int) ≤ p0 then (1 : Int) else 0) = if p0 = -2 then 0 else 1 := by
      by_cases q : p0 = -2
      · rw [if_pos q, if_neg (by omega)]
      · rw [if_neg q, if_pos (by omega)]
    have e1 : (if (0 : Int) ≤ p1 then (1 : Int) else 0) = if p1 = -2 then 0 else 1 := by
      by_cases q : p1 = -2
      · rw [if_pos q, if_neg (by omega)]
      · rw [if_neg q, if_pos (by omega)]
    rw [e0, e1]
  have c2 : zn_cp p0 p1 0 ≤ 2 := by
    rw [c20]
    by_cases q0 : p0 = -2
    · rw [if_pos q0]
      by_cases q1 : p1 = -2
      · rw [if_pos q1]
        decide
      · rw [if_neg q1]
        decide
    · rw [if_neg q0]
      by_cases q1 : p1 = -2
      · rw [if_pos q1]
        decide
      · rw [if_neg q1]
        decide
  have hk2 := hk ⟨by decide, by omega⟩
  rw [show (0 : Int) + 0 = 0 from rfl] at hk2
  unfold f_X7_conesInUse f_X7_wetDots f_X12_busy
  simp only [fz_lt, show Int.toNat (2 - 0) + 1 = 3 from rfl, show Int.toNat (64 - 0) + 1 = 65 from rfl]
  rw [hk2, cs _ hw.1 (by omega), c20, Int.add_zero, Int.add_assoc]
end Cones
