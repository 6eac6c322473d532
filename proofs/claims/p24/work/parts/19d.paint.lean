/-! ALL IS PAINTED BY BOTH: whole, and what BEGINS says -/
def zp_in (lo hi : Int) (r : Int × fx_U) : Prop := lo ≤ r.1 ∧ r.1 ≤ hi
theorem zp_rng {n lo hi x : Int} {a2 b3 b4 b5 : Nat} (h : lo ≤ hi) : ∀ (f : Nat) (j : Int) (w : fx_U), n - j < (f : Int) → 0 < f → zp_in lo hi (kL_X12_byLaw_3 n a2 x b4 b5 b3 lo hi f j w) := by
  intro f
  induction f with
  | zero => intro j w _ h; omega
  | succ f ih =>
    intro j w hf _
    show zp_in lo hi (kB_X12_byLaw_3 (kL_X12_byLaw_3 n a2 x b4 b5 b3 lo hi f) n a2 x b4 b5 b3 lo hi j w)
    unfold kB_X12_byLaw_3 kJ_X12_byLaw_91
    simp only [fz_lt, fz_lr, fz_lc]
    by_cases g : j < n
    · have nx : ∀ q : fx_U, zp_in lo hi (kL_X12_byLaw_3 n a2 x b4 b5 b3 lo hi f (j + 1) q) := fun q => ih (j + 1) q (by omega) (by omega)
      rw [if_pos g]
      split
      · split
        · split
          · exact ⟨Int.le_refl lo, h⟩
          · split
            · exact ⟨h, Int.le_refl hi⟩
            · refine ⟨?_, ?_⟩ <;> (dsimp only; omega)
        · exact nx _
      · exact nx _
    · rw [if_neg g]
      exact ⟨Int.le_refl lo, h⟩
section Begins
variable {K J : Nat → Nat} {A B : Int → Int → Int → Int} {D x1 x2 : Int} {u v W Z : fx_U}
theorem zp_paint (hK : zp_dis 7 K) (hJ : zp_dis 9 J) (hqc : zp_qc K A B D u) (hqr : zp_qr J A B D v) (hb : zp_bd A B D) (hpc : zp_pc K u) (hpr : zp_pr J v) (hD : 8 ≤ D ∧ D ≤ 64) (hx1 : 0 ≤ x1 ∧ x1 ≤ 600) (hx2 : 0 ≤ x2 ∧ x2 ≤ 600) (hu : u (K 2) 0 = D) (h9 : v (J 0) 0 = (J 9 : Int)) (n9 : J 9 ≠ J 0 ∧ J 9 ≠ J 7) (hv : v (J 9) 512 = D) : zp_F K J D u v (f_X6_paint u (K 3) (K 2) (K 0) x1 x2) (f_X12_paintsBare v (J 0) x1 x2) := by
  have T0 : Int.toNat 0 = 0 := rfl
  have T1 : Int.toNat 1 = 1 := rfl
  have T5 : Int.toNat 512 = 512 := rfl
  have k36 := hK 3 6 (by decide) (by decide) (by decide)
  have k63 := hK 6 3 (by decide) (by decide) (by decide)
  have k23 := hK 2 3 (by decide) (by decide) (by decide)
  have k26 := hK 2 6 (by decide) (by decide) (by decide)
  have j07 := hJ 0 7 (by decide) (by decide) (by decide)
  have j70 := hJ 7 0 (by decide) (by decide) (by decide)
  have j80 := hJ 8 0 (by decide) (by decide) (by decide)
  have j87 := hJ 8 7 (by decide) (by decide) (by decide)
  obtain ⟨w, hw⟩ : ∃ w : fx_U, w = fx_pt (fx_pt (fx_pt (fx_pt u (K 6) 0 x1) (K 6) 1 x2) (K 3) 3 0) (K 3) 4 0 := ⟨_, rfl⟩
  obtain ⟨z, hz⟩ : ∃ z : fx_U, z = fx_pt (fx_pt (fx_pt (fx_pt v (J 0) 39 0) (J 0) 40 (D - 1)) (J 7) 0 (-1)) (J 7) 1 (-1) := ⟨_, rfl⟩
  have kw : zp_ca K u w := by
    rw [hw]
    exact zp_ca.pl hK (by decide) (zp_ca.pl hK (by decide) (zp_ca.rw hK (by decide) (zp_ca.rw hK (by decide) zp_ca.rf)))
  have kz : zp_ra J v z := by
    rw [hz]
    exact zp_ra.rw hJ (by decide) (zp_ra.rw hJ (by decide) (zp_ra.a2 hJ (by decide) (zp_ra.a2 hJ (by decide) zp_ra.rf)))
  have w60 : w (K 6) 0 = x1 := by
    rw [hw]
    exact (zz_pa k63).trans ((zz_pa k63).trans ((zz_pj (by decide)).trans zz_ps))
  have w61 : w (K 6) 1 = x2 := by
    rw [hw]
    exact (zz_pa k63).trans ((zz_pa k63).trans zz_ps)
  have w33 : w (K 3) 3 = 0 := by
    rw [hw]
    exact (zz_pj (by decide)).trans zz_ps
  have w34 : w (K 3) 4 = 0 := by
    rw [hw]
    exact zz_ps
  have w20 : w (K 2) 0 = D := by
    rw [hw]
    exact (zz_pa k23).trans ((zz_pa k23).trans ((zz_pa k26).trans ((zz_pa k26).trans hu)))
  obtain ⟨t, ht⟩ : ∃ t : Int, t = f_X12_min z x1 x2 := ⟨_, rfl⟩
  have t1 : (t = x1 ∧ x1 ≤ x2) ∨ (t = x2 ∧ x2 ≤ x1) := by
    rw [ht]
    unfold f_X12_min
    split
    · omega
    · omega
  have eC : f_X6_paint u (K 3) (K 2) (K 0) x1 x2 = zp_cl K D 65 0 (D - 1) w := by
    unfold f_X6_paint zp_cl
    simp only [fz_lt, fz_lr, fz_ls, hpc.2.2, Int.toNat_natCast, T0, T1, ← hw, w20, show Int.toNat (64 - 0) + 1 = 65 from rfl]
    rw [show (0 : Int) + (D - 1 - (D - 1)) = 0 by omega]
  have e39 : fx_pt v (J 0) 39 0 (J 0) 0 = (J 9 : Int) := (zz_pj (by decide)).trans h9
  have e512 : fx_pt v (J 0) 39 0 (J 9) 512 = D := (zz_pa n9.1).trans hv
  have eR : f_X12_paintsBare v (J 0) x1 x2 = kL_X12_paintsBare_39 x1 x2 (J 0) (J 7) (J 8) 1302 t z 0 (D - 1) (-1) (-1) (v (J 8) 0) (v (J 8) 1) := by
    unfold f_X12_paintsBare
    simp only [fz_lt, fz_lr, fz_ls, hpr.2.1, hpr.2.2, Int.toNat_natCast, T0, T1, T5, e39, e512, ← hz, ← ht]
  have hS : zp_S J z 0 (D - 1) (-1) (-1) (v (J 8) 0) (v (J 8) 1) := by
    rw [hz]
    refine ⟨⟨?_, ?_⟩, ⟨?_, ?_⟩, ?_, ?_⟩
    · exact (zz_pa j07).trans ((zz_pa j07).trans ((zz_pj (by decide)).trans zz_ps))
    · exact (zz_pa j07).trans ((zz_pa j07).trans zz_ps)
    · exact (zz_pj (by decide)).trans zz_ps
    · exact zz_ps
    · exact (zz_pa j87).trans ((zz_pa j87).trans ((zz_pa j80).trans (zz_pa j80)))
    · exact (zz_pa j87).trans ((zz_pa j87).trans ((zz_pa j80).trans (zz_pa j80)))
  have m0 : zp_m (-1) (v (J 8) 0) = 0 := by
    unfold zp_m
    rw [if_pos rfl]
  have m1 : zp_m (-1) (v (J 8) 1) = 0 := by
    unfold zp_m
    rw [if_pos rfl]
  rw [eC, eR]
  refine zp_sim hK hJ hqc hqr hb hpc hpr ⟨by omega, hD.2⟩ hx1 hx2 1302 t 0 (D - 1) (-1) (-1) (v (J 8) 0) (v (J 8) 1) 65 w z ?_ (by omega) (Or.inl (by omega)) (by omega) (by omega) kw kz hS ⟨⟨⟨by decide, by omega, by omega⟩, fun h => absurd rfl h, fun h => absurd rfl h⟩, fun _ => ⟨⟨fun _ h => ?_, fun _ h => ?_, fun h => absurd rfl h⟩, ⟨fun _ h => ?_, fun _ h => ?_, fun h => absurd rfl h⟩⟩, fun j h1 h2 => by omega, ⟨fun h => absurd rfl h, fun h => absurd rfl h⟩, ⟨by omega, Or.inl w33⟩, ⟨fun _ _ => ⟨by omega, fun h => by omega⟩, fun h => absurd rfl h, fun _ h => absurd rfl h, fun h => absurd rfl h⟩⟩
  · rw [m0, m1]
    omega
  · rw [w60]
    omega
  · exact w60
  · rw [w61]
    omega
  · exact w61
/-- the greatest of the reference's dry minutes -/
theorem zp_ard {a2 bn bR : Nat} (h0 : Z a2 0 = (bn : Int)) (hD : Z bn 512 = D) (h36 : Z a2 36 = (bR : Int)) : ∀ (f : Nat) (m i : Int), D - i < (f : Int) → 0 < f → 0 ≤ i → m ≤ kL_X12_allDry_4 Z a2 f m i ∧ (∀ j : Nat, i ≤ (j : Int) → (j : Int) < D → Z bR j ≤ kL_X12_allDry_4 Z a2 f m i) ∧ (kL_X12_allDry_4 Z a2 f m i = m ∨ ∃ j : Nat, i ≤ (j : Int) ∧ (j : Int) < D ∧ Z bR j = kL_X12_allDry_4 Z a2 f m i) := by
  have T5 : Int.toNat 512 = 512 := rfl
  intro f
  induction f with
  | zero => intro m i _ h; omega
  | succ f ih =>
    intro m i hf _ i0
    have eK : kL_X12_allDry_4 Z a2 (f + 1) m i = if i < D then kL_X12_allDry_4 Z a2 f (f_X12_max Z m (Z bR i.toNat)) (i + 1) else m := by
      show kB_X12_allDry_4 (kL_X12_allDry_4 Z a2 f) Z a2 m i = _
      unfold kB_X12_allDry_4
      simp only [fz_lt, fz_lr, h0, Int.toNat_natCast, T5, hD, h36]
    rw [eK]
    by_cases g : i < D
    · rw [if_pos g]
      obtain ⟨M, hM⟩ : ∃ M : Int, M = f_X12_max Z m (Z bR i.toNat) := ⟨_, rfl⟩
      have m1 : m ≤ M ∧ Z bR i.toNat ≤ M ∧ (M = m ∨ M = Z bR i.toNat) := by
        rw [hM]
        unfold f_X12_max
        split
        · omega
        · omega
      rw [← hM]
      obtain ⟨a1, a2', a3⟩ := ih M (i + 1) (by omega) (by omega) (by omega)
      refine ⟨by omega, fun j j1 j2 => ?_, ?_⟩
      · by_cases e : (j : Int) = i
        · have ej : i.toNat = j := by omega
          rw [ej] at m1
          omega
        · exact a2' j (by omega) j2
      · rcases a3 with h | ⟨j, j1, j2, j3⟩
        · rcases m1.2.2 with q | q
          · exact Or.inl (h.trans q)
          · exact Or.inr ⟨i.toNat, by omega, by omega, by omega⟩
        · exact Or.inr ⟨j, by omega, j2, j3⟩
    · rw [if_neg g]
      exact ⟨Int.le_refl m, fun j j1 j2 => by omega, Or.inl rfl⟩
theorem zp_all (hF : zp_F K J D u v W Z) (hJ : zp_dis 9 J) (hpr : zp_pr J v) (h9 : v (J 0) 0 = (J 9 : Int)) (n9 : ∀ i : Nat, i < 9 → J 9 ≠ J i) (hv : v (J 9) 512 = D) (hD : D ≤ 64) : f_X12_allDry Z (J 0) = W (K 3) 3 := by
  obtain ⟨-, kz, hd, ⟨g1, g2⟩, -, -⟩ := hF
  have e0 : Z (J 0) 0 = (J 9 : Int) := (kz.2 0 (by decide)).trans h9
  have e1 : Z (J 9) 512 = D := (kz.1 (J 9) (n9 0 (by decide)) (n9 1 (by decide)) (n9 2 (by decide)) (n9 3 (by decide)) (n9 4 (by decide)) (n9 5 (by decide)) (n9 6 (by decide)) (n9 7 (by decide)) (n9 8 (by decide)) 512).trans hv
  have e2 : Z (J 0) 36 = (J 6 : Int) := (kz.2 36 (by decide)).trans hpr.1.2.2.2
  obtain ⟨a1, a2, a3⟩ := zp_ard e0 e1 e2 65 0 0 (by omega) (by decide) (by decide)
  unfold f_X12_allDry
  rw [show Int.toNat (64 - 0) + 1 = 65 from rfl]
  obtain ⟨M, hM⟩ : ∃ M : Int, M = kL_X12_allDry_4 Z (J 0) 65 0 0 := ⟨_, rfl⟩
  rw [← hM] at a1 a2 a3 ⊢
  have le1 : M ≤ W (K 3) 3 := by
    rcases a3 with h | ⟨j, -, j2, j3⟩
    · omega
    · obtain ⟨-, b2, -, -, -, b6⟩ := hd j j2
      omega
  have le2 : W (K 3) 3 ≤ M := by
    rcases g2 with h | ⟨j, j1, j2⟩
    · omega
    · obtain ⟨-, b2, -⟩ := hd j j1
      have := a2 j (by omega) j1
      omega
  omega
end Begins
