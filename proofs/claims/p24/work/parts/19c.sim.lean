/-! ALL IS PAINTED BY BOTH: minute by minute as dot by dot -/
def zp_cl (K : Nat → Nat) (D : Int) (f : Nat) (L H : Int) (w : fx_U) : fx_U := kL_X6_paint_39 D (K 6) (K 3) (K 2) (K 0) f L H (L + (D - 1 - H)) w
def zp_m (d l : Int) : Int := if d = -1 then 0 else l
/-- the free minutes of one of both -/
def zp_fr (x t d l F : Int) : Prop := (d = -1 → x ≤ t → F = t) ∧ (d = -1 → t < x → F = x) ∧ (d ≠ -1 → F = t + l)
/-- a dot that was begun -/
def zp_dt (K J : Nat → Nat) (L H d0 d1 : Int) (w z : fx_U) (j : Nat) : Prop := w (K 4) j = z (J 5) j ∧ ((j : Int) ≠ d0 → (j : Int) ≠ d1 → w (K 5) j = z (J 6) j ∧ z (J 3) j ≤ z (J 6) j ∧ ((j : Int) < L → z (J 4) j = 0) ∧ (H < (j : Int) → z (J 4) j = 1)) ∧ w (K 5) j ≤ w (K 3) 3
/-- which was the last -/
def zp_la (K J : Nat → Nat) (D t L H d0 d1 l0 l1 : Int) (w z : fx_U) : Prop := (d0 = -1 → d1 = -1 → w (K 3) 4 ≤ t ∧ ((0 < L ∨ H < D - 1) → w (K 3) 4 = z (J 0) 42 ∧ w (K 3) 5 = z (J 0) 41)) ∧ (d0 ≠ -1 → d1 = -1 → w (K 3) 4 = t + l0 ∧ w (K 3) 5 = d0) ∧ (d0 = -1 → d1 ≠ -1 → w (K 3) 4 = t + l1 ∧ w (K 3) 5 = d1) ∧ (d0 ≠ -1 → d1 ≠ -1 → (l0 ≤ l1 → w (K 3) 4 = t + l1 ∧ w (K 3) 5 = d1) ∧ (l1 < l0 → w (K 3) 4 = t + l0 ∧ w (K 3) 5 = d0))
def zp_ad (K : Nat → Nat) (D L H : Int) (w : fx_U) : Prop := 0 ≤ w (K 3) 3 ∧ (w (K 3) 3 = 0 ∨ ∃ j : Nat, (j : Int) < D ∧ ((j : Int) < L ∨ H < (j : Int)) ∧ w (K 5) j = w (K 3) 3)
def zp_R (K J : Nat → Nat) (B : Int → Int → Int → Int) (D x1 x2 t L H d0 d1 l0 l1 : Int) (w z : fx_U) : Prop := ((0 ≤ L ∧ L ≤ H + 1 ∧ H < D) ∧ (d0 ≠ -1 → 0 ≤ d0 ∧ d0 < L ∧ 1 ≤ l0 ∧ l0 ≤ 9 ∧ x1 ≤ t) ∧ (d1 ≠ -1 → H < d1 ∧ d1 < D ∧ 1 ≤ l1 ∧ l1 ≤ 9 ∧ x2 ≤ t)) ∧ (L ≤ H → zp_fr x1 t d0 l0 (w (K 6) 0) ∧ zp_fr x2 t d1 l1 (w (K 6) 1)) ∧ (∀ j : Nat, (j : Int) < D → ((j : Int) < L ∨ H < (j : Int)) → zp_dt K J L H d0 d1 w z j) ∧ ((d0 ≠ -1 → w (K 5) d0.toNat = t + l0 + B d0 (t + l0) 0) ∧ (d1 ≠ -1 → w (K 5) d1.toNat = t + l1 + B d1 (t + l1) 1)) ∧ zp_ad K D L H w ∧ zp_la K J D t L H d0 d1 l0 l1 w z
section Sim
variable {K J : Nat → Nat} {A B : Int → Int → Int → Int} {D x1 x2 t L H d0 d1 l0 l1 : Int} {f : Nat} {u v w y z : fx_U}
theorem zp_c0 (hL : L ≤ H) (hH : H < D) (hle : ¬ w (K 6) 1 < w (K 6) 0) : zp_cl K D (f + 1) L H w = zp_cl K D f (L + 1) H (f_X6_paintOne w (K 3) (K 2) (K 0) 0 L) := by
  have t0 : Int.toNat 0 = 0 := rfl
  have t1 : Int.toNat 1 = 1 := rfl
  show kB_X6_paint_39 (kL_X6_paint_39 D (K 6) (K 3) (K 2) (K 0) f) D (K 6) (K 3) (K 2) (K 0) L H (L + (D - 1 - H)) w = kL_X6_paint_39 D (K 6) (K 3) (K 2) (K 0) f (L + 1) H (L + 1 + (D - 1 - H)) _
  unfold kB_X6_paint_39 kJ_X6_paint_90
  simp only [fz_lt, fz_ls, t0, t1]
  rw [if_pos (show L + (D - 1 - H) < D by omega), if_neg hle, show L + (D - 1 - H) + 1 = L + 1 + (D - 1 - H) by omega]
theorem zp_c1 (hL : L ≤ H) (hH : H < D) (hlt : w (K 6) 1 < w (K 6) 0) : zp_cl K D (f + 1) L H w = zp_cl K D f L (H - 1) (f_X6_paintOne w (K 3) (K 2) (K 0) 1 H) := by
  have t0 : Int.toNat 0 = 0 := rfl
  have t1 : Int.toNat 1 = 1 := rfl
  show kB_X6_paint_39 (kL_X6_paint_39 D (K 6) (K 3) (K 2) (K 0) f) D (K 6) (K 3) (K 2) (K 0) L H (L + (D - 1 - H)) w = kL_X6_paint_39 D (K 6) (K 3) (K 2) (K 0) f L (H - 1) (L + (D - 1 - (H - 1))) _
  unfold kB_X6_paint_39 kJ_X6_paint_90
  simp only [fz_lt, fz_ls, t0, t1]
  rw [if_pos (show L + (D - 1 - H) < D by omega), if_pos hlt, show L + (D - 1 - H) + 1 = L + (D - 1 - (H - 1)) by omega, show H + -1 = H - 1 by omega]
theorem zp_c2 (hL : L = H + 1) : zp_cl K D (f + 1) L H w = fx_pt w (K 3) 6 (L - 1) := by
  show kB_X6_paint_39 (kL_X6_paint_39 D (K 6) (K 3) (K 2) (K 0) f) D (K 6) (K 3) (K 2) (K 0) L H (L + (D - 1 - H)) w = _
  unfold kB_X6_paint_39
  simp only [fz_lt, fz_ls]
  rw [if_neg (show ¬ L + (D - 1 - H) < D by omega)]
theorem zp_st0 (hK : zp_dis 7 K) (hJ : zp_dis 9 J) (hqc : zp_qc K A B D u) (hqr : zp_qr J A B D v) (hb : zp_bd A B D) (hpc : zp_pc K u) (hpr : zp_pr J v) (ht : 0 ≤ t ∧ t ≤ 1400) (hx : x1 ≤ t) (hw : zp_ca K u w) (hz : zp_ra J v z) (hS : zp_S J z L H d0 d1 l0 l1) (hR : zp_R K J B D x1 x2 t L H d0 d1 l0 l1 w z) (hf : H - L + 1 < (f : Int)) : ∃ (L1 d l : Int) (g : Nat) (w1 z1 : fx_U), f_X12_startsOne_0 z (J 0) 0 t = z1 ∧ zp_cl K D f L H w = zp_cl K D g L1 H w1 ∧ H - L1 + 1 < (g : Int) ∧ zp_ca K u w1 ∧ zp_ra J v z1 ∧ zp_S J z1 L1 H d d1 l l1 ∧ zp_R K J B D x1 x2 t L1 H d d1 l l1 w1 z1 ∧ (L1 ≤ H → d ≠ -1) ∧ 10 * (H - L1 + 1) + zp_m d l + zp_m d1 l1 ≤ 10 * (H - L + 1) + zp_m d0 l0 + zp_m d1 l1 ∧ ((L ≤ H ∨ d0 ≠ -1 ∨ d1 ≠ -1) → (d ≠ -1 ∨ d1 ≠ -1)) := by
  by_cases c : d0 ≠ -1 ∨ H < L
  · refine ⟨L, d0, l0, f, w, z, zp_n0 hpr hz hS c, rfl, hf, hw, hz, hS, hR, by omega, Int.le_refl _, by omega⟩
  · have cd : d0 = -1 := by omega
    have cL : L ≤ H := by omega
    obtain ⟨⟨⟨r1, r2, r3⟩, r4, r5⟩, r6, r7, ⟨r8, r9⟩, ⟨r10, r11⟩, ⟨a1, a2, a3, a4⟩⟩ := hR
    obtain ⟨⟨f1, f2, f3⟩, ⟨f4, f5, f6⟩⟩ := r6 cL
    obtain ⟨g, rfl⟩ : ∃ g : Nat, f = g + 1 := ⟨f - 1, by omega⟩
    rw [cd] at hS
    have e0 : w (K 6) 0 = t := f1 cd hx
    have ge : ¬ w (K 6) 1 < w (K 6) 0 := by
      by_cases h1 : d1 = -1
      · by_cases h2 : x2 ≤ t
        · rw [f4 h1 h2, e0]
          omega
        · rw [f5 h1 (by omega), e0]
          omega
      · have := r5 h1
        rw [f6 h1, e0]
        omega
    have st := zp_c0 (K := K) (D := D) (f := g) cL r3 ge
    obtain ⟨y, o1, o2, ⟨o3, o4⟩, ⟨o5, o6⟩, ⟨o7, o8⟩, o9, o10, o11⟩ := zp_one (i := L) (p := 0) (f := t) hK hqc hb hpc hw ⟨by omega, by omega⟩ (by decide) e0 ⟨ht.1, by omega⟩
    obtain ⟨z1, s1, s2, s3, ⟨s4, s5⟩, s6, s7, s8⟩ := zp_s0 (x := 0) (t := t) hJ hqr hpr hz hS cL ⟨r1, r3⟩
    rw [o1] at st
    obtain ⟨⟨ba1, ba2⟩, -⟩ := hb L t 0 (by omega) (by omega) (by decide)
    obtain ⟨a, ha⟩ : ∃ a : Int, a = A L t 0 := ⟨_, rfl⟩
    rw [← ha] at o3 o7 o9 o10 o11 s3 ba1 ba2
    obtain ⟨X, hX⟩ : ∃ X : Int, X = t + a + B L (t + a) 0 := ⟨_, rfl⟩
    rw [← hX] at o7 o9
    have p0 : Int.toNat 0 = 0 := rfl
    rw [p0] at o3 o4
    have om : y (K 3) 3 = X ∨ y (K 3) 3 = w (K 3) 3 := by
      rw [o9]
      by_cases h1 : w (K 3) 3 < X
      · rw [if_pos h1]
        exact Or.inl rfl
      · rw [if_neg h1]
        exact Or.inr rfl
    have om2 : X ≤ y (K 3) 3 ∧ w (K 3) 3 ≤ y (K 3) 3 := by
      rw [o9]
      by_cases h1 : w (K 3) 3 < X
      · rw [if_pos h1]
        omega
      · rw [if_neg h1]
        omega
    refine ⟨L + 1, L, a, g, y, z1, s1, st, by omega, o2, s2, s3, ⟨⟨⟨by omega, by omega, by omega⟩, fun _ => ⟨by omega, by omega, ba1, ba2, hx⟩, fun q => by have := r5 q; omega⟩, fun h => ⟨⟨fun q => by omega, fun q => by omega, fun _ => o3⟩, ?_⟩, fun j hj hs => ?_, ⟨fun _ => ?_, fun q => ?_⟩, ⟨by omega, ?_⟩, ⟨fun q _ => by omega, fun _ q => ?_, fun q _ => by omega, fun _ q => ⟨fun h => ?_, fun h => ?_⟩⟩⟩, by omega, ?_, by omega⟩
    · rw [o4 1 (by decide)]
      exact ⟨f4, f5, f6⟩
    · by_cases h1 : j = L.toNat
      · refine ⟨?_, fun q1 q2 => ?_, ?_⟩
        · rw [h1, o5, s4]
        · exact absurd (show (j : Int) = L by omega) q1
        · rw [h1, o7]
          exact om2.1
      · obtain ⟨b1, b2, b3⟩ := r7 j hj (by omega)
        obtain ⟨c1, c2, c3⟩ := s6 j
        refine ⟨?_, fun q1 q2 => ?_, ?_⟩
        · rw [o6 j h1, s5 j h1]
          exact b1
        · obtain ⟨e1, e2, e3, e4⟩ := b2 (by omega) q2
          rw [o8 j h1, c1, c2, c3]
          exact ⟨e1, e2, fun h => e3 (by omega), fun h => e4 (by omega)⟩
        · rw [o8 j h1]
          omega
    · rw [o7]
      exact hX
    · have := r5 q
      rw [o8 d1.toNat (by omega)]
      exact r9 q
    · rcases om with h1 | h1
      · exact Or.inr ⟨L.toNat, by omega, by omega, by rw [o7, h1]⟩
      · rcases r11 with h2 | ⟨j, j1, j2, j3⟩
        · exact Or.inl (h1.trans h2)
        · exact Or.inr ⟨j, j1, by omega, by rw [o8 j (by omega), h1]; exact j3⟩
    · have z := (a1 cd q).1
      exact o10 (Or.inl (by omega))
    · obtain ⟨b1, b2⟩ := a3 cd q
      obtain ⟨c1, c2⟩ := o11 (by omega)
      exact ⟨c1.trans b1, c2.trans b2⟩
    · obtain ⟨b1, b2⟩ := a3 cd q
      exact o10 (Or.inl (by omega))
    · unfold zp_m
      rw [if_pos cd, if_neg (show ¬ L = -1 by omega)]
      omega
theorem zp_st1 (hK : zp_dis 7 K) (hJ : zp_dis 9 J) (hqc : zp_qc K A B D u) (hqr : zp_qr J A B D v) (hb : zp_bd A B D) (hpc : zp_pc K u) (hpr : zp_pr J v) (ht : 0 ≤ t ∧ t ≤ 1400) (hx : x2 ≤ t) (hP : L ≤ H → x1 ≤ t → d0 ≠ -1) (hw : zp_ca K u w) (hz : zp_ra J v z) (hS : zp_S J z L H d0 d1 l0 l1) (hR : zp_R K J B D x1 x2 t L H d0 d1 l0 l1 w z) (hf : H - L + 1 < (f : Int)) : ∃ (H1 d l : Int) (g : Nat) (w1 z1 : fx_U), f_X12_startsOne_1 z (J 0) 1 t = z1 ∧ zp_cl K D f L H w = zp_cl K D g L H1 w1 ∧ H1 - L + 1 < (g : Int) ∧ zp_ca K u w1 ∧ zp_ra J v z1 ∧ zp_S J z1 L H1 d0 d l0 l ∧ zp_R K J B D x1 x2 t L H1 d0 d l0 l w1 z1 ∧ ((L ≤ H1 → x1 ≤ t → d0 ≠ -1) ∧ (L ≤ H1 → d ≠ -1)) ∧ 10 * (H1 - L + 1) + zp_m d0 l0 + zp_m d l ≤ 10 * (H - L + 1) + zp_m d0 l0 + zp_m d1 l1 ∧ ((d0 ≠ -1 ∨ d1 ≠ -1) → (d0 ≠ -1 ∨ d ≠ -1)) := by
  by_cases c : d1 ≠ -1 ∨ H < L
  · refine ⟨H, d1, l1, f, w, z, zp_n1 hpr hz hS c, rfl, hf, hw, hz, hS, hR, ⟨hP, by omega⟩, Int.le_refl _, by omega⟩
  · have cd : d1 = -1 := by omega
    have cL : L ≤ H := by omega
    obtain ⟨⟨⟨r1, r2, r3⟩, r4, r5⟩, r6, r7, ⟨r8, r9⟩, ⟨r10, r11⟩, ⟨a1, a2, a3, a4⟩⟩ := hR
    obtain ⟨⟨f1, f2, f3⟩, ⟨f4, f5, f6⟩⟩ := r6 cL
    obtain ⟨g, rfl⟩ : ∃ g : Nat, f = g + 1 := ⟨f - 1, by omega⟩
    rw [cd] at hS
    have e0 : w (K 6) 1 = t := f4 cd hx
    have gt : w (K 6) 1 < w (K 6) 0 := by
      by_cases h1 : d0 = -1
      · have h2 : t < x1 := by
          by_cases h3 : x1 ≤ t
          · exact absurd h1 (hP cL h3)
          · omega
        rw [f2 h1 h2, e0]
        omega
      · have := r4 h1
        rw [f3 h1, e0]
        omega
    have st := zp_c1 (K := K) (D := D) (f := g) cL r3 gt
    obtain ⟨y, o1, o2, ⟨o3, o4⟩, ⟨o5, o6⟩, ⟨o7, o8⟩, o9, o10, o11⟩ := zp_one (i := H) (p := 1) (f := t) hK hqc hb hpc hw ⟨by omega, by omega⟩ (by decide) e0 ⟨ht.1, by omega⟩
    obtain ⟨z1, s1, s2, s3, ⟨s4, s5⟩, s6, s7, s8⟩ := zp_s1 (x := 1) (t := t) hJ hqr hpr hz hS cL ⟨r1, r3⟩
    rw [o1] at st
    obtain ⟨⟨ba1, ba2⟩, -⟩ := hb H t 1 (by omega) (by omega) (by decide)
    obtain ⟨a, ha⟩ : ∃ a : Int, a = A H t 1 := ⟨_, rfl⟩
    rw [← ha] at o3 o7 o9 o10 o11 s3 ba1 ba2
    obtain ⟨X, hX⟩ : ∃ X : Int, X = t + a + B H (t + a) 1 := ⟨_, rfl⟩
    rw [← hX] at o7 o9
    have p1 : Int.toNat 1 = 1 := rfl
    rw [p1] at o3 o4
    have om : y (K 3) 3 = X ∨ y (K 3) 3 = w (K 3) 3 := by
      rw [o9]
      by_cases h1 : w (K 3) 3 < X
      · rw [if_pos h1]
        exact Or.inl rfl
      · rw [if_neg h1]
        exact Or.inr rfl
    have om2 : X ≤ y (K 3) 3 ∧ w (K 3) 3 ≤ y (K 3) 3 := by
      rw [o9]
      by_cases h1 : w (K 3) 3 < X
      · rw [if_pos h1]
        omega
      · rw [if_neg h1]
        omega
    refine ⟨H - 1, H, a, g, y, z1, s1, st, by omega, o2, s2, s3, ⟨⟨⟨by omega, by omega, by omega⟩, fun q => by have := r4 q; omega, fun _ => ⟨by omega, by omega, ba1, ba2, hx⟩⟩, fun h => ⟨?_, ⟨fun q => by omega, fun q => by omega, fun _ => o3⟩⟩, fun j hj hs => ?_, ⟨fun q => ?_, fun _ => ?_⟩, ⟨by omega, ?_⟩, ⟨fun _ q => by omega, fun _ q => by omega, fun q _ => ?_, fun q _ => ⟨fun h => ?_, fun h => ?_⟩⟩⟩, ⟨fun h1 h2 => hP cL h2, by omega⟩, ?_, by omega⟩
    · rw [o4 0 (by decide)]
      exact ⟨f1, f2, f3⟩
    · by_cases h1 : j = H.toNat
      · refine ⟨?_, fun q1 q2 => ?_, ?_⟩
        · rw [h1, o5, s4]
        · exact absurd (show (j : Int) = H by omega) q2
        · rw [h1, o7]
          exact om2.1
      · obtain ⟨b1, b2, b3⟩ := r7 j hj (by omega)
        obtain ⟨c1, c2, c3⟩ := s6 j
        refine ⟨?_, fun q1 q2 => ?_, ?_⟩
        · rw [o6 j h1, s5 j h1]
          exact b1
        · obtain ⟨e1, e2, e3, e4⟩ := b2 q1 (by omega)
          rw [o8 j h1, c1, c2, c3]
          exact ⟨e1, e2, fun h => e3 (by omega), fun h => e4 (by omega)⟩
        · rw [o8 j h1]
          omega
    · have := r4 q
      rw [o8 d0.toNat (by omega)]
      exact r8 q
    · rw [o7]
      exact hX
    · rcases om with h1 | h1
      · exact Or.inr ⟨H.toNat, by omega, by omega, by rw [o7, h1]⟩
      · rcases r11 with h2 | ⟨j, j1, j2, j3⟩
        · exact Or.inl (h1.trans h2)
        · exact Or.inr ⟨j, j1, by omega, by rw [o8 j (by omega), h1]; exact j3⟩
    · have z := (a1 q cd).1
      exact o10 (Or.inl (by omega))
    · obtain ⟨b1, b2⟩ := a2 q cd
      exact o10 (by omega)
    · obtain ⟨b1, b2⟩ := a2 q cd
      obtain ⟨c1, c2⟩ := o11 (by omega)
      exact ⟨c1.trans b1, c2.trans b2⟩
    · unfold zp_m
      rw [if_pos cd, if_neg (show ¬ H = -1 by omega)]
      omega
theorem zp_en0 (hJ : zp_dis 9 J) (hqr : zp_qr J A B D v) (hb : zp_bd A B D) (hpr : zp_pr J v) (ht : 0 ≤ t ∧ t ≤ 1400) (hz : zp_ra J v z) (hS : zp_S J z L H d0 d1 l0 l1) (hd : d0 ≠ -1 → (0 ≤ d0 ∧ d0 < D) ∧ 1 ≤ l0 ∧ l0 ≤ 9) : ∃ (d l : Int) (z1 : fx_U), f_X12_endsOne_0 z (J 0) 0 t = z1 ∧ zp_ra J v z1 ∧ zp_S J z1 L H d d1 l l1 ∧ (∀ j : Nat, z1 (J 5) j = z (J 5) j) ∧ (∀ j : Nat, (j : Int) ≠ d0 → z1 (J 3) j = z (J 3) j ∧ z1 (J 4) j = z (J 4) j ∧ z1 (J 6) j = z (J 6) j) ∧ ((d0 = -1 ∧ d = -1 ∧ z1 (J 0) 41 = z (J 0) 41 ∧ z1 (J 0) 42 = z (J 0) 42) ∨ (d0 ≠ -1 ∧ d = d0 ∧ l = l0 - 1 ∧ 1 ≤ l ∧ z1 (J 0) 41 = z (J 0) 41 ∧ z1 (J 0) 42 = z (J 0) 42) ∨ (d0 ≠ -1 ∧ d = -1 ∧ l0 = 1 ∧ (z1 (J 3) d0.toNat = t + 1 ∧ z1 (J 4) d0.toNat = 0 ∧ z1 (J 6) d0.toNat = t + 1 + B d0 (t + 1) 0) ∧ z1 (J 0) 41 = d0 ∧ z1 (J 0) 42 = t + 1)) := by
  by_cases c : d0 = -1
  · refine ⟨d0, l0, z, zp_i0 hpr hz hS c, hz, hS, fun _ => rfl, fun _ _ => ⟨rfl, rfl, rfl⟩, Or.inl ⟨c, c, rfl, rfl⟩⟩
  · obtain ⟨b1, b2, b3⟩ := hd c
    by_cases c2 : 1 < l0
    · obtain ⟨y, e1, e2, e3, e4⟩ := zp_g0 (x := 0) (t := t) hJ hpr hz hS c c2
      have m3 := hJ 3 8 (by decide) (by decide) (by decide)
      have m4 := hJ 4 8 (by decide) (by decide) (by decide)
      have m5 := hJ 5 8 (by decide) (by decide) (by decide)
      have m6 := hJ 6 8 (by decide) (by decide) (by decide)
      have m0 := hJ 0 8 (by decide) (by decide) (by decide)
      exact ⟨d0, l0 - 1, y, e1, e2, e3, fun j => e4 _ j m5, fun j _ => ⟨e4 _ j m3, e4 _ j m4, e4 _ j m6⟩, Or.inr (Or.inl ⟨c, rfl, rfl, by omega, e4 _ 41 m0, e4 _ 42 m0⟩)⟩
    · obtain ⟨y, e1, e2, e3, e4, e5, e6, e7, e8⟩ := zp_e0 (x := 0) (t := t) hJ hqr hb hpr hz hS b1 (by omega) ⟨ht.1, by omega⟩
      exact ⟨-1, l0 - 1, y, e1, e2, e3, e4, fun j hj => e6 j (by omega), Or.inr (Or.inr ⟨c, rfl, by omega, e5, e7, e8⟩)⟩
theorem zp_en1 (hJ : zp_dis 9 J) (hqr : zp_qr J A B D v) (hb : zp_bd A B D) (hpr : zp_pr J v) (ht : 0 ≤ t ∧ t ≤ 1400) (hz : zp_ra J v z) (hS : zp_S J z L H d0 d1 l0 l1) (hd : d1 ≠ -1 → (0 ≤ d1 ∧ d1 < D) ∧ 1 ≤ l1 ∧ l1 ≤ 9) : ∃ (d l : Int) (z1 : fx_U), f_X12_endsOne_1 z (J 0) 1 t = z1 ∧ zp_ra J v z1 ∧ zp_S J z1 L H d0 d l0 l ∧ (∀ j : Nat, z1 (J 5) j = z (J 5) j) ∧ (∀ j : Nat, (j : Int) ≠ d1 → z1 (J 3) j = z (J 3) j ∧ z1 (J 4) j = z (J 4) j ∧ z1 (J 6) j = z (J 6) j) ∧ ((d1 = -1 ∧ d = -1 ∧ z1 (J 0) 41 = z (J 0) 41 ∧ z1 (J 0) 42 = z (J 0) 42) ∨ (d1 ≠ -1 ∧ d = d1 ∧ l = l1 - 1 ∧ 1 ≤ l ∧ z1 (J 0) 41 = z (J 0) 41 ∧ z1 (J 0) 42 = z (J 0) 42) ∨ (d1 ≠ -1 ∧ d = -1 ∧ l1 = 1 ∧ (z1 (J 3) d1.toNat = t + 1 ∧ z1 (J 4) d1.toNat = 1 ∧ z1 (J 6) d1.toNat = t + 1 + B d1 (t + 1) 1) ∧ z1 (J 0) 41 = d1 ∧ z1 (J 0) 42 = t + 1)) := by
  by_cases c : d1 = -1
  · refine ⟨d1, l1, z, zp_i1 hpr hz hS c, hz, hS, fun _ => rfl, fun _ _ => ⟨rfl, rfl, rfl⟩, Or.inl ⟨c, c, rfl, rfl⟩⟩
  · obtain ⟨b1, b2, b3⟩ := hd c
    by_cases c2 : 1 < l1
    · obtain ⟨y, e1, e2, e3, e4⟩ := zp_g1 (x := 1) (t := t) hJ hpr hz hS c c2
      have m3 := hJ 3 8 (by decide) (by decide) (by decide)
      have m4 := hJ 4 8 (by decide) (by decide) (by decide)
      have m5 := hJ 5 8 (by decide) (by decide) (by decide)
      have m6 := hJ 6 8 (by decide) (by decide) (by decide)
      have m0 := hJ 0 8 (by decide) (by decide) (by decide)
      exact ⟨d1, l1 - 1, y, e1, e2, e3, fun j => e4 _ j m5, fun j _ => ⟨e4 _ j m3, e4 _ j m4, e4 _ j m6⟩, Or.inr (Or.inl ⟨c, rfl, rfl, by omega, e4 _ 41 m0, e4 _ 42 m0⟩)⟩
    · obtain ⟨y, e1, e2, e3, e4, e5, e6, e7, e8⟩ := zp_e1 (x := 1) (t := t) hJ hqr hb hpr hz hS b1 (by omega) ⟨ht.1, by omega⟩
      exact ⟨-1, l1 - 1, y, e1, e2, e3, e4, fun j hj => e6 j (by omega), Or.inr (Or.inr ⟨c, rfl, by omega, e5, e7, e8⟩)⟩
theorem zp_m0 {d l : Int} (h : d ≠ -1 → 1 ≤ l) : 0 ≤ zp_m d l := by
  unfold zp_m
  by_cases c : d = -1
  · rw [if_pos c]
    exact Int.le_refl 0
  · have := h c
    rw [if_neg c]
    omega
theorem zp_mm {d l e k : Int} (c : (d = -1 ∧ e = -1) ∨ (d ≠ -1 ∧ e = d ∧ k = l - 1 ∧ 1 ≤ k) ∨ (d ≠ -1 ∧ e = -1 ∧ l = 1)) (h : d ≠ -1 → 1 ≤ l) : zp_m e k ≤ zp_m d l ∧ (d ≠ -1 → zp_m e k < zp_m d l) := by
  unfold zp_m
  rcases c with ⟨c1, c2⟩ | ⟨c1, c2, c3, c4⟩ | ⟨c1, c2, c3⟩
  · rw [if_pos c1, if_pos c2]
    exact ⟨Int.le_refl 0, fun q => absurd c1 q⟩
  · rw [if_neg c1, if_neg (by omega)]
    omega
  · rw [if_neg c1, if_pos c2]
    omega
/-- a minute ends -/
theorem zp_end (hJ : zp_dis 9 J) (hqr : zp_qr J A B D v) (hb : zp_bd A B D) (hpr : zp_pr J v) (ht : 0 ≤ t ∧ t ≤ 1400) (hz : zp_ra J v z) (hS : zp_S J z L H d0 d1 l0 l1) (hR : zp_R K J B D x1 x2 t L H d0 d1 l0 l1 w z) (P1 : L ≤ H → x1 ≤ t → d0 ≠ -1) (P2 : L ≤ H → x2 ≤ t → d1 ≠ -1) : ∃ (e0 e1 k0 k1 : Int) (z2 : fx_U), f_X12_endsOne_1 (f_X12_endsOne_0 z (J 0) 0 t) (J 0) 1 t = z2 ∧ zp_S J (f_X12_endsOne_0 z (J 0) 0 t) L H e0 d1 k0 l1 ∧ zp_ra J v z2 ∧ zp_S J z2 L H e0 e1 k0 k1 ∧ zp_R K J B D x1 x2 (t + 1) L H e0 e1 k0 k1 w z2 ∧ zp_m e0 k0 + zp_m e1 k1 ≤ zp_m d0 l0 + zp_m d1 l1 ∧ ((d0 ≠ -1 ∨ d1 ≠ -1) → zp_m e0 k0 + zp_m e1 k1 < zp_m d0 l0 + zp_m d1 l1) := by
  obtain ⟨⟨⟨r1, r2, r3⟩, r4, r5⟩, r6, r7, ⟨r8, r9⟩, r10, ⟨a1, a2, a3, a4⟩⟩ := hR
  obtain ⟨e0, k0, z1, s1, s2, s3, s4, s5, s6⟩ := zp_en0 hJ hqr hb hpr ht hz hS (fun h => by have := r4 h; omega)
  obtain ⟨e1, k1, z2, q1, q2, q3, q4, q5, q6⟩ := zp_en1 hJ hqr hb hpr ht s2 s3 (fun h => by have := r5 h; omega)
  have B0 : d0 ≠ -1 → 0 ≤ B d0 (t + 1) 0 := fun h => (hb d0 (t + 1) 0 (r4 h).1 (by have := r4 h; omega) (by decide)).2.1
  have B1 : d1 ≠ -1 → 0 ≤ B d1 (t + 1) 1 := fun h => (hb d1 (t + 1) 1 (by have := r5 h; omega) (r5 h).2.1 (by decide)).2.1
  have c0 : (d0 = -1 ∧ e0 = -1) ∨ (d0 ≠ -1 ∧ e0 = d0 ∧ k0 = l0 - 1 ∧ 1 ≤ k0) ∨ (d0 ≠ -1 ∧ e0 = -1 ∧ l0 = 1) := by
    rcases s6 with ⟨h1, h2, -⟩ | ⟨h1, h2, h3, h4, -⟩ | ⟨h1, h2, h3, -⟩
    · exact Or.inl ⟨h1, h2⟩
    · exact Or.inr (Or.inl ⟨h1, h2, h3, h4⟩)
    · exact Or.inr (Or.inr ⟨h1, h2, h3⟩)
  have c1 : (d1 = -1 ∧ e1 = -1) ∨ (d1 ≠ -1 ∧ e1 = d1 ∧ k1 = l1 - 1 ∧ 1 ≤ k1) ∨ (d1 ≠ -1 ∧ e1 = -1 ∧ l1 = 1) := by
    rcases q6 with ⟨h1, h2, -⟩ | ⟨h1, h2, h3, h4, -⟩ | ⟨h1, h2, h3, -⟩
    · exact Or.inl ⟨h1, h2⟩
    · exact Or.inr (Or.inl ⟨h1, h2, h3, h4⟩)
    · exact Or.inr (Or.inr ⟨h1, h2, h3⟩)
  refine ⟨e0, e1, k0, k1, z2, by rw [s1]; exact q1, by rw [s1]; exact s3, q2, q3, ⟨⟨⟨r1, r2, r3⟩, fun h => ?_, fun h => ?_⟩, fun h => ?_, fun j hj hs => ?_, ⟨fun h => ?_, fun h => ?_⟩, r10, ?_⟩, ?_, ?_⟩
  · have := r4 (by omega)
    omega
  · have := r5 (by omega)
    omega
  · obtain ⟨⟨f1, f2, f3⟩, f4, f5, f6⟩ := r6 h
    have g1 := P1 h
    have g2 := P2 h
    refine ⟨⟨fun i1 i2 => ?_, fun i1 i2 => ?_, fun i1 => ?_⟩, ⟨fun i1 i2 => ?_, fun i1 i2 => ?_, fun i1 => ?_⟩⟩
    · by_cases c : d0 = -1
      · by_cases c2 : x1 ≤ t
        · exact absurd c (g1 c2)
        · rw [f2 c (by omega)]
          omega
      · rw [f3 c]
        omega
    · by_cases c : d0 = -1
      · exact f2 c (by omega)
      · have := r4 c
        omega
    · rw [f3 (by omega)]
      omega
    · by_cases c : d1 = -1
      · by_cases c2 : x2 ≤ t
        · exact absurd c (g2 c2)
        · rw [f5 c (by omega)]
          omega
      · rw [f6 c]
        omega
    · by_cases c : d1 = -1
      · exact f5 c (by omega)
      · have := r5 c
        omega
    · rw [f6 (by omega)]
      omega
  · obtain ⟨b1, b2, b3⟩ := r7 j hj hs
    refine ⟨?_, fun n0 n1 => ?_, b3⟩
    · rw [q4, s4]
      exact b1
    · by_cases h0 : (j : Int) = d0
      · have g0 := r4 (by omega)
        have nj : (j : Int) ≠ d1 := by
          by_cases c : d1 = -1
          · omega
          · have := r5 c
            omega
        rcases s6 with ⟨i1, -⟩ | ⟨-, i2, -⟩ | ⟨i1, i2, i3, ⟨m3, m4, m6⟩, -⟩
        · omega
        · omega
        · obtain ⟨y3, y4, y6⟩ := q5 j nj
          have e8 := r8 i1
          have b0 := B0 i1
          have jd : d0.toNat = j := by omega
          rw [jd] at m3 m4 m6 e8
          rw [i3] at e8
          rw [y3, y4, y6, m3, m4, m6, e8]
          exact ⟨rfl, by omega, fun _ => rfl, fun h => by omega⟩
      · by_cases h1 : (j : Int) = d1
        · have g1 := r5 (by omega)
          rcases q6 with ⟨i1, -⟩ | ⟨-, i2, -⟩ | ⟨i1, i2, i3, ⟨m3, m4, m6⟩, -⟩
          · omega
          · omega
          · have e9 := r9 i1
            have b0 := B1 i1
            have jd : d1.toNat = j := by omega
            rw [jd] at m3 m4 m6 e9
            rw [i3] at e9
            rw [m3, m4, m6, e9]
            exact ⟨rfl, by omega, fun h => by omega, fun _ => rfl⟩
        · obtain ⟨y3, y4, y6⟩ := q5 j h1
          obtain ⟨p3, p4, p6⟩ := s5 j h0
          rw [y3, y4, y6, p3, p4, p6]
          exact b2 h0 h1
  · have e : e0 = d0 ∧ t + 1 + k0 = t + l0 := by omega
    rw [e.1, e.2]
    exact r8 (by omega)
  · have e : e1 = d1 ∧ t + 1 + k1 = t + l1 := by omega
    rw [e.1, e.2]
    exact r9 (by omega)
  · refine ⟨fun i0 i1 => ?_, fun i0 i1 => ?_, fun i0 i1 => ?_, fun i0 i1 => ⟨fun h => ?_, fun h => ?_⟩⟩
    · clear r6 r7 r8 r9 r10 q5 s5 q4 s4 hb hqr B0 B1 P1 P2
      rcases s6 with ⟨h1, -, h3, h4⟩ | ⟨h1, h2, -⟩ | ⟨h1, -, h2, -, h3, h4⟩
      · rcases q6 with ⟨j1, -, j3, j4⟩ | ⟨j1, j2, -⟩ | ⟨j1, -, j2, -, j3, j4⟩
        · obtain ⟨m1, m2⟩ := a1 h1 j1
          exact ⟨Int.le_trans m1 (by omega), fun hh => by rw [j3, j4, h3, h4]; exact m2 hh⟩
        · exact absurd (j2.symm.trans i1) j1
        · obtain ⟨m1, m2⟩ := a3 h1 j1
          rw [j2] at m1
          exact ⟨by rw [m1]; exact Int.le_refl _, fun _ => ⟨m1.trans j4.symm, m2.trans j3.symm⟩⟩
      · exact absurd (h2.symm.trans i0) h1
      · rcases q6 with ⟨j1, -, j3, j4⟩ | ⟨j1, j2, -⟩ | ⟨j1, -, j2, -, j3, j4⟩
        · obtain ⟨m1, m2⟩ := a2 h1 j1
          rw [h2] at m1
          exact ⟨by rw [m1]; exact Int.le_refl _, fun _ => ⟨m1.trans (h4.symm.trans j4.symm), m2.trans (h3.symm.trans j3.symm)⟩⟩
        · exact absurd (j2.symm.trans i1) j1
        · obtain ⟨m1, m2⟩ := (a4 h1 j1).1 (by rw [h2, j2]; exact Int.le_refl _)
          rw [j2] at m1
          exact ⟨by rw [m1]; exact Int.le_refl _, fun _ => ⟨m1.trans j4.symm, m2.trans j3.symm⟩⟩
    · by_cases c : d1 = -1
      · obtain ⟨m1, m2⟩ := a2 (by omega) c
        exact ⟨by omega, by omega⟩
      · obtain ⟨m1, m2⟩ := (a4 (by omega) c).2 (by omega)
        exact ⟨by omega, by omega⟩
    · by_cases c : d0 = -1
      · obtain ⟨m1, m2⟩ := a3 c (by omega)
        exact ⟨by omega, by omega⟩
      · obtain ⟨m1, m2⟩ := (a4 c (by omega)).1 (by have := r5 (by omega); omega)
        exact ⟨by omega, by omega⟩
    · obtain ⟨m1, m2⟩ := (a4 (by omega) (by omega)).1 (by omega)
      exact ⟨by omega, by omega⟩
    · obtain ⟨m1, m2⟩ := (a4 (by omega) (by omega)).2 (by omega)
      exact ⟨by omega, by omega⟩
  · have g0 := zp_mm c0 (fun h => (r4 h).2.2.1)
    have g1 := zp_mm c1 (fun h => (r5 h).2.2.1)
    omega
  · have g0 := zp_mm c0 (fun h => (r4 h).2.2.1)
    have g1 := zp_mm c1 (fun h => (r5 h).2.2.1)
    intro h
    rcases h with h | h
    · have := g0.2 h
      omega
    · have := g1.2 h
      omega
/-- all is painted -/
def zp_F (K J : Nat → Nat) (D : Int) (u v W Z : fx_U) : Prop := zp_ca K u W ∧ zp_ra J v Z ∧ (∀ j : Nat, (j : Int) < D → W (K 4) j = Z (J 5) j ∧ W (K 5) j = Z (J 6) j ∧ Z (J 3) j ≤ Z (J 6) j ∧ ((j : Int) ≤ W (K 3) 6 → Z (J 4) j = 0) ∧ (W (K 3) 6 < (j : Int) → Z (J 4) j = 1) ∧ W (K 5) j ≤ W (K 3) 3) ∧ (0 ≤ W (K 3) 3 ∧ (W (K 3) 3 = 0 ∨ ∃ j : Nat, (j : Int) < D ∧ W (K 5) j = W (K 3) 3)) ∧ (W (K 3) 4 = Z (J 0) 42 ∧ W (K 3) 5 = Z (J 0) 41) ∧ (-1 ≤ W (K 3) 6 ∧ W (K 3) 6 < D)
theorem zp_ph1 {rc : Int → fx_U → Int → Int → Int → Int → Int → Int → fx_U} (hK : zp_dis 7 K) (hJ : zp_dis 9 J) (hqc : zp_qc K A B D u) (hqr : zp_qr J A B D v) (hb : zp_bd A B D) (hpc : zp_pc K u) (hpr : zp_pr J v) (ht : 0 ≤ t ∧ t ≤ 1400) (hw : zp_ca K u w) (hz : zp_ra J v z) (hS : zp_S J z L H d0 d1 l0 l1) (hR : zp_R K J B D x1 x2 t L H d0 d1 l0 l1 w z) (hf : H - L + 1 < (f : Int)) (hgo : L ≤ H ∨ d0 ≠ -1 ∨ d1 ≠ -1) : ∃ (L1 d l : Int) (g : Nat) (w1 z1 : fx_U), kJ_X12_paintsBare_70 t x1 x2 (J 0) (J 7) (J 8) rc z L H d0 d1 l0 l1 = kJ_X12_paintsBare_81 t x2 (J 0) (J 7) (J 8) rc z1 L1 H d d1 l l1 ∧ zp_cl K D f L H w = zp_cl K D g L1 H w1 ∧ H - L1 + 1 < (g : Int) ∧ zp_ca K u w1 ∧ zp_ra J v z1 ∧ zp_S J z1 L1 H d d1 l l1 ∧ zp_R K J B D x1 x2 t L1 H d d1 l l1 w1 z1 ∧ (L1 ≤ H → x1 ≤ t → d ≠ -1) ∧ 10 * (H - L1 + 1) + zp_m d l + zp_m d1 l1 ≤ 10 * (H - L + 1) + zp_m d0 l0 + zp_m d1 l1 ∧ (x1 ≤ t → (d ≠ -1 ∨ d1 ≠ -1)) := by
  have T0 : Int.toNat 0 = 0 := rfl
  have T1 : Int.toNat 1 = 1 := rfl
  by_cases c : t < x1
  · refine ⟨L, d0, l0, f, w, z, ?_, rfl, hf, hw, hz, hS, hR, fun _ h => absurd h (Int.not_le.mpr c), Int.le_refl _, fun h => absurd h (Int.not_le.mpr c)⟩
    unfold kJ_X12_paintsBare_70
    rw [if_pos c]
  · obtain ⟨L1, d, l, g, w1, z1, s1, s2, s3, s4, s5, s6, s7, s8, s9, s10⟩ := zp_st0 hK hJ hqc hqr hb hpc hpr ht (Int.not_lt.mp c) hw hz hS hR hf
    refine ⟨L1, d, l, g, w1, z1, ?_, s2, s3, s4, s5, s6, s7, fun h _ => s8 h, s9, fun _ => s10 hgo⟩
    obtain ⟨⟨q1, q2⟩, ⟨q3, q4⟩, q5, q6⟩ := s6
    unfold kJ_X12_paintsBare_70
    simp only [fz_lt, fz_ls, if_neg c, s1, T0, T1, q1, q2, q3, q4, q5, q6]
theorem zp_ph2 {L1 d l : Int} {g : Nat} {w1 z1 : fx_U} {rc : Int → fx_U → Int → Int → Int → Int → Int → Int → fx_U} (hK : zp_dis 7 K) (hJ : zp_dis 9 J) (hqc : zp_qc K A B D u) (hqr : zp_qr J A B D v) (hb : zp_bd A B D) (hpc : zp_pc K u) (hpr : zp_pr J v) (ht : 0 ≤ t ∧ t ≤ 1400) (s3 : H - L1 + 1 < (g : Int)) (s4 : zp_ca K u w1) (s5 : zp_ra J v z1) (s6 : zp_S J z1 L1 H d d1 l l1) (s7 : zp_R K J B D x1 x2 t L1 H d d1 l l1 w1 z1) (s8 : L1 ≤ H → x1 ≤ t → d ≠ -1) : ∃ (H1 d' l' : Int) (g' : Nat) (w2 z2 : fx_U), kJ_X12_paintsBare_81 t x2 (J 0) (J 7) (J 8) rc z1 L1 H d d1 l l1 = kJ_X12_paintsBare_92 (J 0) t (J 7) (J 8) rc z2 L1 H1 d d' l l' ∧ zp_cl K D g L1 H w1 = zp_cl K D g' L1 H1 w2 ∧ H1 - L1 + 1 < (g' : Int) ∧ zp_ca K u w2 ∧ zp_ra J v z2 ∧ zp_S J z2 L1 H1 d d' l l' ∧ zp_R K J B D x1 x2 t L1 H1 d d' l l' w2 z2 ∧ ((L1 ≤ H1 → x1 ≤ t → d ≠ -1) ∧ (L1 ≤ H1 → x2 ≤ t → d' ≠ -1)) ∧ 10 * (H1 - L1 + 1) + zp_m d l + zp_m d' l' ≤ 10 * (H - L1 + 1) + zp_m d l + zp_m d1 l1 ∧ ((d ≠ -1 ∨ d1 ≠ -1) → (d ≠ -1 ∨ d' ≠ -1)) := by
  have T0 : Int.toNat 0 = 0 := rfl
  have T1 : Int.toNat 1 = 1 := rfl
  by_cases c : t < x2
  · refine ⟨H, d1, l1, g, w1, z1, ?_, rfl, s3, s4, s5, s6, s7, ⟨s8, fun _ h => absurd h (Int.not_le.mpr c)⟩, Int.le_refl _, fun h => h⟩
    unfold kJ_X12_paintsBare_81
    rw [if_pos c]
  · obtain ⟨H1, d', l', g', w2, z2, p1, p2, p3, p4, p5, p6, p7, p8, p9, p10⟩ := zp_st1 hK hJ hqc hqr hb hpc hpr ht (Int.not_lt.mp c) s8 s4 s5 s6 s7 s3
    refine ⟨H1, d', l', g', w2, z2, ?_, p2, p3, p4, p5, p6, p7, ⟨p8.1, fun h _ => p8.2 h⟩, p9, p10⟩
    obtain ⟨⟨q1, q2⟩, ⟨q3, q4⟩, q5, q6⟩ := p6
    unfold kJ_X12_paintsBare_81
    simp only [fz_lt, fz_ls, if_neg c, p1, T0, T1, q1, q2, q3, q4, q5, q6]
theorem zp_ar {t m0 m3 : Int} {n : Nat} (h1 : m0 + ((600 - t).toNat : Int) < ((n + 1 : Nat) : Int)) (t0 : 0 ≤ t) (t1 : t ≤ 600 ∨ t + m0 ≤ 1300) (t2 : m0 ≤ 700) (le : m3 ≤ m0) (st : 600 ≤ t → m3 < m0) : m3 + ((600 - (t + 1)).toNat : Int) < (n : Int) ∧ (t + 1 ≤ 600 ∨ t + 1 + m3 ≤ 1300) ∧ m3 ≤ 700 := by
  by_cases c : t < 600
  · omega
  · have := st (by omega)
    omega
theorem zp_ch {a b X Y Z U V m0 : Int} (h1 : a + X + Y ≤ m0) (h2 : b + X + Z ≤ a + X + Y) (h3 : U + V ≤ X + Z) : b + U + V ≤ m0 ∧ (U + V < X + Z → b + U + V < m0) := by
  omega
theorem zp_sim (hK : zp_dis 7 K) (hJ : zp_dis 9 J) (hqc : zp_qc K A B D u) (hqr : zp_qr J A B D v) (hb : zp_bd A B D) (hpc : zp_pc K u) (hpr : zp_pr J v) (hD : 1 ≤ D ∧ D ≤ 64) (hx1 : 0 ≤ x1 ∧ x1 ≤ 600) (hx2 : 0 ≤ x2 ∧ x2 ≤ 600) : ∀ (n : Nat) (t L H d0 d1 l0 l1 : Int) (f : Nat) (w z : fx_U), 10 * (H - L + 1) + zp_m d0 l0 + zp_m d1 l1 + ((600 - t).toNat : Int) < (n : Int) → 0 ≤ t → (t ≤ 600 ∨ t + (10 * (H - L + 1) + zp_m d0 l0 + zp_m d1 l1) ≤ 1300) → 10 * (H - L + 1) + zp_m d0 l0 + zp_m d1 l1 ≤ 700 → H - L + 1 < (f : Int) → zp_ca K u w → zp_ra J v z → zp_S J z L H d0 d1 l0 l1 → zp_R K J B D x1 x2 t L H d0 d1 l0 l1 w z → zp_F K J D u v (zp_cl K D f L H w) (kL_X12_paintsBare_39 x1 x2 (J 0) (J 7) (J 8) n t z L H d0 d1 l0 l1) := by
  intro n
  induction n with
  | zero =>
    intro t L H d0 d1 l0 l1 f w z h1 _ _ _ _ _ _ _ hR
    obtain ⟨⟨⟨r1, r2, r3⟩, r4, r5⟩, -⟩ := hR
    have g0 := zp_m0 (d := d0) (l := l0) (fun h => (r4 h).2.2.1)
    have g1 := zp_m0 (d := d1) (l := l1) (fun h => (r5 h).2.2.1)
    omega
  | succ n ih =>
    intro t L H d0 d1 l0 l1 f w z h1 t0 t1 t2 hf hw hz hS hR
    have eK : kL_X12_paintsBare_39 x1 x2 (J 0) (J 7) (J 8) (n + 1) t z L H d0 d1 l0 l1 = kB_X12_paintsBare_39 (kL_X12_paintsBare_39 x1 x2 (J 0) (J 7) (J 8) n) x1 x2 (J 0) (J 7) (J 8) t z L H d0 d1 l0 l1 := rfl
    have m0 := zp_m0 (d := d0) (l := l0) (fun h => (hR.1.2.1 h).2.2.1)
    have m1 := zp_m0 (d := d1) (l := l1) (fun h => (hR.1.2.2 h).2.2.1)
    have ht : 0 ≤ t ∧ t ≤ 1400 := ⟨t0, by have := hR.1.1; omega⟩
    rw [eK]
    by_cases done : H < L ∧ d0 = -1 ∧ d1 = -1
    · obtain ⟨c1, c2, c3⟩ := done
      obtain ⟨⟨⟨r1, r2, r3⟩, -, -⟩, -, r7, -, ⟨r10, r11⟩, ⟨a1, -⟩⟩ := hR
      obtain ⟨g, rfl⟩ : ∃ g : Nat, f = g + 1 := ⟨f - 1, by omega⟩
      have eB : kB_X12_paintsBare_39 (kL_X12_paintsBare_39 x1 x2 (J 0) (J 7) (J 8) n) x1 x2 (J 0) (J 7) (J 8) t z L H d0 d1 l0 l1 = z := by
        unfold kB_X12_paintsBare_39
        rw [if_pos c1, if_pos c2, if_pos c3]
      have k43 := hK 4 3 (by decide) (by decide) (by decide)
      have k53 := hK 5 3 (by decide) (by decide) (by decide)
      rw [eB, zp_c2 (show L = H + 1 by omega)]
      have s6 : fx_pt w (K 3) 6 (L - 1) (K 3) 6 = L - 1 := zz_ps
      have s3 : fx_pt w (K 3) 6 (L - 1) (K 3) 3 = w (K 3) 3 := zz_pj (by decide)
      have s4 : fx_pt w (K 3) 6 (L - 1) (K 3) 4 = w (K 3) 4 := zz_pj (by decide)
      have s5 : fx_pt w (K 3) 6 (L - 1) (K 3) 5 = w (K 3) 5 := zz_pj (by decide)
      refine ⟨zp_ca.pl hK (by decide) hw, hz, fun j hj => ?_, ?_, ?_, ?_⟩
      · obtain ⟨b1, b2, b3⟩ := r7 j hj (by omega)
        obtain ⟨e1, e2, e3, e4⟩ := b2 (by omega) (by omega)
        rw [s6, s3, zz_pa k43, zz_pa k53]
        exact ⟨b1, e1, e2, fun h => e3 (by omega), fun h => e4 (by omega), b3⟩
      · rw [s3]
        refine ⟨r10, ?_⟩
        rcases r11 with h | ⟨j, j1, -, j3⟩
        · exact Or.inl h
        · exact Or.inr ⟨j, j1, by rw [zz_pa k53]; exact j3⟩
      · rw [s4, s5]
        exact (a1 c2 c3).2 (by omega)
      · rw [s6]
        omega
    · have go : kB_X12_paintsBare_39 (kL_X12_paintsBare_39 x1 x2 (J 0) (J 7) (J 8) n) x1 x2 (J 0) (J 7) (J 8) t z L H d0 d1 l0 l1 = kJ_X12_paintsBare_70 t x1 x2 (J 0) (J 7) (J 8) (kL_X12_paintsBare_39 x1 x2 (J 0) (J 7) (J 8) n) z L H d0 d1 l0 l1 := by
        unfold kB_X12_paintsBare_39
        by_cases c1 : H < L
        · by_cases c2 : d0 = -1
          · rw [if_pos c1, if_pos c2, if_neg (fun h => done ⟨c1, c2, h⟩)]
          · rw [if_pos c1, if_neg c2]
        · rw [if_neg c1]
      have T0 : Int.toNat 0 = 0 := rfl
      have T1 : Int.toNat 1 = 1 := rfl
      have hgo : L ≤ H ∨ d0 ≠ -1 ∨ d1 ≠ -1 := by
        by_cases c1 : H < L
        · by_cases c2 : d0 = -1
          · exact Or.inr (Or.inr (fun h => done ⟨c1, c2, h⟩))
          · exact Or.inr (Or.inl c2)
        · exact Or.inl (Int.not_lt.mp c1)
      rw [go]
      have P1 := zp_ph1 (rc := kL_X12_paintsBare_39 x1 x2 (J 0) (J 7) (J 8) n) hK hJ hqc hqr hb hpc hpr ht hw hz hS hR hf hgo
      obtain ⟨L1, d, l, g, w1, z1, s1, s2, s3, s4, s5, s6, s7, s8, s9, s10⟩ := P1
      rw [s1, s2]
      have P2 := zp_ph2 (rc := kL_X12_paintsBare_39 x1 x2 (J 0) (J 7) (J 8) n) hK hJ hqc hqr hb hpc hpr ht s3 s4 s5 s6 s7 s8
      obtain ⟨H1, d', l', g', w2, z2, p1, p2, p3, p4, p5, p6, p7, ⟨p8, p9⟩, p10, p11⟩ := P2
      rw [p1, p2]
      obtain ⟨e0, e1, k0, k1, z3, o1, o2, o3, o4, o5, o6, o7⟩ := zp_end hJ hqr hb hpr ht p5 p6 p7 p8 p9
      have fin : kJ_X12_paintsBare_92 (J 0) t (J 7) (J 8) (kL_X12_paintsBare_39 x1 x2 (J 0) (J 7) (J 8) n) z2 L1 H1 d d' l l' = kL_X12_paintsBare_39 x1 x2 (J 0) (J 7) (J 8) n (t + 1) z3 L1 H1 e0 e1 k0 k1 := by
        obtain ⟨⟨q1, q2⟩, ⟨q3, q4⟩, q5, q6⟩ := o4
        unfold kJ_X12_paintsBare_92
        simp only [fz_lt, fz_ls, o1, T0, T1, q1, q2, q3, q4, q5, q6]
      rw [fin]
      obtain ⟨z1', z2'⟩ := zp_ch s9 p10 o6
      obtain ⟨f1, f2, f3⟩ := zp_ar h1 t0 t1 t2 z1' (fun h => z2' (o7 (p11 (s10 (Int.le_trans hx1.2 h)))))
      exact ih (t + 1) L1 H1 e0 e1 k0 k1 g' w2 z3 f1 (Int.le_trans t0 (Int.le_add_one (Int.le_refl t))) f2 f3 p3 p4 o3 o4 o5
end Sim
