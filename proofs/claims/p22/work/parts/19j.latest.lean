/-! THE LATEST MINUTE: both say alike -/
section Latest
variable {K J : Nat → Nat} {A B : Int → Int → Int → Int} {D m x by1 : Int} {u v w : fx_U} {a1 : Nat}
/-- how long all takes at least, and how it shifts with the minute -/
def zq_I (K : Nat → Nat) (D m L H : Int) (w : fx_U) : Prop := ((m ≤ w (K 6) 0 ∧ m ≤ w (K 6) 1) ∧ w (K 6) 0 + w (K 6) 1 ≥ 2 * m + (L + (D - 1 - H)) ∧ (w (K 6) 0 ≤ m + 9 * (L + (D - 1 - H)) ∧ w (K 6) 1 ≤ m + 9 * (L + (D - 1 - H)))) ∧ ((0 < L → w (K 6) 0 ≤ w (K 3) 3) ∧ (H < D - 1 → w (K 6) 1 ≤ w (K 3) 3) ∧ (L = 0 → w (K 6) 0 = m) ∧ (H = D - 1 → w (K 6) 1 = m)) ∧ (L = 0 ∧ H = D - 1 → w (K 3) 3 = 0) ∧ 0 ≤ w (K 3) 3
theorem zq_run (hK : zp_dis 7 K) (hq : zp_qc K A B D u) (hb : zp_bd A B D) (hp : zp_pc K u) (hD : 1 ≤ D ∧ D ≤ 64) (hm : 0 ≤ m ∧ m ≤ 600) : ∀ (f : Nat) (L H : Int) (w : fx_U), H - L + 1 < (f : Int) → (0 ≤ L ∧ L ≤ H + 1 ∧ H < D) → zp_ca K u w → zq_I K D m L H w → 2 * m + D ≤ 2 * (zp_cl K D f L H w) (K 3) 3 := by
  have k63 := hK 6 3 (by decide) (by decide) (by decide)
  intro f
  induction f with
  | zero => intro L H w h1 h2; omega
  | succ f ih =>
    intro L H w h1 h2 hw hI
    obtain ⟨⟨⟨i1, i2⟩, i3, i4, i5⟩, ⟨i6, i7, i8, i9⟩, i10, i11⟩ := hI
    by_cases c : L ≤ H
    · by_cases g : w (K 6) 1 < w (K 6) 0
      · obtain ⟨y, o1, o2, ⟨o3, o4⟩, -, -, o9, -, -⟩ := zp_one (i := H) (p := 1) (f := w (K 6) 1) hK hq hb hp hw ⟨by omega, h2.2.2⟩ (by decide) rfl ⟨by omega, by omega⟩
        obtain ⟨⟨b1, b2⟩, -⟩ := hb H (w (K 6) 1) 1 (by omega) h2.2.2 (by decide)
        obtain ⟨-, b3, -⟩ := hb H (w (K 6) 1 + A H (w (K 6) 1) 1) 1 (by omega) h2.2.2 (by decide)
        obtain ⟨a, ha⟩ : ∃ a : Int, a = A H (w (K 6) 1) 1 := ⟨_, rfl⟩
        rw [← ha] at o3 o9 b1 b2 b3
        obtain ⟨e, he⟩ : ∃ e : Int, e = B H (w (K 6) 1 + a) 1 := ⟨_, rfl⟩
        rw [← he] at o9 b3
        have p1 : Int.toNat 1 = 1 := rfl
        rw [p1] at o3 o4
        have q0 := o4 0 (by decide)
        have mx : w (K 6) 1 + a + e ≤ y (K 3) 3 ∧ w (K 3) 3 ≤ y (K 3) 3 := by
          rw [o9]
          by_cases c2 : w (K 3) 3 < w (K 6) 1 + a + e
          · rw [if_pos c2]
            omega
          · rw [if_neg c2]
            omega
        rw [zp_c1 c h2.2.2 g, o1]
        refine ih L (H - 1) y (by omega) ⟨by omega, by omega, by omega⟩ o2 ⟨⟨⟨by omega, by omega⟩, by omega, by omega, by omega⟩, ⟨fun q => ?_, fun _ => by omega, fun q => ?_, fun q => by omega⟩, fun q => by omega, by omega⟩
        · have := i6 q
          omega
        · have := i8 q
          omega
      · obtain ⟨y, o1, o2, ⟨o3, o4⟩, -, -, o9, -, -⟩ := zp_one (i := L) (p := 0) (f := w (K 6) 0) hK hq hb hp hw ⟨h2.1, by omega⟩ (by decide) rfl ⟨by omega, by omega⟩
        obtain ⟨⟨b1, b2⟩, -⟩ := hb L (w (K 6) 0) 0 h2.1 (by omega) (by decide)
        obtain ⟨-, b3, -⟩ := hb L (w (K 6) 0 + A L (w (K 6) 0) 0) 0 h2.1 (by omega) (by decide)
        obtain ⟨a, ha⟩ : ∃ a : Int, a = A L (w (K 6) 0) 0 := ⟨_, rfl⟩
        rw [← ha] at o3 o9 b1 b2 b3
        obtain ⟨e, he⟩ : ∃ e : Int, e = B L (w (K 6) 0 + a) 0 := ⟨_, rfl⟩
        rw [← he] at o9 b3
        have p0 : Int.toNat 0 = 0 := rfl
        rw [p0] at o3 o4
        have q1 := o4 1 (by decide)
        have mx : w (K 6) 0 + a + e ≤ y (K 3) 3 ∧ w (K 3) 3 ≤ y (K 3) 3 := by
          rw [o9]
          by_cases c2 : w (K 3) 3 < w (K 6) 0 + a + e
          · rw [if_pos c2]
            omega
          · rw [if_neg c2]
            omega
        rw [zp_c0 c h2.2.2 g, o1]
        refine ih (L + 1) H y (by omega) ⟨by omega, by omega, by omega⟩ o2 ⟨⟨⟨by omega, by omega⟩, by omega, by omega, by omega⟩, ⟨fun _ => by omega, fun q => ?_, fun q => by omega, fun q => ?_⟩, fun q => by omega, by omega⟩
        · have := i7 q
          omega
        · have := i9 q
          omega
    · have eL : L = H + 1 := by omega
      rw [zp_c2 eL]
      have s3 : fx_pt w (K 3) 6 (L - 1) (K 3) 3 = w (K 3) 3 := zz_pj (by decide)
      rw [s3]
      by_cases cL : L = 0
      · have q0 := i8 cL
        have q1 := i7 (by omega)
        omega
      · have q0 := i6 (by omega)
        by_cases cH : H = D - 1
        · have q1 := i9 cH
          omega
        · have q1 := i7 (by omega)
          omega
/-- two runs side by side, one some minutes later -/
theorem zq_sh (hK : zp_dis 7 K) (hq : zp_qc K A B D u) (hb : zp_bd A B D) (hp : zp_pc K u) (hD : 1 ≤ D ∧ D ≤ 64) (hm : 0 ≤ m ∧ m ≤ 600) (hA : ∀ i t p : Int, 0 ≤ i → i < D → A i t p = A i 0 p ∧ B i t p = B i 0 p) : ∀ (f : Nat) (L H : Int) (w z : fx_U), H - L + 1 < (f : Int) → (0 ≤ L ∧ L ≤ H + 1 ∧ H < D) → zp_ca K u w → zp_ca K u z → (0 ≤ w (K 6) 0 ∧ w (K 6) 0 ≤ 9 * (L + (D - 1 - H))) → (0 ≤ w (K 6) 1 ∧ w (K 6) 1 ≤ 9 * (L + (D - 1 - H))) → (z (K 6) 0 = w (K 6) 0 + m ∧ z (K 6) 1 = w (K 6) 1 + m) → ((L = 0 ∧ H = D - 1 ∧ w (K 3) 3 = 0 ∧ z (K 3) 3 = 0) ∨ ((0 < L ∨ H < D - 1) ∧ z (K 3) 3 = w (K 3) 3 + m)) → (zp_cl K D f L H z) (K 3) 3 = (zp_cl K D f L H w) (K 3) 3 + m := by
  intro f
  induction f with
  | zero => intro L H w z h1 h2; omega
  | succ f ih =>
    intro L H w z h1 h2 hw hz w0 w1 hs hd
    by_cases c : L ≤ H
    · by_cases g : w (K 6) 1 < w (K 6) 0
      · obtain ⟨y, o1, o2, ⟨o3, o4⟩, -, -, o9, -, -⟩ := zp_one (i := H) (p := 1) (f := w (K 6) 1) hK hq hb hp hw ⟨by omega, h2.2.2⟩ (by decide) rfl ⟨w1.1, by omega⟩
        obtain ⟨y', p1, p2, ⟨p3, p4⟩, -, -, p9, -, -⟩ := zp_one (i := H) (p := 1) (f := z (K 6) 1) hK hq hb hp hz ⟨by omega, h2.2.2⟩ (by decide) rfl ⟨by omega, by omega⟩
        obtain ⟨⟨b1, b2⟩, -⟩ := hb H 0 1 (by omega) h2.2.2 (by decide)
        obtain ⟨-, b3, b4⟩ := hb H 0 1 (by omega) h2.2.2 (by decide)
        rw [(hA H _ 1 (by omega) h2.2.2).1, (hA H _ 1 (by omega) h2.2.2).2] at o9 p9
        rw [(hA H _ 1 (by omega) h2.2.2).1] at o3 p3
        obtain ⟨a, ha⟩ : ∃ a : Int, a = A H 0 1 := ⟨_, rfl⟩
        obtain ⟨e, he⟩ : ∃ e : Int, e = B H 0 1 := ⟨_, rfl⟩
        rw [← ha] at o3 o9 p3 p9 b1 b2
        rw [← he] at o9 p9 b3 b4
        have t1 : Int.toNat 1 = 1 := rfl
        rw [t1] at o3 o4 p3 p4
        have q0 := o4 0 (by decide)
        have q1 := p4 0 (by decide)
        have sh : y' (K 3) 3 = y (K 3) 3 + m := by
          rw [o9, p9]
          rcases hd with ⟨-, -, d3, d4⟩ | ⟨-, d3⟩
          · rw [d3, d4, if_pos (by omega), if_pos (by omega)]
            omega
          · rw [d3]
            by_cases c2 : w (K 3) 3 < w (K 6) 1 + a + e
            · rw [if_pos c2, if_pos (by omega)]
              omega
            · rw [if_neg c2, if_neg (by omega)]
        rw [zp_c1 c h2.2.2 g, o1, zp_c1 c h2.2.2 (show z (K 6) 1 < z (K 6) 0 by omega), p1]
        exact ih L (H - 1) y y' (by omega) ⟨by omega, by omega, by omega⟩ o2 p2 ⟨by omega, by omega⟩ ⟨by omega, by omega⟩ ⟨by omega, by omega⟩ (Or.inr ⟨Or.inr (by omega), sh⟩)
      · obtain ⟨y, o1, o2, ⟨o3, o4⟩, -, -, o9, -, -⟩ := zp_one (i := L) (p := 0) (f := w (K 6) 0) hK hq hb hp hw ⟨h2.1, by omega⟩ (by decide) rfl ⟨w0.1, by omega⟩
        obtain ⟨y', p1, p2, ⟨p3, p4⟩, -, -, p9, -, -⟩ := zp_one (i := L) (p := 0) (f := z (K 6) 0) hK hq hb hp hz ⟨h2.1, by omega⟩ (by decide) rfl ⟨by omega, by omega⟩
        obtain ⟨⟨b1, b2⟩, b3, b4⟩ := hb L 0 0 h2.1 (by omega) (by decide)
        rw [(hA L _ 0 h2.1 (by omega)).1, (hA L _ 0 h2.1 (by omega)).2] at o9 p9
        rw [(hA L _ 0 h2.1 (by omega)).1] at o3 p3
        obtain ⟨a, ha⟩ : ∃ a : Int, a = A L 0 0 := ⟨_, rfl⟩
        obtain ⟨e, he⟩ : ∃ e : Int, e = B L 0 0 := ⟨_, rfl⟩
        rw [← ha] at o3 o9 p3 p9 b1 b2
        rw [← he] at o9 p9 b3 b4
        have t0 : Int.toNat 0 = 0 := rfl
        rw [t0] at o3 o4 p3 p4
        have q0 := o4 1 (by decide)
        have q1 := p4 1 (by decide)
        have sh : y' (K 3) 3 = y (K 3) 3 + m := by
          rw [o9, p9]
          rcases hd with ⟨-, -, d3, d4⟩ | ⟨-, d3⟩
          · rw [d3, d4, if_pos (by omega), if_pos (by omega)]
            omega
          · rw [d3]
            by_cases c2 : w (K 3) 3 < w (K 6) 0 + a + e
            · rw [if_pos c2, if_pos (by omega)]
              omega
            · rw [if_neg c2, if_neg (by omega)]
        rw [zp_c0 c h2.2.2 g, o1, zp_c0 c h2.2.2 (show ¬ z (K 6) 1 < z (K 6) 0 by omega), p1]
        exact ih (L + 1) H y y' (by omega) ⟨by omega, by omega, by omega⟩ o2 p2 ⟨by omega, by omega⟩ ⟨by omega, by omega⟩ ⟨by omega, by omega⟩ (Or.inr ⟨Or.inl (by omega), sh⟩)
    · have eL : L = H + 1 := by omega
      rw [zp_c2 eL, zp_c2 eL]
      have s3 : fx_pt w (K 3) 6 (L - 1) (K 3) 3 = w (K 3) 3 := zz_pj (by decide)
      have s4 : fx_pt z (K 3) 6 (L - 1) (K 3) 3 = z (K 3) 3 := zz_pj (by decide)
      rw [s3, s4]
      rcases hd with ⟨d1, d2, -⟩ | ⟨-, d3⟩
      · omega
      · exact d3
/-- the run as it begins -/
theorem zq_p0 (hK : zp_dis 7 K) (hpc : zp_pc K u) (hD : 1 ≤ D ∧ D ≤ 64) (hu : u (K 2) 0 = D) : ∃ w : fx_U, f_X6_paint u (K 3) (K 2) (K 0) m m = zp_cl K D 65 0 (D - 1) w ∧ zp_ca K u w ∧ w (K 6) 0 = m ∧ w (K 6) 1 = m ∧ w (K 3) 3 = 0 := by
  have T0 : Int.toNat 0 = 0 := rfl
  have T1 : Int.toNat 1 = 1 := rfl
  have k63 := hK 6 3 (by decide) (by decide) (by decide)
  have k23 := hK 2 3 (by decide) (by decide) (by decide)
  have k26 := hK 2 6 (by decide) (by decide) (by decide)
  obtain ⟨w, hw⟩ : ∃ w : fx_U, w = fx_pt (fx_pt (fx_pt (fx_pt u (K 6) 0 m) (K 6) 1 m) (K 3) 3 0) (K 3) 4 0 := ⟨_, rfl⟩
  have w20 : w (K 2) 0 = D := by
    rw [hw]
    exact (zz_pa k23).trans ((zz_pa k23).trans ((zz_pa k26).trans ((zz_pa k26).trans hu)))
  refine ⟨w, ?_, ?_, ?_, ?_, ?_⟩
  · unfold f_X6_paint zp_cl
    simp only [fz_lt, fz_lr, fz_ls, hpc.2.2, Int.toNat_natCast, T0, T1, ← hw, w20, show Int.toNat (64 - 0) + 1 = 65 from rfl]
    rw [show (0 : Int) + (D - 1 - (D - 1)) = 0 by omega]
  · rw [hw]
    exact zp_ca.pl hK (by decide) (zp_ca.pl hK (by decide) (zp_ca.rw hK (by decide) (zp_ca.rw hK (by decide) zp_ca.rf)))
  · rw [hw]
    exact (zz_pa k63).trans ((zz_pa k63).trans ((zz_pj (by decide)).trans zz_ps))
  · rw [hw]
    exact (zz_pa k63).trans ((zz_pa k63).trans zz_ps)
  · rw [hw]
    exact (zz_pj (by decide)).trans zz_ps
/-- from a minute on, down to one that does -/
def zq_L (dd : Int → Int) (b : Int) : Nat → Int → Int
  | 0, _ => 0
  | f + 1, m => if m < 0 then -2 else if b < dd m then zq_L dd b f (m - 1) else m
theorem zq_Lf {dd : Int → Int} {b : Int} : ∀ (f g : Nat) (m : Int), m + 1 < (f : Int) → m + 1 < (g : Int) → 0 < f → 0 < g → zq_L dd b f m = zq_L dd b g m := by
  intro f
  induction f with
  | zero => intro g m _ _ h; omega
  | succ f ih =>
    intro g m h1 h2 _ h4
    obtain ⟨g, rfl⟩ : ∃ q : Nat, g = q + 1 := ⟨g - 1, by omega⟩
    unfold zq_L
    by_cases c : m < 0
    · rw [if_pos c, if_pos c]
    · rw [if_neg c, if_neg c]
      by_cases c2 : b < dd m
      · rw [if_pos c2, if_pos c2]
        exact ih g (m - 1) (by omega) (by omega) (by omega) (by omega)
      · rw [if_neg c2, if_neg c2]
theorem zq_Ls {dd : Int → Int} {b m0 : Int} (h : ∀ m : Int, 0 ≤ m → m0 < m → m ≤ b → b < dd m) : ∀ (k f : Nat) (m : Int), m + 1 < (f : Int) → 0 < f → m ≤ b → m = m0 + (k : Int) → -1 ≤ m → zq_L dd b f m = if m0 < 0 then -2 else zq_L dd b f m0 := by
  intro k
  induction k with
  | zero =>
    intro f m h1 hf h2 h3 hm
    have e : m = m0 := by omega
    rw [e]
    by_cases c : m0 < 0
    · rw [if_pos c]
      obtain ⟨g, rfl⟩ : ∃ q : Nat, f = q + 1 := ⟨f - 1, by omega⟩
      unfold zq_L
      rw [if_pos c]
    · rw [if_neg c]
  | succ k ih =>
    intro f m h1 hf h2 h3 hm
    obtain ⟨g, rfl⟩ : ∃ q : Nat, f = q + 1 := ⟨f - 1, by omega⟩
    by_cases c : m < 0
    · have e : zq_L dd b (g + 1) m = -2 := by
        unfold zq_L
        rw [if_pos c]
      rw [e, if_pos (by omega)]
    · have e : zq_L dd b (g + 1) m = zq_L dd b g (m - 1) := by
        show (if m < 0 then -2 else if b < dd m then zq_L dd b g (m - 1) else m) = _
        rw [if_neg c, if_pos (h m (by omega) (by omega) h2)]
      rw [e, ih g (m - 1) (by omega) (by omega) (by omega) (by omega) (by omega)]
      by_cases c2 : m0 < 0
      · rw [if_pos c2, if_pos c2]
      · rw [if_neg c2, if_neg c2]
        exact zq_Lf g (g + 1) m0 (by omega) (by omega) (by omega) (by omega)
end Latest
