/-! SMOOTH in the reference -/
theorem zz_minR {u : fx_U} {a b : Int} : f_X12_min u a b = min a b := by
  unfold f_X12_min
  rw [Int.min_def]
  split <;> split <;> omega
theorem zz_maxR {u : fx_U} {a b : Int} : f_X12_max u a b = max a b := by
  unfold f_X12_max
  rw [Int.max_def]
  split <;> split <;> omega
theorem zz_sizeV {u : fx_U} {x : Int} (h : -50000 ≤ x ∧ x ≤ 50000) : f_X12_size u x = zz_ab x := (zz_absE (u := u) (v := u)).symm.trans (zz_abC h)
/-- the least so far -/
def zz_ms (f : Int → Int) (lo z best : Int) : Prop := (z = lo ∧ best = 1000000000) ∨ ((∃ y, lo ≤ y ∧ y < z ∧ best = f y) ∧ ∀ y, lo ≤ y → y < z → best ≤ f y)
theorem zz_ms.step {f : Int → Int} {lo z best : Int} (h : zz_ms f lo z best) (h1 : lo ≤ z) (h2 : f z ≤ 1000000000) : zz_ms f lo (z + 1) (min best (f z)) := by
  refine Or.inr ?_
  rcases h with ⟨e1, e2⟩ | ⟨⟨y, y1, y2, y3⟩, g⟩
  · refine ⟨⟨z, h1, by omega, by omega⟩, fun y q1 q2 => ?_⟩
    rw [show y = z by omega]
    omega
  · refine ⟨?_, fun q q1 q2 => ?_⟩
    · by_cases k : best ≤ f z
      · exact ⟨y, y1, by omega, by omega⟩
      · exact ⟨z, h1, by omega, by omega⟩
    · by_cases k : q = z
      · rw [k]
        omega
      · have := g q q1 (by omega)
        omega
theorem zz_ms.fin {f : Int → Int} {lo hi c best : Int} (h : zz_ms f lo (hi + 1) best) (h1 : lo ≤ c ∧ c ≤ hi) (h2 : ∀ y, lo ≤ y → y ≤ hi → f c ≤ f y) : best = f c := by
  rcases h with ⟨e1, -⟩ | ⟨⟨y, y1, y2, y3⟩, g⟩
  · omega
  · have a := g c h1.1 (by omega)
    have b := h2 y y1 (by omega)
    omega
def zz_sr (a2 bn bo : Nat) (kk : Nat → Int) (w : fx_U) : Prop := (w a2 0 = (bn : Int) ∧ w a2 30 = (bo : Int)) ∧ ∀ i : Nat, i < 64 → w bn i = kk i
section SmoothR
variable {a2 bn bo L : Nat} {kk : Nat → Int} {g : Int} {w : fx_U}
theorem zz_sr.pt {j : Nat} {x : Int} (h : zz_sr a2 bn bo kk w) (n1 : a2 ≠ bo) (n2 : bn ≠ bo) : zz_sr a2 bn bo kk (fx_pt w bo j x) := by
  obtain ⟨⟨h1, h2⟩, h3⟩ := h
  refine ⟨⟨?_, ?_⟩, fun i hi => ?_⟩
  · rw [zz_pa n1]; exact h1
  · rw [zz_pa n1]; exact h2
  · rw [zz_pa n2]; exact h3 i hi
theorem zz_offBy {i : Nat} {v : Int} (hs : zz_sr a2 bn bo kk w) (hk : ∀ i, -99 ≤ kk i ∧ kk i ≤ 99) (hg : 0 ≤ g) (hL : L ≤ 63) (hi : i ≤ L) (hv : -30 ≤ v ∧ v ≤ 30) (hT : w bo (61 * i + (v + 30).toNat) = zz_G (fun j => kk (L - j)) g (L - i) (v + 30)) : f_X12_offBy w a2 (i : Int) v = zz_F (fun j => kk (L - j)) g (L - i) (v + 30) := by
  have ki := hk i
  have hx : 0 ≤ v + 30 ∧ v + 30 ≤ 60 := ⟨by omega, by omega⟩
  have ab := zz_ab_b hx ki
  have gb := zz_G_b (K := fun j => kk (L - j)) (g := g) (fun j => hk (L - j)) hg (L - i) (v + 30) hx
  have e4 := zz_FG (K := fun j => kk (L - j)) (g := g) (L - i) (v + 30)
  simp only [show L - (L - i) = i by omega] at e4
  rw [show v + 30 - 30 - kk i = v - kk i by omega] at ab e4
  unfold f_X12_offBy
  simp only [fz_lt, fz_lr, hs.1.1, hs.1.2, Int.toNat_natCast, Int.zero_add]
  have e1 : w bn i = kk i := hs.2 i (by omega)
  have e2 : (61 * (i : Int) + v + 30).toNat = 61 * i + (v + 30).toNat := by omega
  have e3 : fx_b_add (zz_ab (v - kk i)) (zz_G (fun j => kk (L - j)) g (L - i) (v + 30)) = zz_ab (v - kk i) + zz_G (fun j => kk (L - j)) g (L - i) (v + 30) := zz_wadd (zz_sml ⟨by omega, by omega⟩) (zz_sml ⟨by omega, by omega⟩) (zz_sml ⟨by omega, by omega⟩)
  rw [e1, e2, hT, zz_sizeV ⟨by omega, by omega⟩, e3, e4]
/-- the best within reach -/
theorem zz_r76 {R : Int → fx_U → fx_U} {i : Nat} {p : Int} (hs : zz_sr a2 bn bo kk w) (hk : ∀ i, -99 ≤ kk i ∧ kk i ≤ 99) (hg : 0 ≤ g) (hL : L ≤ 63) (hi : i < L) (hp : -30 ≤ p ∧ p ≤ 30) (hT : ∀ y : Int, 0 ≤ y → y ≤ 60 → w bo (61 * (i + 1) + y.toNat) = zz_G (fun j => kk (L - j)) g (L - (i + 1)) y) :
    ∀ (f : Nat) (best z : Int), max (-30) (p - g) ≤ z → z ≤ min 30 (p + g) + 1 → (31 - z).toNat < f → zz_ms (fun y => zz_F (fun j => kk (L - j)) g (L - (i + 1)) (y + 30)) (max (-30) (p - g)) z best → kL_X12_laysSmooth_76 p g w (i : Int) bo R a2 f best z = R (p + 1) (fx_pt w bo (61 * i + (p + 30).toNat) (zz_G (fun j => kk (L - j)) g (L - i) (p + 30))) := by
  intro f
  induction f with
  | zero => intro best z _ _ h; omega
  | succ f ih =>
    intro best z h1 h2 hf hm
    have eK : kL_X12_laysSmooth_76 p g w (i : Int) bo R a2 (f + 1) best z = kB_X12_laysSmooth_76 (kL_X12_laysSmooth_76 p g w (i : Int) bo R a2 f) p g w (i : Int) bo R a2 best z := rfl
    rw [eK]
    unfold kB_X12_laysSmooth_76
    simp only [fz_lt, fz_ls, zz_minR]
    by_cases h : min 30 (p + g) < z
    · rw [if_pos h]
      have ez : z = min 30 (p + g) + 1 := by omega
      rw [ez] at hm
      have lw := zz_B_lw (K := fun j => kk (L - j)) (g := g) (L - (i + 1))
      have cb := zz_cl_b (x := p + 30) lw.1 hg ⟨by omega, by omega⟩
      have fin := hm.fin (c := zz_cl (zz_B (fun j => kk (L - j)) g (L - (i + 1))) (p + 30) g - 30) ⟨by omega, by omega⟩ (fun y y1 y2 => by
        have z := (zz_win (w := y + 30) (x := p + 30) (zz_F_cv (K := fun j => kk (L - j)) hg (L - (i + 1))) lw hg ⟨by omega, by omega⟩ ⟨⟨by omega, by omega⟩, by omega, by omega⟩).1
        show zz_F (fun j => kk (L - j)) g (L - (i + 1)) (zz_cl (zz_B (fun j => kk (L - j)) g (L - (i + 1))) (p + 30) g - 30 + 30) ≤ zz_F (fun j => kk (L - j)) g (L - (i + 1)) (y + 30)
        rw [show zz_cl (zz_B (fun j => kk (L - j)) g (L - (i + 1))) (p + 30) g - 30 + 30 = zz_cl (zz_B (fun j => kk (L - j)) g (L - (i + 1))) (p + 30) g by omega]
        exact z)
      have eg : zz_G (fun j => kk (L - j)) g (L - i) (p + 30) = best := by
        rw [fin]
        show _ = zz_F (fun j => kk (L - j)) g (L - (i + 1)) (zz_cl (zz_B (fun j => kk (L - j)) g (L - (i + 1))) (p + 30) g - 30 + 30)
        rw [show zz_cl (zz_B (fun j => kk (L - j)) g (L - (i + 1))) (p + 30) g - 30 + 30 = zz_cl (zz_B (fun j => kk (L - j)) g (L - (i + 1))) (p + 30) g by omega]
        obtain ⟨j, hj⟩ : ∃ j : Nat, L - i = j + 1 := ⟨L - i - 1, by omega⟩
        rw [hj, show L - (i + 1) = j by omega]
        rfl
      rw [eg, show (61 * (i : Int) + p + 30).toNat = 61 * i + (p + 30).toNat by omega]
    · rw [if_neg h]
      have ob := zz_offBy (i := i + 1) (v := z) hs hk hg hL (by omega) ⟨by omega, by omega⟩ (hT (z + 30) (by omega) (by omega))
      rw [show ((i + 1 : Nat) : Int) = (i : Int) + 1 by omega] at ob
      have fb := zz_F_b (K := fun j => kk (L - j)) (g := g) (fun j => hk (L - j)) hg (L - (i + 1)) (z + 30) ⟨by omega, by omega⟩
      rw [ob]
      exact ih _ (z + 1) (by omega) (by omega) (by omega) (hm.step (by omega) (by
        show zz_F (fun j => kk (L - j)) g (L - (i + 1)) (z + 30) ≤ 1000000000
        omega))
/-- one dot's row -/
theorem zz_r53 {R : Int → fx_U → fx_U} {i : Nat} (n1 : a2 ≠ bo) (n2 : bn ≠ bo) (hk : ∀ i, -99 ≤ kk i ∧ kk i ≤ 99) (hg : 0 ≤ g) (hL : L ≤ 63) (hi : i < L) :
    ∀ (f : Nat) (p : Int) (w : fx_U), -30 ≤ p → p ≤ 31 → (31 - p).toNat < f → zz_sr a2 bn bo kk w → (∀ q : Nat, i + 1 ≤ q → q ≤ L → ∀ y : Int, 0 ≤ y → y ≤ 60 → w bo (61 * q + y.toNat) = zz_G (fun j => kk (L - j)) g (L - q) y) → (∀ y : Int, 0 ≤ y → y < p + 30 → w bo (61 * i + y.toNat) = zz_G (fun j => kk (L - j)) g (L - i) y) →
    ∃ w2 : fx_U, kL_X12_laysSmooth_53 (i : Int) R g bo a2 f p w = R ((i : Int) + (-1)) w2 ∧ zz_sr a2 bn bo kk w2 ∧ ∀ q : Nat, i ≤ q → q ≤ L → ∀ y : Int, 0 ≤ y → y ≤ 60 → w2 bo (61 * q + y.toNat) = zz_G (fun j => kk (L - j)) g (L - q) y := by
  intro f
  induction f with
  | zero => intro p w _ _ h; omega
  | succ f ih =>
    intro p w h1 h2 hf hs hT hN
    have eK : kL_X12_laysSmooth_53 (i : Int) R g bo a2 (f + 1) p w = kB_X12_laysSmooth_53 (kL_X12_laysSmooth_53 (i : Int) R g bo a2 f) (i : Int) R g bo a2 p w := rfl
    rw [eK]
    unfold kB_X12_laysSmooth_53
    by_cases h : 30 < p
    · rw [if_pos h]
      simp only [fz_lt]
      refine ⟨w, rfl, hs, fun q q1 q2 y y1 y2 => ?_⟩
      by_cases e : q = i
      · rw [e]
        exact hN y y1 (by omega)
      · exact hT q (by omega) q2 y y1 y2
    · rw [if_neg h]
      simp only [fz_lt, zz_maxR]
      rw [zz_r76 (R := kL_X12_laysSmooth_53 (i : Int) R g bo a2 f) hs hk hg hL hi ⟨h1, by omega⟩ (hT (i + 1) (Nat.le_refl _) hi) _ 1000000000 (max (-30) (p - g)) (by omega) (by omega) (by omega) (Or.inl ⟨rfl, rfl⟩)]
      refine ih (p + 1) _ (by omega) (by omega) (by omega) (hs.pt n1 n2) (fun q q1 q2 y y1 y2 => ?_) (fun y y1 y2 => ?_)
      · rw [zz_pj (by omega)]
        exact hT q q1 q2 y y1 y2
      · by_cases e : y = p + 30
        · rw [e, zz_ps]
        · rw [zz_pj (by omega)]
          exact hN y y1 (by omega)
theorem zz_r45 (n1 : a2 ≠ bo) (n2 : bn ≠ bo) (hk : ∀ i, -99 ≤ kk i ∧ kk i ≤ 99) (hg : 0 ≤ g) (hL : L ≤ 63) :
    ∀ (t f : Nat) (w : fx_U), t ≤ L → t < f → zz_sr a2 bn bo kk w → (∀ q : Nat, t ≤ q → q ≤ L → ∀ y : Int, 0 ≤ y → y ≤ 60 → w bo (61 * q + y.toNat) = zz_G (fun j => kk (L - j)) g (L - q) y) →
    zz_sr a2 bn bo kk (kL_X12_laysSmooth_45 g bo a2 f ((t : Int) - 1) w) ∧ ∀ q : Nat, q ≤ L → ∀ y : Int, 0 ≤ y → y ≤ 60 → kL_X12_laysSmooth_45 g bo a2 f ((t : Int) - 1) w bo (61 * q + y.toNat) = zz_G (fun j => kk (L - j)) g (L - q) y := by
  intro t
  induction t with
  | zero =>
    intro f w _ hf hs hT
    obtain ⟨m, rfl⟩ : ∃ m : Nat, f = m + 1 := ⟨f - 1, by omega⟩
    have eK : kL_X12_laysSmooth_45 g bo a2 (m + 1) (((0 : Nat) : Int) - 1) w = kB_X12_laysSmooth_45 (kL_X12_laysSmooth_45 g bo a2 m) g bo a2 (((0 : Nat) : Int) - 1) w := rfl
    rw [eK]
    unfold kB_X12_laysSmooth_45
    rw [if_pos (by omega)]
    exact ⟨hs, fun q q1 => hT q (Nat.zero_le q) q1⟩
  | succ t ih =>
    intro f w ht hf hs hT
    obtain ⟨m, rfl⟩ : ∃ m : Nat, f = m + 1 := ⟨f - 1, by omega⟩
    rw [show ((t + 1 : Nat) : Int) - 1 = (t : Int) by omega]
    have eK : kL_X12_laysSmooth_45 g bo a2 (m + 1) (t : Int) w = kB_X12_laysSmooth_45 (kL_X12_laysSmooth_45 g bo a2 m) g bo a2 (t : Int) w := rfl
    rw [eK]
    unfold kB_X12_laysSmooth_45
    rw [if_neg (by omega), show Int.toNat (31 - (-30)) + 1 = 62 from rfl]
    obtain ⟨w1, g1, g2, g3⟩ := zz_r53 (R := kL_X12_laysSmooth_45 g bo a2 m) (i := t) n1 n2 hk hg hL (by omega) 62 (-30) w (by decide) (by decide) (by decide) hs hT (fun y y1 y2 => by omega)
    rw [g1, show (t : Int) + (-1) = (t : Int) - 1 by omega]
    exact ih m w1 (by omega) (by omega) g2 g3
theorem zz_r12 (n1 : a2 ≠ bo) (n2 : bn ≠ bo) (hk : ∀ i, -99 ≤ kk i ∧ kk i ≤ 99) (hg : 0 ≤ g) (hL : L ≤ 63) :
    ∀ (f : Nat) (p : Int) (w : fx_U), -30 ≤ p → p ≤ 31 → (31 - p).toNat < f → zz_sr a2 bn bo kk w → (∀ y : Int, 0 ≤ y → y < p + 30 → w bo (61 * L + y.toNat) = 0) →
    zz_sr a2 bn bo kk (kL_X12_laysSmooth_12 ((L : Int) + 1) g bo a2 f p w) ∧ ∀ q : Nat, q ≤ L → ∀ y : Int, 0 ≤ y → y ≤ 60 → kL_X12_laysSmooth_12 ((L : Int) + 1) g bo a2 f p w bo (61 * q + y.toNat) = zz_G (fun j => kk (L - j)) g (L - q) y := by
  intro f
  induction f with
  | zero => intro p w _ _ h; omega
  | succ f ih =>
    intro p w h1 h2 hf hs hN
    have eK : kL_X12_laysSmooth_12 ((L : Int) + 1) g bo a2 (f + 1) p w = kB_X12_laysSmooth_12 (kL_X12_laysSmooth_12 ((L : Int) + 1) g bo a2 f) ((L : Int) + 1) g bo a2 p w := rfl
    rw [eK]
    unfold kB_X12_laysSmooth_12
    by_cases h : 30 < p
    · rw [if_pos h]
      simp only [fz_lt]
      rw [show (L : Int) + 1 - 2 = (L : Int) - 1 by omega, show Int.toNat ((L : Int) - 1 - (-1)) + 1 = L + 1 by omega]
      refine zz_r45 n1 n2 hk hg hL L (L + 1) w (Nat.le_refl L) (by omega) hs (fun q q1 q2 y y1 y2 => ?_)
      have e : q = L := by omega
      rw [e, Nat.sub_self, hN y y1 (by omega)]
      rfl
    · rw [if_neg h]
      simp only [fz_lt, fz_ls]
      rw [show (61 * ((L : Int) + 1 - 1) + p + 30).toNat = 61 * L + (p + 30).toNat by omega]
      refine ih (p + 1) _ (by omega) (by omega) (by omega) (hs.pt n1 n2) (fun y y1 y2 => ?_)
      by_cases e : y = p + 30
      · rw [e, zz_ps]
      · rw [zz_pj (by omega)]
        exact hN y y1 (by omega)
/-- the least offset that goes on with what is left -/
theorem zz_s101 {R : Int → Int → Int → Int → Int × fx_U} {i : Nat} {X : Int} (hs : zz_sr a2 bn bo kk w) (hk : ∀ i, -99 ≤ kk i ∧ kk i ≤ 99) (hg : 0 ≤ g) (hL : L ≤ 63) (hi : i ≤ L) (hT : ∀ y : Int, 0 ≤ y → y ≤ 60 → w bo (61 * i + y.toNat) = zz_G (fun j => kk (L - j)) g (L - i) y) (hX : 0 ≤ X ∧ X ≤ 60) :
    ∀ (f : Nat) (p : Int), -30 ≤ p → p ≤ X - 30 → (X - 30 - p).toNat < f → (∀ y, p ≤ y → y < X - 30 → zz_F (fun j => kk (L - j)) g (L - i) (y + 30) ≠ zz_F (fun j => kk (L - j)) g (L - i) X) → kL_X12_smooth_101 w a2 (i : Int) (zz_F (fun j => kk (L - j)) g (L - i) X) bn g R f p = R (max (-30) (X - 30 - g)) (zz_G (fun j => kk (L - j)) g (L - i) X) (X - 30) ((i : Int) + 1) := by
  intro f
  induction f with
  | zero => intro p _ _ h; omega
  | succ f ih =>
    intro p h1 h2 hf hu
    have eK : kL_X12_smooth_101 w a2 (i : Int) (zz_F (fun j => kk (L - j)) g (L - i) X) bn g R (f + 1) p = kB_X12_smooth_101 (kL_X12_smooth_101 w a2 (i : Int) (zz_F (fun j => kk (L - j)) g (L - i) X) bn g R f) w a2 (i : Int) (zz_F (fun j => kk (L - j)) g (L - i) X) bn g R p := rfl
    rw [eK]
    unfold kB_X12_smooth_101
    have ob := zz_offBy (i := i) (v := p) hs hk hg hL hi ⟨h1, by omega⟩ (hT (p + 30) (by omega) (by omega))
    simp only [fz_lt]
    by_cases e : p = X - 30
    · have ki := hk i
      have e1 : w bn (0 + (i : Int)).toNat = kk i := by
        rw [show (0 + (i : Int)).toNat = i by omega]
        exact hs.2 i (by omega)
      have e4 := zz_FG (K := fun j => kk (L - j)) (g := g) (L - i) X
      simp only [show L - (L - i) = i by omega] at e4
      rw [show X - 30 - kk i = p - kk i by omega] at e4
      rw [if_pos (ob.trans (by rw [show p + 30 = X by omega])), e1, zz_sizeV ⟨by omega, by omega⟩, zz_maxR]
      rw [show zz_F (fun j => kk (L - j)) g (L - i) X - zz_ab (p - kk i) = zz_G (fun j => kk (L - j)) g (L - i) X by omega, e]
    · rw [if_neg (fun z => hu p (Int.le_refl p) (by omega) (ob.symm.trans z))]
      exact ih (p + 1) (by omega) (by omega) (by omega) (fun y y1 y2 => hu y (by omega) y2)
theorem zz_s92 {wh : Nat} (hs : zz_sr a2 bn bo kk w) (hk : ∀ i, -99 ≤ kk i ∧ kk i ≤ 99) (hg : 0 ≤ g) (hL : L ≤ 63) (hw : wh ≤ L) (hT : ∀ q : Nat, q ≤ L → ∀ y : Int, 0 ≤ y → y ≤ 60 → w bo (61 * q + y.toNat) = zz_G (fun j => kk (L - j)) g (L - q) y) :
    ∀ (f i : Nat) (low left prev : Int), i ≤ wh + 1 → wh + 1 - i < f → (0 < i → prev = zz_X (fun j => kk (L - j)) g L (i - 1) - 30) → (i ≤ wh → left = zz_F (fun j => kk (L - j)) g (L - i) (zz_X (fun j => kk (L - j)) g L i)) → (low = if i = 0 then -30 else max (-30) (zz_X (fun j => kk (L - j)) g L (i - 1) - 30 - g)) → kL_X12_smooth_92 (wh : Int) w a2 bn g f low left prev (i : Int) = (zz_X (fun j => kk (L - j)) g L wh - 30 + 100, w) := by
  intro f
  induction f with
  | zero => intro i low left prev _ h; omega
  | succ f ih =>
    intro i low left prev h1 hf hp hl hw2
    have eK : kL_X12_smooth_92 (wh : Int) w a2 bn g (f + 1) low left prev (i : Int) = kB_X12_smooth_92 (kL_X12_smooth_92 (wh : Int) w a2 bn g f) (wh : Int) w a2 bn g low left prev (i : Int) := rfl
    rw [eK]
    unfold kB_X12_smooth_92
    by_cases h : (wh : Int) < (i : Int)
    · rw [if_pos h]
      simp only [fz_lt]
      rw [hp (by omega), show i - 1 = wh by omega]
    · have xb := zz_X_b (K := fun j => kk (L - j)) (g := g) (l := L) hg i
      have lw := zz_B_lw (K := fun j => kk (L - j)) (g := g) (L - i)
      have lowb : -30 ≤ low ∧ low ≤ zz_X (fun j => kk (L - j)) g L i - 30 ∧ ∀ y, low ≤ y → y < zz_X (fun j => kk (L - j)) g L i - 30 → zz_F (fun j => kk (L - j)) g (L - i) (y + 30) ≠ zz_F (fun j => kk (L - j)) g (L - i) (zz_X (fun j => kk (L - j)) g L i) := by
        by_cases e : i = 0
        · rw [if_pos e] at hw2
          refine ⟨by omega, by omega, fun y y1 y2 => ?_⟩
          have ex : zz_X (fun j => kk (L - j)) g L i = zz_B (fun j => kk (L - j)) g (L - i) := by
            rw [e, Nat.sub_zero]
            rfl
          rw [ex] at y2 ⊢
          have := lw.2.2 (y + 30) (by omega) (by omega)
          omega
        · rw [if_neg e] at hw2
          have xp := zz_X_b (K := fun j => kk (L - j)) (g := g) (l := L) hg (i - 1)
          have ex : zz_X (fun j => kk (L - j)) g L i = zz_cl (zz_B (fun j => kk (L - j)) g (L - i)) (zz_X (fun j => kk (L - j)) g L (i - 1)) g := by
            obtain ⟨q, rfl⟩ : ∃ q : Nat, i = q + 1 := ⟨i - 1, by omega⟩
            rfl
          have cb := zz_cl_b lw.1 hg xp
          rw [← ex] at cb
          refine ⟨by omega, by omega, fun y y1 y2 => ?_⟩
          have z := (zz_win (w := y + 30) (zz_F_cv (K := fun j => kk (L - j)) hg (L - i)) lw hg xp ⟨⟨by omega, by omega⟩, by omega, by omega⟩).2
          rw [← ex] at z
          have := z (by omega)
          omega
      rw [if_neg h, hl (by omega), zz_s101 (R := kL_X12_smooth_92 (wh : Int) w a2 bn g f) hs hk hg hL (by omega) (hT i (by omega)) xb 61 low lowb.1 lowb.2.1 (by omega) lowb.2.2]
      have nx := ih (i + 1) (max (-30) (zz_X (fun j => kk (L - j)) g L i - 30 - g)) (zz_G (fun j => kk (L - j)) g (L - i) (zz_X (fun j => kk (L - j)) g L i)) (zz_X (fun j => kk (L - j)) g L i - 30) (by omega) (by omega) (fun _ => rfl) (fun q => by
        obtain ⟨j, hj⟩ : ∃ j : Nat, L - i = j + 1 := ⟨L - i - 1, by omega⟩
        have ex : zz_X (fun j => kk (L - j)) g L (i + 1) = zz_cl (zz_B (fun j => kk (L - j)) g (L - (i + 1))) (zz_X (fun j => kk (L - j)) g L i) g := rfl
        rw [ex, hj, show L - (i + 1) = j by omega]
        rfl) (by rw [if_neg (by omega)]; rfl)
      rw [show ((i + 1 : Nat) : Int) = (i : Int) + 1 by omega] at nx
      exact nx
/-- what the reference reckons -/
theorem zz_smR {x2 : Int} (n1 : a2 ≠ bo) (n2 : bn ≠ bo) (hk : ∀ i, -99 ≤ kk i ∧ kk i ≤ 99) (hg : 0 ≤ g) (hL : L ≤ 63) (hs : zz_sr a2 bn bo kk w) (hD : w bn 512 = (L : Int) + 1) (hx : x2 = 100 ∨ (0 ≤ x2 ∧ x2 ≤ (L : Int))) : (kJ_X12_smooth_26 w a2 g x2 bn).1 = if x2 = 100 then zz_F (fun j => kk (L - j)) g L (zz_B (fun j => kk (L - j)) g L) else zz_X (fun j => kk (L - j)) g L x2.toNat - 30 + 100 := by
  obtain ⟨W, hW⟩ : ∃ W : fx_U, W = f_X12_laysSmooth w a2 g := ⟨_, rfl⟩
  have t : zz_sr a2 bn bo kk W ∧ ∀ q : Nat, q ≤ L → ∀ y : Int, 0 ≤ y → y ≤ 60 → W bo (61 * q + y.toNat) = zz_G (fun j => kk (L - j)) g (L - q) y := by
    rw [hW]
    unfold f_X12_laysSmooth
    have e512 : w bn (Int.toNat 512) = (L : Int) + 1 := hD
    simp only [fz_lt, fz_lr, hs.1.1, hs.1.2, Int.toNat_natCast, e512]
    exact zz_r12 n1 n2 hk hg hL (Int.toNat (31 - (-30)) + 1) (-30) w (by decide) (by decide) (by decide) hs (fun y y1 y2 => by omega)
  obtain ⟨ts, tT⟩ := t
  have lw := zz_B_lw (K := fun j => kk (L - j)) (g := g) L
  have scan : ∀ (f : Nat) (best z : Int), -30 ≤ z → z ≤ 31 → (31 - z).toNat < f → zz_ms (fun y => zz_F (fun j => kk (L - j)) g L (y + 30)) (-30) z best → (kL_X12_smooth_46 x2 W a2 bn g f best z).1 = if x2 = 100 then zz_F (fun j => kk (L - j)) g L (zz_B (fun j => kk (L - j)) g L) else zz_X (fun j => kk (L - j)) g L x2.toNat - 30 + 100 := by
    intro f
    induction f with
    | zero => intro best z _ _ h; omega
    | succ f ih =>
      intro best z h1 h2 hf hm
      have eK : kL_X12_smooth_46 x2 W a2 bn g (f + 1) best z = kB_X12_smooth_46 (kL_X12_smooth_46 x2 W a2 bn g f) x2 W a2 bn g best z := rfl
      rw [eK]
      unfold kB_X12_smooth_46
      by_cases h : 30 < z
      · have ez : z = 30 + 1 := by omega
        rw [ez] at hm
        have lwb := lw.1
        have fin := hm.fin (c := zz_B (fun j => kk (L - j)) g L - 30) ⟨by omega, by omega⟩ (fun y y1 y2 => by
          show zz_F (fun j => kk (L - j)) g L (zz_B (fun j => kk (L - j)) g L - 30 + 30) ≤ zz_F (fun j => kk (L - j)) g L (y + 30)
          rw [show zz_B (fun j => kk (L - j)) g L - 30 + 30 = zz_B (fun j => kk (L - j)) g L by omega]
          exact lw.2.1 (y + 30) (by omega) (by omega))
        have fin2 : best = zz_F (fun j => kk (L - j)) g L (zz_B (fun j => kk (L - j)) g L) := by
          rw [fin]
          show zz_F (fun j => kk (L - j)) g L (zz_B (fun j => kk (L - j)) g L - 30 + 30) = _
          rw [show zz_B (fun j => kk (L - j)) g L - 30 + 30 = zz_B (fun j => kk (L - j)) g L by omega]
        rw [if_pos h]
        by_cases q : x2 = 100
        · rw [if_pos q, if_pos q]
          exact fin2
        · rw [if_neg q, if_neg q, show Int.toNat (64 - 0) + 1 = 65 from rfl]
          have r := zz_s92 (wh := x2.toNat) ts hk hg hL (by omega) tT 65 0 (-30) best 0 (by omega) (by omega) (fun z => absurd z (Nat.lt_irrefl 0)) (fun _ => by rw [fin2, Nat.sub_zero]; rfl) (by rw [if_pos rfl])
          rw [show ((x2.toNat : Nat) : Int) = x2 by omega, show ((0 : Nat) : Int) = 0 from rfl] at r
          rw [r]
      · have ob := zz_offBy (i := 0) (v := z) ts hk hg hL (Nat.zero_le L) ⟨h1, by omega⟩ (tT 0 (Nat.zero_le L) (z + 30) (by omega) (by omega))
        rw [show ((0 : Nat) : Int) = 0 from rfl, Nat.sub_zero] at ob
        have fb := zz_F_b (K := fun j => kk (L - j)) (g := g) (fun j => hk (L - j)) hg L (z + 30) ⟨by omega, by omega⟩
        rw [if_neg h]
        simp only [fz_lt, zz_minR, ob]
        exact ih _ (z + 1) (by omega) (by omega) (by omega) (hm.step h1 (by
          show zz_F (fun j => kk (L - j)) g L (z + 30) ≤ 1000000000
          omega))
  unfold kJ_X12_smooth_26
  simp only [fz_ls]
  rw [← hW]
  exact scan (Int.toNat (31 - (-30)) + 1) 1000000000 (-30) (by decide) (by decide) (by decide) (Or.inl ⟨rfl, rfl⟩)
end SmoothR
/-- smooth answers alike on both -/
theorem zz_smoothF {u v : fx_U} {a1 a2 fo A Bh C E br c0 bn bo : Nat} {x1 x2 D : Int} (ha : zz_sa fo A Bh C E br c0) (hf : u a1 10 = (fo : Int)) (hb : u a1 5 = (br : Int)) (h0 : u fo 0 = (A : Int)) (h1 : u fo 1 = (Bh : Int)) (h2 : u fo 2 = (C : Int)) (h4 : u fo 4 = (E : Int)) (hc : u br 1 = (c0 : Int)) (hD : u br 0 = D) (hDb : 8 ≤ D ∧ D ≤ 64) (hbn : v a2 0 = (bn : Int)) (hbo : v a2 30 = (bo : Int)) (hD2 : v bn 512 = D) (n1 : a2 ≠ bo) (n2 : bn ≠ bo) (hk : ∀ k : Nat, k < 64 → v bn k = u c0 k ∧ -99 ≤ u c0 k ∧ u c0 k ≤ 99) : (f_X11_smooth u a1 x1 x2).1 = (f_X12_smooth v a2 x1 x2).1 := by
  have e512 : Int.toNat 512 = 512 := rfl
  obtain ⟨kk, hkk⟩ : ∃ kk : Nat → Int, kk = fun i => if i < 64 then u c0 i else 0 := ⟨_, rfl⟩
  have k1 : ∀ i : Nat, i < 64 → u c0 i = kk i := fun i hi => by rw [hkk]; exact (if_pos hi).symm
  have k2 : ∀ i : Nat, i < 64 → v bn i = kk i := fun i hi => (hk i hi).1.trans (k1 i hi)
  have k3 : ∀ i, -99 ≤ kk i ∧ kk i ≤ 99 := fun i => by
    by_cases q : i < 64
    · rw [← k1 i q]
      exact (hk i q).2
    · rw [hkk]
      show -99 ≤ (if i < 64 then u c0 i else 0) ∧ (if i < 64 then u c0 i else 0) ≤ 99
      rw [if_neg q]
      decide
  obtain ⟨L, hL⟩ : ∃ L : Nat, D = (L : Int) + 1 := ⟨(D - 1).toNat, by omega⟩
  have both : 0 ≤ x1 → (x2 = 100 ∨ (0 ≤ x2 ∧ x2 ≤ (L : Int))) → (kJ_X11_smooth_29 u a1 x1 x2).1 = (kJ_X12_smooth_26 v a2 x1 x2 bn).1 := by
    intro hg hx
    rw [zz_smR (L := L) (kk := kk) n1 n2 k3 hg (by omega) ⟨⟨hbn, hbo⟩, k2⟩ (hD2.trans hL) hx]
    obtain ⟨w2, g1, g2, g3⟩ := zz_mkS (L := L) (kk := kk) (g := x1) (w := u) ha k3 hg (by omega) ⟨⟨h0, h1, h2, h4, hc⟩, k1⟩ (hD.trans hL)
    unfold kJ_X11_smooth_29
    simp only [fz_lt, fz_lr, fz_lc, hf, hb, Int.toNat_natCast, g1, g2]
    by_cases q : x2 = 100
    · rw [if_pos q, if_pos q]
    · have xb := zz_X_b (K := fun j => kk (L - j)) (g := x1) (l := L) hg x2.toNat
      rw [if_neg q, if_neg q, g3 x2.toNat (by omega)]
      exact zz_wadd (zz_sml ⟨by omega, by omega⟩) (zz_sml ⟨by omega, by omega⟩) (zz_sml ⟨by omega, by omega⟩)
  unfold f_X11_smooth f_X12_smooth f_X7_isDot f_X12_isDot
  simp only [fz_lt, fz_lr, hb, hbn, hbo, hD, hD2, e512, Int.toNat_natCast, zz_is, zz_is2]
  by_cases c1 : 0 ≤ x1 ∧ x1 ≤ 9
  · simp only [if_pos c1, if_neg zz_n10]
    by_cases c2 : x2 = 100
    · rw [if_pos c2, if_pos c2]
      exact both c1.1 (Or.inl c2)
    · rw [if_neg c2, if_neg c2]
      by_cases c3 : x2 < 0
      · simp only [if_pos c3, if_true]
      · by_cases c4 : x2 < D
        · simp only [if_neg c3, if_pos c4, if_neg zz_n10]
          exact both c1.1 (Or.inr ⟨by omega, by omega⟩)
        · simp only [if_neg c3, if_neg c4, if_true]
  · simp only [if_neg c1, if_true]
