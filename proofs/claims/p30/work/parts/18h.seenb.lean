/-! HOW FAR ONE SEES, both ways of looking (draft: not built yet) -/
/-- the dot just ahead hides, or none does -/
theorem zz_see {far : Nat} {r : Nat → Int} (hN : ∀ j : Nat, 2 ≤ j → j < far → r (j - 1) * (j : Int) ≤ r j * ((j : Int) - 1)) (hL : ¬ (1 < far ∧ r far * ((far : Int) - 1) < r (far - 1) * (far : Int))) :
    ∀ k : Nat, 1 ≤ k → k < far → r k * (far : Int) ≤ r far * (k : Int) := by
  apply zz_slope
  intro j h1 h2
  by_cases e : j < far
  · exact hN j h1 e
  · have e2 : j = far := by omega
    subst e2
    by_cases c : r j * ((j : Int) - 1) < r (j - 1) * (j : Int)
    · exact absurd ⟨by omega, c⟩ hL
    · omega
/-- the reference's look at one dot, said of r -/
theorem zz_hide {far : Nat} {fr to st base : Int} {v : fx_U} {bn : Nat} {r : Nat → Int} (hf : 1 ≤ far ∧ far ≤ 64) (hfr : -200 ≤ fr ∧ fr ≤ 200) (hto : -200 ≤ to ∧ to ≤ 200) (hr : to - fr = r far)
    (hh : ∀ k : Nat, 1 ≤ k → k < far → v bn (base + st * (k : Int)).toNat = r k + fr ∧ -200 ≤ r k + fr ∧ r k + fr ≤ 200)
    (hN : ∀ j : Nat, 2 ≤ j → j < far → r (j - 1) * (j : Int) ≤ r j * ((j : Int) - 1)) :
    kL_X12_isHidden_32 (far : Int) fr to st base v bn 64 1 = if 1 < far ∧ r far * ((far : Int) - 1) < r (far - 1) * (far : Int) then 1 else 0 := by
  have key := zz_hid (far := (far : Int)) (fr := fr) (to := to) (st := st) (base := base) (v := v) (bn := bn) (h := fun k => r k.toNat + fr) ⟨by omega, by omega⟩ hfr hto (fun k h1 h2 => by
    have z := hh k.toNat (by omega) (by omega)
    rw [show ((k.toNat : Nat) : Int) = k by omega] at z
    exact z) 64 1 (by decide) (by decide)
  rw [hr] at key
  by_cases c : 1 < far ∧ r far * ((far : Int) - 1) < r (far - 1) * (far : Int)
  · rw [if_pos c]
    rcases key with ⟨z, _⟩ | ⟨_, z⟩
    · exact z
    · have w := z ((far : Int) - 1) (by omega) (by omega)
      have e : ((far : Int) - 1).toNat = far - 1 := by omega
      simp only [e, Int.add_sub_cancel] at w
      omega
  · rw [if_neg c]
    rcases key with ⟨_, j, j1, j2, j3⟩ | ⟨z, _⟩
    · have w := zz_see hN c j.toNat (by omega) (by omega)
      simp only [Int.add_sub_cancel] at j3
      rw [show ((j.toNat : Nat) : Int) = j by omega] at w
      omega
    · exact z
section Seenc0
variable {u v : fx_U} {a0 a2 b12 bn : Nat} {x1 x3 D : Int}
theorem zz_seenc0 (hD : u a0 0 = D) (hDb : 8 ≤ D ∧ D ≤ 64) (hx1 : 0 ≤ x1 ∧ x1 < D) (hx3 : 1 ≤ x3 ∧ x3 ≤ 9) (hbn : v a2 0 = (bn : Int)) (hD2 : v bn 512 = D)
    (hh : ∀ k : Nat, k < 64 → v bn (64 + k) = u b12 k ∧ -99 ≤ u b12 k ∧ u b12 k ≤ 99) :
    ∀ (n m far : Nat), 1 ≤ far → far ≤ 64 → 64 - far < n → 64 - far < m →
      (∀ j : Nat, 2 ≤ j → j < far → (u b12 (x1 + 1 * ((j - 1 : Nat) : Int)).toNat - (u b12 x1.toNat + x3)) * (j : Int) ≤ (u b12 (x1 + 1 * (j : Int)).toNat - (u b12 x1.toNat + x3)) * ((j : Int) - 1)) →
      kL_X9_dotsAhead_c0_27 x1 u a0 b12 (u b12 x1.toNat + x3) n ((far : Int) - 1) (far : Int) = kL_X12_seenFrom_3 v a2 x1 0 x3 m ((far : Int) - 1) := by
  intro n
  induction n with
  | zero => intro m far _ _ h; omega
  | succ n ih =>
    intro m far h1 h64 hn hm hN
    cases m with
    | zero => omega
    | succ m =>
      obtain ⟨r, hr⟩ : ∃ r : Nat → Int, r = fun (j : Nat) => u b12 (x1 + 1 * (j : Int)).toNat - (u b12 x1.toNat + x3) := ⟨_, rfl⟩
      have hrj : ∀ j : Nat, u b12 (x1 + 1 * (j : Int)).toNat - (u b12 x1.toNat + x3) = r j := fun j => by rw [hr]
      have hN' : ∀ j : Nat, 2 ≤ j → j < far → r (j - 1) * (j : Int) ≤ r j * ((j : Int) - 1) := fun j q1 q2 => by
        have z := hN j q1 q2
        rw [hrj, hrj] at z
        exact z
      have eL : kL_X9_dotsAhead_c0_27 x1 u a0 b12 (u b12 x1.toNat + x3) (n + 1) ((far : Int) - 1) (far : Int) = kB_X9_dotsAhead_c0_27 (kL_X9_dotsAhead_c0_27 x1 u a0 b12 (u b12 x1.toNat + x3) n) x1 u a0 b12 (u b12 x1.toNat + x3) ((far : Int) - 1) (far : Int) := rfl
      have eR : kL_X12_seenFrom_3 v a2 x1 0 x3 (m + 1) ((far : Int) - 1) = kB_X12_seenFrom_3 (kL_X12_seenFrom_3 v a2 x1 0 x3 m) v a2 x1 0 x3 ((far : Int) - 1) := rfl
      have e512 : Int.toNat 512 = 512 := rfl
      have ah : f_X12_ahead v a2 x1 0 = D - 1 - x1 := by
        unfold f_X12_ahead
        simp only [fz_lt, fz_lr, hbn, Int.toNat_natCast, e512, hD2, if_true]
      have f0 := hh x1.toNat (by omega)
      rw [eL, eR]
      unfold kB_X9_dotsAhead_c0_27 kB_X12_seenFrom_3
      simp only [fz_lt, ah, if_true, if_neg zz_n10]
      by_cases g : x1 + (far : Int) < D
      · -- there is such a dot
        have gf : far < 64 := by omega
        have id1 : f_X7_isDot u a0 (x1 + 1 * (far : Int)) = 1 := by
          unfold f_X7_isDot
          simp only [fz_lt, hD]
          rw [if_neg (by omega), if_pos (by omega)]
        have fF := hh (x1 + 1 * (far : Int)).toNat (by omega)
        have eto : v bn (64 + x1 + 1 * (far : Int)).toNat = u b12 (x1 + 1 * (far : Int)).toNat := by
          rw [show (64 + x1 + 1 * (far : Int)).toNat = 64 + (x1 + 1 * (far : Int)).toNat by omega]
          exact fF.1
        have efr : v bn (64 + x1).toNat = u b12 x1.toNat := by
          rw [show (64 + x1).toNat = 64 + x1.toNat by omega]
          exact f0.1
        have b0 : fx_b_add (u b12 x1.toNat) x3 = u b12 x1.toNat + x3 := zz_wadd (zz_sml ⟨by omega, by omega⟩) (zz_sml ⟨by omega, by omega⟩) (zz_sml ⟨by omega, by omega⟩)
        have hid : f_X12_isHidden v a2 x1 1 (far : Int) x3 = if 1 < far ∧ r far * ((far : Int) - 1) < r (far - 1) * (far : Int) then 1 else 0 := by
          unfold f_X12_isHidden
          simp only [fz_lt, fz_lr, hbn, Int.toNat_natCast, efr, b0, eto]
          rw [show Int.toNat (64 - 1) + 1 = 64 from rfl]
          exact zz_hide ⟨h1, h64⟩ ⟨by omega, by omega⟩ ⟨by omega, by omega⟩ (hrj far) (fun k k1 k2 => by
            have fk := hh (x1 + 1 * (k : Int)).toNat (by omega)
            have rk := hrj k
            rw [show (64 + x1 + 1 * (k : Int)).toNat = 64 + (x1 + 1 * (k : Int)).toNat by omega]
            exact ⟨by omega, by omega, by omega⟩) hN'
        have go : ¬ (1 < far ∧ r far * ((far : Int) - 1) < r (far - 1) * (far : Int)) → kL_X9_dotsAhead_c0_27 x1 u a0 b12 (u b12 x1.toNat + x3) n (far : Int) ((far : Int) + 1) = kL_X12_seenFrom_3 v a2 x1 0 x3 m (far : Int) := by
          intro hL
          have z := ih m (far + 1) (by omega) (by omega) (by omega) (by omega) (fun j q1 q2 => by
            rw [hrj, hrj]
            by_cases e : j < far
            · exact hN' j q1 e
            · have e2 : j = far := by omega
              subst e2
              by_cases c : r j * ((j : Int) - 1) < r (j - 1) * (j : Int)
              · exact absurd ⟨by omega, c⟩ hL
              · omega)
          rw [show (((far + 1 : Nat) : Int) - 1) = (far : Int) by omega, show ((far + 1 : Nat) : Int) = (far : Int) + 1 by omega] at z
          exact z
        have s1 : fx_b_add ((far : Int) - 1) 1 = (far : Int) := by
          rw [zz_wadd (zz_sml ⟨by omega, by omega⟩) (zz_sml ⟨by omega, by omega⟩) (zz_sml ⟨by omega, by omega⟩)]
          omega
        have n1 : fx_b_sub (u b12 (x1 + 1 * (far : Int)).toNat) (u b12 x1.toNat + x3) = r far := by
          rw [zz_wsub (zz_sml ⟨by omega, by omega⟩) (zz_sml ⟨by omega, by omega⟩) (zz_sml ⟨by omega, by omega⟩)]
          exact hrj far
        have rf := hrj far
        rw [if_pos (show (far : Int) < 64 by omega), if_pos (show (far : Int) - 1 < D - 1 - x1 by omega)]
        simp only [id1, n1, if_neg zz_n10]
        unfold kJ_X12_seenFrom_25
        simp only [fz_lt, show (far : Int) - 1 + 1 = (far : Int) by omega]
        by_cases c1 : far = 1
        · have c2 : (far : Int) = 1 := by omega
          have nL : ¬ (1 < far ∧ r far * ((far : Int) - 1) < r (far - 1) * (far : Int)) := fun w => by omega
          have h0 := hid
          rw [if_neg nL] at h0
          simp only [h0, if_true]
          rw [if_pos c2]
          unfold kJ_X9_dotsAhead_c0_92
          rw [if_neg (by omega)]
          unfold kJ_X9_dotsAhead_c0_118
          simp only [fz_lt, s1]
          exact go nL
        · have c2 : ¬ (far : Int) = 1 := by omega
          have c3 : (1 : Int) < (far : Int) := by omega
          have ej : (far : Int) - 1 = ((far - 1 : Nat) : Int) := by omega
          have fG := hh (x1 + 1 * ((far - 1 : Nat) : Int)).toNat (by omega)
          have rg := hrj (far - 1)
          have n2 : fx_b_sub (u b12 (x1 + 1 * ((far : Int) - 1)).toNat) (u b12 x1.toNat + x3) = r (far - 1) := by
            rw [ej, zz_wsub (zz_sml ⟨by omega, by omega⟩) (zz_sml ⟨by omega, by omega⟩) (zz_sml ⟨by omega, by omega⟩)]
            exact rg
          rw [if_neg c2]
          unfold kJ_X9_dotsAhead_c0_92
          rw [if_pos c3]
          have m1 := q_mulB (x := r far) (y := (far : Int) - 1) (a := -400) (b := 400) (c := 0) (d := 64) (lo := -25600) (hi := 25600) ⟨by omega, by omega⟩ ⟨by omega, by omega⟩ (by decide)
          have m2 := q_mulB (x := r (far - 1)) (y := (far : Int)) (a := -400) (b := 400) (c := 0) (d := 64) (lo := -25600) (hi := 25600) ⟨by omega, by omega⟩ ⟨by omega, by omega⟩ (by decide)
          have n3 : fx_b_mul (r far) ((far : Int) - 1) = r far * ((far : Int) - 1) := zz_wmul (zz_sml ⟨by omega, by omega⟩) (zz_sml ⟨by omega, by omega⟩) (zz_sml ⟨by omega, by omega⟩)
          have n4 : fx_b_mul (r (far - 1)) (far : Int) = r (far - 1) * (far : Int) := zz_wmul (zz_sml ⟨by omega, by omega⟩) (zz_sml ⟨by omega, by omega⟩) (zz_sml ⟨by omega, by omega⟩)
          simp only [fz_lt, n2, n3, n4]
          by_cases c : r far * ((far : Int) - 1) < r (far - 1) * (far : Int)
          · have h0 := hid
            rw [if_pos (show 1 < far ∧ r far * ((far : Int) - 1) < r (far - 1) * (far : Int) from ⟨by omega, c⟩)] at h0
            simp only [h0, if_neg zz_n10]
            rw [if_pos c]
          · have nL : ¬ (1 < far ∧ r far * ((far : Int) - 1) < r (far - 1) * (far : Int)) := fun w => c w.2
            have h0 := hid
            rw [if_neg nL] at h0
            simp only [h0, if_true]
            rw [if_neg c]
            unfold kJ_X9_dotsAhead_c0_118
            simp only [fz_lt, s1]
            exact go nL
      · have e2 : ¬ (far : Int) - 1 < D - 1 - x1 := by omega
        rw [if_neg e2]
        by_cases g64 : (far : Int) < 64
        · have id0 : f_X7_isDot u a0 (x1 + 1 * (far : Int)) = 0 := by
            unfold f_X7_isDot
            simp only [fz_lt, hD]
            rw [if_neg (by omega), if_neg (by omega)]
          rw [if_pos g64]
          simp only [id0, if_true]
        · rw [if_neg g64]
end Seenc0
section Seenc1
variable {u v : fx_U} {a0 a2 b12 bn : Nat} {x1 x3 D : Int}
theorem zz_seenc1 (hD : u a0 0 = D) (hDb : 8 ≤ D ∧ D ≤ 64) (hx1 : 0 ≤ x1 ∧ x1 < D) (hx3 : 1 ≤ x3 ∧ x3 ≤ 9) (hbn : v a2 0 = (bn : Int)) (hD2 : v bn 512 = D)
    (hh : ∀ k : Nat, k < 64 → v bn (64 + k) = u b12 k ∧ -99 ≤ u b12 k ∧ u b12 k ≤ 99) :
    ∀ (n m far : Nat), 1 ≤ far → far ≤ 64 → 64 - far < n → 64 - far < m →
      (∀ j : Nat, 2 ≤ j → j < far → (u b12 (x1 + (-1) * ((j - 1 : Nat) : Int)).toNat - (u b12 x1.toNat + x3)) * (j : Int) ≤ (u b12 (x1 + (-1) * (j : Int)).toNat - (u b12 x1.toNat + x3)) * ((j : Int) - 1)) →
      kL_X9_dotsAhead_c1_27 x1 u a0 b12 (u b12 x1.toNat + x3) n ((far : Int) - 1) (far : Int) = kL_X12_seenFrom_3 v a2 x1 1 x3 m ((far : Int) - 1) := by
  intro n
  induction n with
  | zero => intro m far _ _ h; omega
  | succ n ih =>
    intro m far h1 h64 hn hm hN
    cases m with
    | zero => omega
    | succ m =>
      obtain ⟨r, hr⟩ : ∃ r : Nat → Int, r = fun (j : Nat) => u b12 (x1 + (-1) * (j : Int)).toNat - (u b12 x1.toNat + x3) := ⟨_, rfl⟩
      have hrj : ∀ j : Nat, u b12 (x1 + (-1) * (j : Int)).toNat - (u b12 x1.toNat + x3) = r j := fun j => by rw [hr]
      have hN' : ∀ j : Nat, 2 ≤ j → j < far → r (j - 1) * (j : Int) ≤ r j * ((j : Int) - 1) := fun j q1 q2 => by
        have z := hN j q1 q2
        rw [hrj, hrj] at z
        exact z
      have eL : kL_X9_dotsAhead_c1_27 x1 u a0 b12 (u b12 x1.toNat + x3) (n + 1) ((far : Int) - 1) (far : Int) = kB_X9_dotsAhead_c1_27 (kL_X9_dotsAhead_c1_27 x1 u a0 b12 (u b12 x1.toNat + x3) n) x1 u a0 b12 (u b12 x1.toNat + x3) ((far : Int) - 1) (far : Int) := rfl
      have eR : kL_X12_seenFrom_3 v a2 x1 1 x3 (m + 1) ((far : Int) - 1) = kB_X12_seenFrom_3 (kL_X12_seenFrom_3 v a2 x1 1 x3 m) v a2 x1 1 x3 ((far : Int) - 1) := rfl
      have e512 : Int.toNat 512 = 512 := rfl
      have ah : f_X12_ahead v a2 x1 1 = x1 := by
        unfold f_X12_ahead
        rw [if_neg zz_n10]
      have f0 := hh x1.toNat (by omega)
      rw [eL, eR]
      unfold kB_X9_dotsAhead_c1_27 kB_X12_seenFrom_3
      simp only [fz_lt, ah, if_true, if_neg zz_n10]
      by_cases g : 0 ≤ x1 - (far : Int)
      · -- there is such a dot
        have gf : far < 64 := by omega
        have id1 : f_X7_isDot u a0 (x1 + (-1) * (far : Int)) = 1 := by
          unfold f_X7_isDot
          simp only [fz_lt, hD]
          rw [if_neg (by omega), if_pos (by omega)]
        have fF := hh (x1 + (-1) * (far : Int)).toNat (by omega)
        have eto : v bn (64 + x1 + (-1) * (far : Int)).toNat = u b12 (x1 + (-1) * (far : Int)).toNat := by
          rw [show (64 + x1 + (-1) * (far : Int)).toNat = 64 + (x1 + (-1) * (far : Int)).toNat by omega]
          exact fF.1
        have efr : v bn (64 + x1).toNat = u b12 x1.toNat := by
          rw [show (64 + x1).toNat = 64 + x1.toNat by omega]
          exact f0.1
        have b0 : fx_b_add (u b12 x1.toNat) x3 = u b12 x1.toNat + x3 := zz_wadd (zz_sml ⟨by omega, by omega⟩) (zz_sml ⟨by omega, by omega⟩) (zz_sml ⟨by omega, by omega⟩)
        have hid : f_X12_isHidden v a2 x1 (-1) (far : Int) x3 = if 1 < far ∧ r far * ((far : Int) - 1) < r (far - 1) * (far : Int) then 1 else 0 := by
          unfold f_X12_isHidden
          simp only [fz_lt, fz_lr, hbn, Int.toNat_natCast, efr, b0, eto]
          rw [show Int.toNat (64 - 1) + 1 = 64 from rfl]
          exact zz_hide ⟨h1, h64⟩ ⟨by omega, by omega⟩ ⟨by omega, by omega⟩ (hrj far) (fun k k1 k2 => by
            have fk := hh (x1 + (-1) * (k : Int)).toNat (by omega)
            have rk := hrj k
            rw [show (64 + x1 + (-1) * (k : Int)).toNat = 64 + (x1 + (-1) * (k : Int)).toNat by omega]
            exact ⟨by omega, by omega, by omega⟩) hN'
        have go : ¬ (1 < far ∧ r far * ((far : Int) - 1) < r (far - 1) * (far : Int)) → kL_X9_dotsAhead_c1_27 x1 u a0 b12 (u b12 x1.toNat + x3) n (far : Int) ((far : Int) + 1) = kL_X12_seenFrom_3 v a2 x1 1 x3 m (far : Int) := by
          intro hL
          have z := ih m (far + 1) (by omega) (by omega) (by omega) (by omega) (fun j q1 q2 => by
            rw [hrj, hrj]
            by_cases e : j < far
            · exact hN' j q1 e
            · have e2 : j = far := by omega
              subst e2
              by_cases c : r j * ((j : Int) - 1) < r (j - 1) * (j : Int)
              · exact absurd ⟨by omega, c⟩ hL
              · omega)
          rw [show (((far + 1 : Nat) : Int) - 1) = (far : Int) by omega, show ((far + 1 : Nat) : Int) = (far : Int) + 1 by omega] at z
          exact z
        have s1 : fx_b_add ((far : Int) - 1) 1 = (far : Int) := by
          rw [zz_wadd (zz_sml ⟨by omega, by omega⟩) (zz_sml ⟨by omega, by omega⟩) (zz_sml ⟨by omega, by omega⟩)]
          omega
        have n1 : fx_b_sub (u b12 (x1 + (-1) * (far : Int)).toNat) (u b12 x1.toNat + x3) = r far := by
          rw [zz_wsub (zz_sml ⟨by omega, by omega⟩) (zz_sml ⟨by omega, by omega⟩) (zz_sml ⟨by omega, by omega⟩)]
          exact hrj far
        have rf := hrj far
        rw [if_pos (show (far : Int) < 64 by omega), if_pos (show (far : Int) - 1 < x1 by omega)]
        simp only [id1, n1, if_neg zz_n10]
        unfold kJ_X12_seenFrom_25
        simp only [fz_lt, show (far : Int) - 1 + 1 = (far : Int) by omega]
        by_cases c1 : far = 1
        · have c2 : (far : Int) = 1 := by omega
          have nL : ¬ (1 < far ∧ r far * ((far : Int) - 1) < r (far - 1) * (far : Int)) := fun w => by omega
          have h0 := hid
          rw [if_neg nL] at h0
          simp only [h0, if_true]
          rw [if_pos c2]
          unfold kJ_X9_dotsAhead_c1_92
          rw [if_neg (by omega)]
          unfold kJ_X9_dotsAhead_c1_118
          simp only [fz_lt, s1]
          exact go nL
        · have c2 : ¬ (far : Int) = 1 := by omega
          have c3 : (1 : Int) < (far : Int) := by omega
          have ej : (far : Int) - 1 = ((far - 1 : Nat) : Int) := by omega
          have fG := hh (x1 + (-1) * ((far - 1 : Nat) : Int)).toNat (by omega)
          have rg := hrj (far - 1)
          have n2 : fx_b_sub (u b12 (x1 + (-1) * ((far : Int) - 1)).toNat) (u b12 x1.toNat + x3) = r (far - 1) := by
            rw [ej, zz_wsub (zz_sml ⟨by omega, by omega⟩) (zz_sml ⟨by omega, by omega⟩) (zz_sml ⟨by omega, by omega⟩)]
            exact rg
          rw [if_neg c2]
          unfold kJ_X9_dotsAhead_c1_92
          rw [if_pos c3]
          have m1 := q_mulB (x := r far) (y := (far : Int) - 1) (a := -400) (b := 400) (c := 0) (d := 64) (lo := -25600) (hi := 25600) ⟨by omega, by omega⟩ ⟨by omega, by omega⟩ (by decide)
          have m2 := q_mulB (x := r (far - 1)) (y := (far : Int)) (a := -400) (b := 400) (c := 0) (d := 64) (lo := -25600) (hi := 25600) ⟨by omega, by omega⟩ ⟨by omega, by omega⟩ (by decide)
          have n3 : fx_b_mul (r far) ((far : Int) - 1) = r far * ((far : Int) - 1) := zz_wmul (zz_sml ⟨by omega, by omega⟩) (zz_sml ⟨by omega, by omega⟩) (zz_sml ⟨by omega, by omega⟩)
          have n4 : fx_b_mul (r (far - 1)) (far : Int) = r (far - 1) * (far : Int) := zz_wmul (zz_sml ⟨by omega, by omega⟩) (zz_sml ⟨by omega, by omega⟩) (zz_sml ⟨by omega, by omega⟩)
          simp only [fz_lt, n2, n3, n4]
          by_cases c : r far * ((far : Int) - 1) < r (far - 1) * (far : Int)
          · have h0 := hid
            rw [if_pos (show 1 < far ∧ r far * ((far : Int) - 1) < r (far - 1) * (far : Int) from ⟨by omega, c⟩)] at h0
            simp only [h0, if_neg zz_n10]
            rw [if_pos c]
          · have nL : ¬ (1 < far ∧ r far * ((far : Int) - 1) < r (far - 1) * (far : Int)) := fun w => c w.2
            have h0 := hid
            rw [if_neg nL] at h0
            simp only [h0, if_true]
            rw [if_neg c]
            unfold kJ_X9_dotsAhead_c1_118
            simp only [fz_lt, s1]
            exact go nL
      · have e2 : ¬ (far : Int) - 1 < x1 := by omega
        rw [if_neg e2]
        by_cases g64 : (far : Int) < 64
        · have id0 : f_X7_isDot u a0 (x1 + (-1) * (far : Int)) = 0 := by
            unfold f_X7_isDot
            simp only [fz_lt, hD]
            rw [if_pos (by omega)]
          rw [if_pos g64]
          simp only [id0, if_true]
        · rw [if_neg g64]
end Seenc1
section SeenF
variable {u v : fx_U} {a1 a0 a2 b12 bn : Nat} {x1 x2 x3 D : Int}
theorem zz_ahead (hb : u a0 2 = (b12 : Int)) (hD : u a0 0 = D) (hDb : 8 ≤ D ∧ D ≤ 64) (hx1 : 0 ≤ x1 ∧ x1 < D) (hx2 : 0 ≤ x2 ∧ x2 ≤ 1) (hx3 : 1 ≤ x3 ∧ x3 ≤ 9) (hbn : v a2 0 = (bn : Int)) (hD2 : v bn 512 = D)
    (hh : ∀ k : Nat, k < 64 → v bn (64 + k) = u b12 k ∧ -99 ≤ u b12 k ∧ u b12 k ≤ 99) :
    f_X9_dotsAhead u a0 x1 x2 x3 = f_X12_seenFrom v a2 x1 x2 x3 := by
  have f0 := hh x1.toNat (by omega)
  have b0 : fx_b_add (u b12 x1.toNat) x3 = u b12 x1.toNat + x3 := zz_wadd (zz_sml ⟨by omega, by omega⟩) (zz_sml ⟨by omega, by omega⟩) (zz_sml ⟨by omega, by omega⟩)
  unfold f_X9_dotsAhead f_X12_seenFrom
  by_cases g : x2 = 0
  · subst g
    simp only [if_true]
    unfold kJ_X9_dotsAhead_c0_9
    simp only [fz_lt, fz_lr, hb, Int.toNat_natCast, b0]
    rw [show Int.toNat (64 - 1) + 1 = 64 from rfl, show Int.toNat (63 - 0) + 1 = 64 from rfl]
    have z := zz_seenc0 hD hDb hx1 hx3 hbn hD2 hh 64 64 1 (by decide) (by decide) (by decide) (by decide) (fun j h1 h2 => by omega)
    rw [show ((1 : Nat) : Int) - 1 = 0 from rfl, show ((1 : Nat) : Int) = 1 from rfl] at z
    exact z
  · have e : x2 = 1 := by omega
    subst e
    simp only [if_neg zz_n10]
    unfold kJ_X9_dotsAhead_c1_9
    simp only [fz_lt, fz_lr, hb, Int.toNat_natCast, b0]
    rw [show Int.toNat (64 - 1) + 1 = 64 from rfl, show Int.toNat (63 - 0) + 1 = 64 from rfl]
    have z := zz_seenc1 hD hDb hx1 hx3 hbn hD2 hh 64 64 1 (by decide) (by decide) (by decide) (by decide) (fun j h1 h2 => by omega)
    rw [show ((1 : Nat) : Int) - 1 = 0 from rfl, show ((1 : Nat) : Int) = 1 from rfl] at z
    exact z
theorem zz_seenF (ha : u a1 5 = (a0 : Int)) (hb : u a0 2 = (b12 : Int)) (hD : u a0 0 = D) (hDb : 8 ≤ D ∧ D ≤ 64) (hbn : v a2 0 = (bn : Int)) (hD2 : v bn 512 = D)
    (hh : ∀ k : Nat, k < 64 → v bn (64 + k) = u b12 k ∧ -99 ≤ u b12 k ∧ u b12 k ≤ 99) :
    f_X11_seen u a1 x1 x2 x3 = f_X12_seen v a2 x1 x2 x3 := by
  have e512 : Int.toNat 512 = 512 := rfl
  unfold f_X11_seen f_X12_seen f_X11_isEye f_X7_isDot f_X12_isDot
  simp only [fz_lt, fz_lr, ha, hbn, hD, hD2, e512, Int.toNat_natCast, zz_is, zz_is2]
  by_cases g1 : x1 < 0
  · simp only [if_pos g1, if_true]
  · by_cases g2 : x1 < D
    · simp only [if_neg g1, if_pos g2, if_neg zz_n10]
      by_cases g3 : 0 ≤ x2 ∧ x2 ≤ 1
      · simp only [if_pos g3, if_neg zz_n10]
        by_cases g4 : 1 ≤ x3 ∧ x3 ≤ 9
        · simp only [if_pos g4, if_neg zz_n10]
          exact zz_ahead hb hD hDb ⟨by omega, g2⟩ g3 g4 hbn hD2 hh
        · simp only [if_neg g4, if_true]
      · simp only [if_neg g3, if_true]
    · simp only [if_neg g1, if_neg g2, if_true]
end SeenF
