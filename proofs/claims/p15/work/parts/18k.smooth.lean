/-! SMOOTH: what both reckon, as numbers -/
def zz_ab (x : Int) : Int := if x < 0 then -x else x
def zz_cl (b x g : Int) : Int := max (x - g) (min (x + g) b)
/-- it bulges nowhere up, from 0 to 60 -/
def zz_cv (f : Int → Int) : Prop := ∀ x : Int, 1 ≤ x → x ≤ 59 → 2 * f x ≤ f (x - 1) + f (x + 1)
/-- the lowest of the best -/
def zz_lw (f : Int → Int) (b : Int) : Prop := (0 ≤ b ∧ b ≤ 60) ∧ (∀ x, 0 ≤ x → x ≤ 60 → f b ≤ f x) ∧ ∀ x, 0 ≤ x → x < b → f b < f x
def zz_lb (f : Int → Int) : Nat → Int
  | 0 => 0
  | n + 1 => if f ((n : Int) + 1) < f (zz_lb f n) then (n : Int) + 1 else zz_lb f n
theorem zz_lb_ok {f : Int → Int} : ∀ n : Nat, (0 ≤ zz_lb f n ∧ zz_lb f n ≤ (n : Int)) ∧ (∀ x, 0 ≤ x → x ≤ (n : Int) → f (zz_lb f n) ≤ f x) ∧ ∀ x, 0 ≤ x → x < zz_lb f n → f (zz_lb f n) < f x := by
  intro n
  induction n with
  | zero =>
    have e0 : zz_lb f 0 = 0 := rfl
    rw [e0]
    refine ⟨⟨by omega, by omega⟩, fun x h1 h2 => ?_, fun x h1 h2 => ?_⟩
    · have e : x = 0 := by omega
      rw [e]
      exact Int.le_refl _
    · omega
  | succ n ih =>
    obtain ⟨⟨i1, i2⟩, i3, i4⟩ := ih
    have e : zz_lb f (n + 1) = if f ((n : Int) + 1) < f (zz_lb f n) then (n : Int) + 1 else zz_lb f n := rfl
    rw [e]
    by_cases h : f ((n : Int) + 1) < f (zz_lb f n)
    · rw [if_pos h]
      refine ⟨⟨by omega, by omega⟩, fun x h1 h2 => ?_, fun x h1 h2 => ?_⟩
      · by_cases q : x = (n : Int) + 1
        · rw [q]
          exact Int.le_refl _
        · have := i3 x h1 (by omega)
          omega
      · have := i3 x h1 (by omega)
        omega
    · rw [if_neg h]
      refine ⟨⟨by omega, by omega⟩, fun x h1 h2 => ?_, i4⟩
      by_cases q : x = (n : Int) + 1
      · rw [q]
        omega
      · exact i3 x h1 (by omega)
section Conv
variable {f : Int → Int} {b g x w : Int}
theorem zz_up1 (hc : zz_cv f) (hb : zz_lw f b) : ∀ n : Nat, b + (n : Int) + 1 ≤ 60 → f (b + (n : Int)) ≤ f (b + (n : Int) + 1) := by
  obtain ⟨⟨b1, b2⟩, b3, b4⟩ := hb
  intro n
  induction n with
  | zero =>
    intro h
    have e : b + ((0 : Nat) : Int) = b := by omega
    rw [e] at h ⊢
    exact b3 (b + 1) (by omega) (by omega)
  | succ n ih =>
    intro h
    have e : b + ((n + 1 : Nat) : Int) = b + (n : Int) + 1 := by omega
    rw [e] at h ⊢
    have z := hc (b + (n : Int) + 1) (by omega) (by omega)
    rw [show b + (n : Int) + 1 - 1 = b + (n : Int) by omega] at z
    have y := ih (by omega)
    omega
theorem zz_dn1 (hc : zz_cv f) (hb : zz_lw f b) : ∀ n : Nat, 0 ≤ b - (n : Int) - 1 → f (b - (n : Int)) < f (b - (n : Int) - 1) := by
  obtain ⟨⟨b1, b2⟩, b3, b4⟩ := hb
  intro n
  induction n with
  | zero =>
    intro h
    have e : b - ((0 : Nat) : Int) = b := by omega
    rw [e] at h ⊢
    exact b4 (b - 1) (by omega) (by omega)
  | succ n ih =>
    intro h
    have e : b - ((n + 1 : Nat) : Int) = b - (n : Int) - 1 := by omega
    rw [e] at h ⊢
    have z := hc (b - (n : Int) - 1) (by omega) (by omega)
    rw [show b - (n : Int) - 1 + 1 = b - (n : Int) by omega] at z
    have y := ih (by omega)
    omega
theorem zz_up (hc : zz_cv f) (hb : zz_lw f b) : ∀ (n : Nat) (x : Int), b ≤ x → x + (n : Int) ≤ 60 → f x ≤ f (x + (n : Int)) := by
  intro n
  induction n with
  | zero =>
    intro x _ _
    rw [show x + ((0 : Nat) : Int) = x by omega]
    exact Int.le_refl _
  | succ n ih =>
    intro x h1 h2
    have z := zz_up1 hc hb (x + (n : Int) - b).toNat (by omega)
    rw [show b + (((x + (n : Int) - b).toNat : Nat) : Int) = x + (n : Int) by omega] at z
    rw [show x + ((n + 1 : Nat) : Int) = x + (n : Int) + 1 by omega]
    have y := ih x h1 (by omega)
    omega
theorem zz_dn (hc : zz_cv f) (hb : zz_lw f b) : ∀ (n : Nat) (x : Int), 0 ≤ x → x + (n : Int) + 1 ≤ b → f (x + (n : Int) + 1) < f x := by
  intro n
  induction n with
  | zero =>
    intro x h1 h2
    rw [show x + ((0 : Nat) : Int) + 1 = x + 1 by omega]
    have z := zz_dn1 hc hb (b - x - 1).toNat (by omega)
    rw [show b - (((b - x - 1).toNat : Nat) : Int) = x + 1 by omega, show x + 1 - 1 = x by omega] at z
    exact z
  | succ n ih =>
    intro x h1 h2
    have z := zz_dn1 hc hb (b - (x + (n : Int) + 1) - 1).toNat (by omega)
    rw [show b - (((b - (x + (n : Int) + 1) - 1).toNat : Nat) : Int) = x + (n : Int) + 1 + 1 by omega, show x + (n : Int) + 1 + 1 - 1 = x + (n : Int) + 1 by omega] at z
    rw [show x + ((n + 1 : Nat) : Int) + 1 = x + (n : Int) + 1 + 1 by omega]
    have y := ih x h1 (by omega)
    omega
theorem zz_cl_b (hb : 0 ≤ b ∧ b ≤ 60) (hg : 0 ≤ g) (hx : 0 ≤ x ∧ x ≤ 60) : (0 ≤ zz_cl b x g ∧ zz_cl b x g ≤ 60) ∧ x - g ≤ zz_cl b x g ∧ zz_cl b x g ≤ x + g := by
  unfold zz_cl
  omega
/-- the best within reach -/
theorem zz_win (hc : zz_cv f) (hb : zz_lw f b) (hg : 0 ≤ g) (hx : 0 ≤ x ∧ x ≤ 60) (hw : (x - g ≤ w ∧ w ≤ x + g) ∧ 0 ≤ w ∧ w ≤ 60) : f (zz_cl b x g) ≤ f w ∧ (w < zz_cl b x g → f (zz_cl b x g) < f w) := by
  have b1 := hb.1
  by_cases q1 : b < x - g
  · have e : zz_cl b x g = x - g := by unfold zz_cl; omega
    rw [e]
    have z := zz_up hc hb (w - (x - g)).toNat (x - g) (by omega) (by omega)
    rw [show x - g + (((w - (x - g)).toNat : Nat) : Int) = w by omega] at z
    exact ⟨z, fun h => by omega⟩
  · by_cases q2 : x + g < b
    · have e : zz_cl b x g = x + g := by unfold zz_cl; omega
      rw [e]
      by_cases q3 : w = x + g
      · rw [q3]
        exact ⟨Int.le_refl _, fun h => by omega⟩
      · have z := zz_dn hc hb (x + g - w - 1).toNat w (by omega) (by omega)
        rw [show w + (((x + g - w - 1).toNat : Nat) : Int) + 1 = x + g by omega] at z
        exact ⟨Int.le_of_lt z, fun _ => z⟩
    · have e : zz_cl b x g = b := by unfold zz_cl; omega
      rw [e]
      exact ⟨hb.2.1 w hw.2.1 hw.2.2, fun h => hb.2.2 w hw.2.1 h⟩
theorem zz_cvF (hc : zz_cv f) (hb : zz_lw f b) (hg : 0 ≤ g) (k : Int) : zz_cv (fun x => zz_ab (x - 30 - k) + f (zz_cl b x g)) := by
  have b1 := hb.1
  intro x h1 h2
  show 2 * (zz_ab (x - 30 - k) + f (zz_cl b x g)) ≤ zz_ab (x - 1 - 30 - k) + f (zz_cl b (x - 1) g) + (zz_ab (x + 1 - 30 - k) + f (zz_cl b (x + 1) g))
  have a : 2 * zz_ab (x - 30 - k) ≤ zz_ab (x - 1 - 30 - k) + zz_ab (x + 1 - 30 - k) := by
    unfold zz_ab
    split <;> split <;> split <;> omega
  have c : 2 * f (zz_cl b x g) ≤ f (zz_cl b (x - 1) g) + f (zz_cl b (x + 1) g) := by
    by_cases q1 : b < x - g
    · rw [show zz_cl b x g = x - g by unfold zz_cl; omega, show zz_cl b (x - 1) g = x - g - 1 by unfold zz_cl; omega, show zz_cl b (x + 1) g = x - g + 1 by unfold zz_cl; omega]
      exact hc (x - g) (by omega) (by omega)
    · by_cases q2 : x + g < b
      · rw [show zz_cl b x g = x + g by unfold zz_cl; omega, show zz_cl b (x - 1) g = x + g - 1 by unfold zz_cl; omega, show zz_cl b (x + 1) g = x + g + 1 by unfold zz_cl; omega]
        exact hc (x + g) (by omega) (by omega)
      · rw [show zz_cl b x g = b by unfold zz_cl; omega]
        have y1 := zz_cl_b (x := x - 1) b1 hg ⟨by omega, by omega⟩
        have y2 := zz_cl_b (x := x + 1) b1 hg ⟨by omega, by omega⟩
        have z1 := hb.2.1 _ y1.1.1 y1.1.2
        have z2 := hb.2.1 _ y2.1.1 y2.1.2
        omega
  omega
end Conv
/-- how far off from a dot on, by the offset there and 30: the first number says how many dots lie behind -/
def zz_F (K : Nat → Int) (g : Int) : Nat → Int → Int
  | 0, x => zz_ab (x - 30 - K 0)
  | j + 1, x => zz_ab (x - 30 - K (j + 1)) + zz_F K g j (zz_cl (zz_lb (zz_F K g j) 60) x g)
def zz_B (K : Nat → Int) (g : Int) (j : Nat) : Int := zz_lb (zz_F K g j) 60
/-- what lies behind alone -/
def zz_G (K : Nat → Int) (g : Int) : Nat → Int → Int
  | 0, _ => 0
  | j + 1, x => zz_F K g j (zz_cl (zz_B K g j) x g)
theorem zz_FG {K : Nat → Int} {g : Int} : ∀ (j : Nat) (x : Int), zz_F K g j x = zz_ab (x - 30 - K j) + zz_G K g j x
  | 0, x => (Int.add_zero _).symm
  | _ + 1, _ => rfl
section Spec
variable {K : Nat → Int} {g : Int}
theorem zz_B_lw (j : Nat) : zz_lw (zz_F K g j) (zz_B K g j) := by
  have z := zz_lb_ok (f := zz_F K g j) 60
  rw [show ((60 : Nat) : Int) = 60 from rfl] at z
  exact z
theorem zz_F_cv (hg : 0 ≤ g) : ∀ j : Nat, zz_cv (zz_F K g j) := by
  intro j
  induction j with
  | zero =>
    intro x h1 h2
    show 2 * zz_ab (x - 30 - K 0) ≤ zz_ab (x - 1 - 30 - K 0) + zz_ab (x + 1 - 30 - K 0)
    unfold zz_ab
    split <;> split <;> split <;> omega
  | succ j ih => exact zz_cvF ih (zz_B_lw j) hg (K (j + 1))
theorem zz_ab_b {x k : Int} (hx : 0 ≤ x ∧ x ≤ 60) (hk : -99 ≤ k ∧ k ≤ 99) : 0 ≤ zz_ab (x - 30 - k) ∧ zz_ab (x - 30 - k) ≤ 129 := by
  unfold zz_ab
  split <;> omega
theorem zz_F_b (hK : ∀ j, -99 ≤ K j ∧ K j ≤ 99) (hg : 0 ≤ g) : ∀ (j : Nat) (x : Int), 0 ≤ x ∧ x ≤ 60 → 0 ≤ zz_F K g j x ∧ zz_F K g j x ≤ 129 * ((j : Int) + 1) := by
  intro j
  induction j with
  | zero =>
    intro x hx
    have a := zz_ab_b hx (hK 0)
    show 0 ≤ zz_ab (x - 30 - K 0) ∧ zz_ab (x - 30 - K 0) ≤ 129 * (((0 : Nat) : Int) + 1)
    omega
  | succ j ih =>
    intro x hx
    have a := zz_ab_b hx (hK (j + 1))
    have c := zz_cl_b (zz_B_lw (K := K) (g := g) j).1 hg hx
    have z := ih _ c.1
    rw [zz_FG]
    show 0 ≤ zz_ab (x - 30 - K (j + 1)) + zz_F K g j (zz_cl (zz_B K g j) x g) ∧ zz_ab (x - 30 - K (j + 1)) + zz_F K g j (zz_cl (zz_B K g j) x g) ≤ 129 * (((j + 1 : Nat) : Int) + 1)
    omega
theorem zz_G_b (hK : ∀ j, -99 ≤ K j ∧ K j ≤ 99) (hg : 0 ≤ g) (j : Nat) (x : Int) (hx : 0 ≤ x ∧ x ≤ 60) : 0 ≤ zz_G K g j x ∧ zz_G K g j x ≤ 129 * (j : Int) := by
  cases j with
  | zero =>
    show 0 ≤ (0 : Int) ∧ (0 : Int) ≤ 129 * ((0 : Nat) : Int)
    omega
  | succ j =>
    have c := zz_cl_b (zz_B_lw (K := K) (g := g) j).1 hg hx
    have z := zz_F_b hK hg j _ c.1
    show 0 ≤ zz_F K g j (zz_cl (zz_B K g j) x g) ∧ zz_F K g j (zz_cl (zz_B K g j) x g) ≤ 129 * ((j + 1 : Nat) : Int)
    omega
end Spec
/-- the row of offsets and 30: the first dot's, then on -/
def zz_X (K : Nat → Int) (g : Int) (l : Nat) : Nat → Int
  | 0 => zz_B K g l
  | i + 1 => zz_cl (zz_B K g (l - (i + 1))) (zz_X K g l i) g
theorem zz_X_b {K : Nat → Int} {g : Int} {l : Nat} (hg : 0 ≤ g) : ∀ i : Nat, 0 ≤ zz_X K g l i ∧ zz_X K g l i ≤ 60 := by
  intro i
  induction i with
  | zero => exact (zz_B_lw l).1
  | succ i ih => exact (zz_cl_b (zz_B_lw (K := K) (g := g) (l - (i + 1))).1 hg ih).1
