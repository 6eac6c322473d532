/-! RENEWED FIRST: what both reckon, as numbers -/
/-- wear in so many dots from one on -/
def zz_ws (wr : Nat → Int) : Nat → Nat → Int
  | 0, _ => 0
  | n + 1, i => wr i + zz_ws wr n (i + 1)
/-- begun at a dot, so many dots ahead of the end -/
def zz_bg (wr : Nat → Int) (L d : Nat) (P : Nat → Int) (j : Nat) : Int := if L ≤ j ∧ 0 ≤ P (j - L) then P (j - L) + zz_ws wr L (d - j) else -1
def zz_rw (B : Nat → Int) : Nat → Int
  | 0 => -1
  | j + 1 => max (zz_rw B j) (B (j + 1))
/-- the most by so many stretches, so many dots ahead of the end -/
def zz_T (wr : Nat → Int) (L d : Nat) : Nat → Nat → Int
  | 0, _ => 0
  | k + 1, j => zz_rw (zz_bg wr L d (zz_T wr L d k)) j
/-- where the next one begins -/
def zz_fd (B P : Nat → Int) : Nat → Nat
  | 0 => 0
  | j + 1 => if 0 ≤ B (j + 1) ∧ B (j + 1) = P (j + 1) then j + 1 else zz_fd B P j
section Wear
variable {wr : Nat → Int} {L d m : Nat}
theorem zz_ws_b (hw : ∀ i, 0 ≤ wr i ∧ wr i ≤ 99) : ∀ n i : Nat, 0 ≤ zz_ws wr n i ∧ zz_ws wr n i ≤ 99 * (n : Int) := by
  intro n
  induction n with
  | zero =>
    intro i
    show 0 ≤ (0 : Int) ∧ (0 : Int) ≤ 99 * ((0 : Nat) : Int)
    omega
  | succ n ih =>
    intro i
    have a := hw i
    have b := ih (i + 1)
    show 0 ≤ wr i + zz_ws wr n (i + 1) ∧ wr i + zz_ws wr n (i + 1) ≤ 99 * ((n + 1 : Nat) : Int)
    omega
theorem zz_rw_lo {B : Nat → Int} : ∀ j : Nat, -1 ≤ zz_rw B j := by
  intro j
  induction j with
  | zero => exact Int.le_refl _
  | succ j ih =>
    show -1 ≤ max (zz_rw B j) (B (j + 1))
    omega
theorem zz_rw_hi {B : Nat → Int} {C : Int} (hC : -1 ≤ C) (h : ∀ j, B j ≤ C) : ∀ j : Nat, zz_rw B j ≤ C := by
  intro j
  induction j with
  | zero => exact hC
  | succ j ih =>
    have := h (j + 1)
    show max (zz_rw B j) (B (j + 1)) ≤ C
    omega
theorem zz_T_b (hw : ∀ i, 0 ≤ wr i ∧ wr i ≤ 99) (hL : L ≤ 16) : ∀ k j : Nat, -1 ≤ zz_T wr L d k j ∧ zz_T wr L d k j ≤ 1600 * (k : Int) := by
  intro k
  induction k with
  | zero =>
    intro j
    show -1 ≤ (0 : Int) ∧ (0 : Int) ≤ 1600 * ((0 : Nat) : Int)
    omega
  | succ k ih =>
    intro j
    refine ⟨zz_rw_lo j, zz_rw_hi (by omega) (fun j => ?_) j⟩
    unfold zz_bg
    by_cases q : L ≤ j ∧ 0 ≤ zz_T wr L d k (j - L)
    · have a := ih (j - L)
      have b := zz_ws_b hw L (d - j)
      rw [if_pos q]
      omega
    · rw [if_neg q]
      omega
theorem zz_bg_b (hw : ∀ i, 0 ≤ wr i ∧ wr i ≤ 99) {P : Nat → Int} {j : Nat} : zz_bg wr L d P j = -1 ∨ ((L ≤ j ∧ 0 ≤ P (j - L)) ∧ zz_bg wr L d P j = P (j - L) + zz_ws wr L (d - j) ∧ 0 ≤ zz_bg wr L d P j) := by
  unfold zz_bg
  by_cases q : L ≤ j ∧ 0 ≤ P (j - L)
  · have b := zz_ws_b hw L (d - j)
    rw [if_pos q]
    exact Or.inr ⟨q, rfl, by omega⟩
  · rw [if_neg q]
    exact Or.inl rfl
/-- there is room -/
theorem zz_T_f (hw : ∀ i, 0 ≤ wr i ∧ wr i ≤ 99) (hL : 1 ≤ L) : ∀ k j : Nat, k * L ≤ j → 0 ≤ zz_T wr L d k j := by
  intro k
  induction k with
  | zero => intro j _; exact Int.le_refl 0
  | succ k ih =>
    intro j hj
    rw [Nat.succ_mul] at hj
    obtain ⟨q, rfl⟩ : ∃ q : Nat, j = q + 1 := ⟨j - 1, by omega⟩
    have z := ih (q + 1 - L) (by omega)
    have b := zz_ws_b hw L (d - (q + 1))
    show 0 ≤ max (zz_rw (zz_bg wr L d (zz_T wr L d k)) q) (zz_bg wr L d (zz_T wr L d k) (q + 1))
    have e : zz_bg wr L d (zz_T wr L d k) (q + 1) = zz_T wr L d k (q + 1 - L) + zz_ws wr L (d - (q + 1)) := by
      unfold zz_bg
      rw [if_pos ⟨by omega, z⟩]
    omega
/-- what is found -/
theorem zz_fd_ok {k : Nat} (hw : ∀ i, 0 ≤ wr i ∧ wr i ≤ 99) : ∀ j : Nat, 0 ≤ zz_T wr L d (k + 1) j → (L ≤ zz_fd (zz_bg wr L d (zz_T wr L d k)) (zz_T wr L d (k + 1)) j ∧ zz_fd (zz_bg wr L d (zz_T wr L d k)) (zz_T wr L d (k + 1)) j ≤ j) ∧ 0 ≤ zz_T wr L d k (zz_fd (zz_bg wr L d (zz_T wr L d k)) (zz_T wr L d (k + 1)) j - L) := by
  intro j
  induction j with
  | zero =>
    intro h
    have e : zz_T wr L d (k + 1) 0 = -1 := rfl
    omega
  | succ j ih =>
    intro h
    have e : zz_fd (zz_bg wr L d (zz_T wr L d k)) (zz_T wr L d (k + 1)) (j + 1) = if 0 ≤ zz_bg wr L d (zz_T wr L d k) (j + 1) ∧ zz_bg wr L d (zz_T wr L d k) (j + 1) = zz_T wr L d (k + 1) (j + 1) then j + 1 else zz_fd (zz_bg wr L d (zz_T wr L d k)) (zz_T wr L d (k + 1)) j := rfl
    have eT : zz_T wr L d (k + 1) (j + 1) = max (zz_T wr L d (k + 1) j) (zz_bg wr L d (zz_T wr L d k) (j + 1)) := rfl
    rw [e]
    by_cases q : 0 ≤ zz_bg wr L d (zz_T wr L d k) (j + 1) ∧ zz_bg wr L d (zz_T wr L d k) (j + 1) = zz_T wr L d (k + 1) (j + 1)
    · rw [if_pos q]
      rcases zz_bg_b (L := L) (d := d) (P := zz_T wr L d k) (j := j + 1) hw with z | ⟨z1, z2, z3⟩
      · omega
      · exact ⟨⟨z1.1, Nat.le_refl _⟩, z1.2⟩
    · rw [if_neg q]
      have z := ih (by omega)
      exact ⟨⟨z.1.1, by omega⟩, z.2⟩
/-- not there: the same from the next dot on -/
theorem zz_fd_no {k j : Nat} (h : 0 ≤ zz_T wr L d (k + 1) (j + 1)) (q : ¬ (0 ≤ zz_bg wr L d (zz_T wr L d k) (j + 1) ∧ zz_bg wr L d (zz_T wr L d k) (j + 1) = zz_T wr L d (k + 1) (j + 1))) : zz_T wr L d (k + 1) j = zz_T wr L d (k + 1) (j + 1) ∧ zz_fd (zz_bg wr L d (zz_T wr L d k)) (zz_T wr L d (k + 1)) (j + 1) = zz_fd (zz_bg wr L d (zz_T wr L d k)) (zz_T wr L d (k + 1)) j := by
  have e : zz_fd (zz_bg wr L d (zz_T wr L d k)) (zz_T wr L d (k + 1)) (j + 1) = if 0 ≤ zz_bg wr L d (zz_T wr L d k) (j + 1) ∧ zz_bg wr L d (zz_T wr L d k) (j + 1) = zz_T wr L d (k + 1) (j + 1) then j + 1 else zz_fd (zz_bg wr L d (zz_T wr L d k)) (zz_T wr L d (k + 1)) j := rfl
  have eT : zz_T wr L d (k + 1) (j + 1) = max (zz_T wr L d (k + 1) j) (zz_bg wr L d (zz_T wr L d k) (j + 1)) := rfl
  rw [e, if_neg q]
  exact ⟨by omega, rfl⟩
theorem zz_fd_yes {k j : Nat} (q : 0 ≤ zz_bg wr L d (zz_T wr L d k) (j + 1) ∧ zz_bg wr L d (zz_T wr L d k) (j + 1) = zz_T wr L d (k + 1) (j + 1)) : zz_fd (zz_bg wr L d (zz_T wr L d k)) (zz_T wr L d (k + 1)) (j + 1) = j + 1 := by
  have e : zz_fd (zz_bg wr L d (zz_T wr L d k)) (zz_T wr L d (k + 1)) (j + 1) = if 0 ≤ zz_bg wr L d (zz_T wr L d k) (j + 1) ∧ zz_bg wr L d (zz_T wr L d k) (j + 1) = zz_T wr L d (k + 1) (j + 1) then j + 1 else zz_fd (zz_bg wr L d (zz_T wr L d k)) (zz_T wr L d (k + 1)) j := rfl
  rw [e, if_pos q]
/-- so many dots are left behind so many stretches, the rest of which are k -/
def zz_J (wr : Nat → Int) (L d m : Nat) : Nat → Nat
  | 0 => d
  | n + 1 => zz_fd (zz_bg wr L d (zz_T wr L d (m - n - 1))) (zz_T wr L d (m - n - 1 + 1)) (zz_J wr L d m n) - L
def zz_st (wr : Nat → Int) (L d m n : Nat) : Nat := zz_fd (zz_bg wr L d (zz_T wr L d (m - n - 1))) (zz_T wr L d (m - n - 1 + 1)) (zz_J wr L d m n)
theorem zz_J_ok (hw : ∀ i, 0 ≤ wr i ∧ wr i ≤ 99) (hL : 1 ≤ L) (hm : m * L ≤ d) : ∀ n : Nat, n ≤ m → zz_J wr L d m n ≤ d ∧ 0 ≤ zz_T wr L d (m - n) (zz_J wr L d m n) := by
  intro n
  induction n with
  | zero => intro _; exact ⟨Nat.le_refl d, zz_T_f hw hL m d hm⟩
  | succ n ih =>
    intro h
    obtain ⟨a, b⟩ := ih (by omega)
    rw [show m - n = m - n - 1 + 1 by omega] at b
    have z := zz_fd_ok (k := m - n - 1) hw _ b
    rw [show m - (n + 1) = m - n - 1 by omega]
    refine ⟨?_, z.2⟩
    show zz_fd (zz_bg wr L d (zz_T wr L d (m - n - 1))) (zz_T wr L d (m - n - 1 + 1)) (zz_J wr L d m n) - L ≤ d
    omega
end Wear
/-! in the class -/
def zz_gm (so M br c2 E d : Nat) (wr : Nat → Int) (w : fx_U) : Prop := (w so 0 = (M : Int) ∧ w so 1 = (E : Int) ∧ w br 0 = (d : Int) ∧ w br 3 = (c2 : Int)) ∧ (∀ j : Nat, j < 5 → w M j = ((M + 1 + j : Nat) : Int)) ∧ ∀ i : Nat, i < 64 → w c2 i = wr i
def zz_gn (so M br c2 E : Nat) : Prop := (∀ j : Nat, j < 5 → so ≠ M + 1 + j ∧ br ≠ M + 1 + j ∧ c2 ≠ M + 1 + j ∧ E ≠ M + 1 + j) ∧ so ≠ E ∧ M ≠ E ∧ br ≠ E ∧ c2 ≠ E
section RenewC
variable {so M br c2 E d L m : Nat} {wr : Nat → Int} {w : fx_U}
theorem zz_gm.row {k i : Nat} {x : Int} (h : zz_gm so M br c2 E d wr w) (n : zz_gn so M br c2 E) (hk : k < 5) : zz_gm so M br c2 E d wr (fx_pt w (M + 1 + k) i x) := by
  obtain ⟨⟨h1, h2, h3, h4⟩, h5, h6⟩ := h
  obtain ⟨n1, n2, n3, -⟩ := n.1 k hk
  refine ⟨⟨?_, ?_, ?_, ?_⟩, fun j hj => ?_, fun q hq => ?_⟩
  · rw [zz_pa n1]; exact h1
  · rw [zz_pa n1]; exact h2
  · rw [zz_pa n2]; exact h3
  · rw [zz_pa n2]; exact h4
  · rw [zz_pa (by omega)]; exact h5 j hj
  · rw [zz_pa n3]; exact h6 q hq
theorem zz_gm.st {i : Nat} {x : Int} (h : zz_gm so M br c2 E d wr w) (n : zz_gn so M br c2 E) : zz_gm so M br c2 E d wr (fx_pt w E i x) := by
  obtain ⟨⟨h1, h2, h3, h4⟩, h5, h6⟩ := h
  obtain ⟨-, n1, n2, n3, n4⟩ := n
  refine ⟨⟨?_, ?_, ?_, ?_⟩, fun j hj => ?_, fun q hq => ?_⟩
  · rw [zz_pa n1]; exact h1
  · rw [zz_pa n1]; exact h2
  · rw [zz_pa n3]; exact h3
  · rw [zz_pa n3]; exact h4
  · rw [zz_pa n2]; exact h5 j hj
  · rw [zz_pa n4]; exact h6 q hq
theorem zz_sum52 (hs : zz_gm so M br c2 E d wr w) (hw : ∀ i, 0 ≤ wr i ∧ wr i ≤ 99) (hd : d ≤ 64) {e : Nat} (he : e ≤ d) : ∀ (f n x : Nat) (s : Int), x + n = e → n < f → 0 ≤ s ∧ s ≤ 20000 - 99 * (n : Int) → kL_X10_mostBegunAt_52 (e : Int) w br f s (x : Int) = s + zz_ws wr n x := by
  intro f
  induction f with
  | zero => intro n x s _ h; omega
  | succ f ih =>
    intro n x s h1 h2 h3
    have eK : kL_X10_mostBegunAt_52 (e : Int) w br (f + 1) s (x : Int) = kB_X10_mostBegunAt_52 (kL_X10_mostBegunAt_52 (e : Int) w br f) (e : Int) w br s (x : Int) := rfl
    rw [eK]
    unfold kB_X10_mostBegunAt_52
    by_cases q : (x : Int) < (e : Int)
    · obtain ⟨t, rfl⟩ : ∃ t : Nat, n = t + 1 := ⟨n - 1, by omega⟩
      have a := hw x
      rw [if_pos q]
      simp only [fz_lt, fz_lr, hs.1.2.2.2, Int.toNat_natCast]
      have e1 : w c2 x = wr x := hs.2.2 x (by omega)
      have e2 : fx_b_add s (wr x) = s + wr x := zz_wadd (zz_sml ⟨by omega, by omega⟩) (zz_sml ⟨by omega, by omega⟩) (zz_sml ⟨by omega, by omega⟩)
      have z := ih t (x + 1) (s + wr x) (by omega) (by omega) ⟨by omega, by omega⟩
      rw [show ((x + 1 : Nat) : Int) = (x : Int) + 1 by omega] at z
      rw [e1, e2, z]
      show s + wr x + zz_ws wr t (x + 1) = s + (wr x + zz_ws wr t (x + 1))
      omega
    · have en : n = 0 := by omega
      rw [if_neg q, en]
      exact (Int.add_zero s).symm
theorem zz_mb {k i : Nat} (hs : zz_gm so M br c2 E d wr w) (hw : ∀ i, 0 ≤ wr i ∧ wr i ≤ 99) (hd : d ≤ 64) (hL : 1 ≤ L ∧ L ≤ 16) (hk : k < 4) (hi : i ≤ d) (hr : ∀ x : Nat, x ≤ d → w (M + 1 + k) x = zz_T wr L d k (d - x)) : f_X10_mostBegunAt w so br ((k + 1 : Nat) : Int) (i : Int) (L : Int) = zz_bg wr L d (zz_T wr L d k) (d - i) := by
  unfold f_X10_mostBegunAt
  rw [if_neg (by omega)]
  simp only [fz_lt, fz_lr, hs.1.2.2.1, hs.1.1, Int.toNat_natCast]
  by_cases q : (d : Int) < (i : Int) + (L : Int)
  · rw [if_pos q]
    unfold zz_bg
    rw [if_neg (fun z => by omega)]
  · have e1 : w M (((k + 1 : Nat) : Int) - 1).toNat = ((M + 1 + k : Nat) : Int) := by
      rw [show (((k + 1 : Nat) : Int) - 1).toNat = k by omega]
      exact hs.2.1 k (by omega)
    have e2 : ((i : Int) + (L : Int)).toNat = i + L := by omega
    have e3 : w (M + 1 + k) (i + L) = zz_T wr L d k (d - i - L) := by
      rw [hr (i + L) (by omega), show d - (i + L) = d - i - L by omega]
    rw [if_neg q]
    simp only [e1, e2, e3, Int.toNat_natCast]
    have tb := zz_T_b (d := d) hw hL.2 k (d - i - L)
    by_cases z : zz_T wr L d k (d - i - L) < 0
    · rw [if_pos z]
      unfold zz_bg
      rw [if_neg (fun q => by omega)]
    · rw [if_neg z]
      have s := zz_sum52 hs hw hd (e := i + L) (by omega) (Int.toNat (64 - (i : Int)) + 1) L i (zz_T wr L d k (d - i - L)) rfl (by omega) ⟨by omega, by omega⟩
      rw [show ((i + L : Nat) : Int) = (i : Int) + (L : Int) by omega] at s
      rw [s]
      unfold zz_bg
      rw [if_pos ⟨by omega, by omega⟩, show d - (d - i) = i by omega]
theorem zz_mf {k i : Nat} (hs : zz_gm so M br c2 E d wr w) (hw : ∀ i, 0 ≤ wr i ∧ wr i ≤ 99) (hd : d ≤ 64) (hL : 1 ≤ L ∧ L ≤ 16) (hk : k < 4) (hi : i ≤ d) (hr : ∀ x : Nat, x ≤ d → w (M + 1 + k) x = zz_T wr L d k (d - x)) (hn : ∀ x : Nat, i < x → x ≤ d → w (M + 1 + (k + 1)) x = zz_T wr L d (k + 1) (d - x)) : f_X10_mostFrom w so br ((k + 1 : Nat) : Int) (i : Int) (L : Int) = zz_T wr L d (k + 1) (d - i) := by
  have mb := zz_mb hs hw hd hL hk hi hr
  unfold f_X10_mostFrom kJ_X10_mostFrom_22
  simp only [fz_lt, fz_lr, hs.1.2.2.1, hs.1.1, Int.toNat_natCast, mb, zz_max]
  by_cases q : (i : Int) < (d : Int)
  · rw [if_pos q]
    have e1 : w M (k + 1) = ((M + 1 + (k + 1) : Nat) : Int) := hs.2.1 (k + 1) (by omega)
    obtain ⟨j, hj⟩ : ∃ j : Nat, d - i = j + 1 := ⟨d - i - 1, by omega⟩
    simp only [e1, Int.toNat_natCast, show ((i : Int) + 1).toNat = i + 1 by omega]
    rw [hn (i + 1) (by omega) (by omega), show d - (i + 1) = j by omega, hj]
    rfl
  · rw [if_neg q, show d - i = 0 by omega]
    show max (-1) (zz_bg wr L d (zz_T wr L d k) 0) = -1
    unfold zz_bg
    rw [if_neg (fun z => by omega)]
    omega
theorem zz_c21_c0 {R : Int → fx_U → Int × fx_U} {k : Nat} (hn : zz_gn so M br c2 E) (hw : ∀ i, 0 ≤ wr i ∧ wr i ≤ 99) (hd : d ≤ 64) (hL : 1 ≤ L ∧ L ≤ 16) (hk : k ≤ 4) :
    ∀ (t f : Nat) (w : fx_U), t ≤ d + 1 → t < f → zz_gm so M br c2 E d wr w → (∀ q x : Nat, q < k → x ≤ d → w (M + 1 + q) x = zz_T wr L d q (d - x)) → (∀ x : Nat, t ≤ x → x ≤ d → w (M + 1 + k) x = zz_T wr L d k (d - x)) →
    ∃ w2 : fx_U, kL_X10_choose_c0_21 (k : Int) R so br (L : Int) f ((t : Int) - 1) w = R ((k : Int) + 1) w2 ∧ zz_gm so M br c2 E d wr w2 ∧ ∀ q x : Nat, q ≤ k → x ≤ d → w2 (M + 1 + q) x = zz_T wr L d q (d - x) := by
  intro t
  induction t with
  | zero =>
    intro f w _ hf hs hT hN
    obtain ⟨g, rfl⟩ : ∃ g : Nat, f = g + 1 := ⟨f - 1, by omega⟩
    have eK : kL_X10_choose_c0_21 (k : Int) R so br (L : Int) (g + 1) (((0 : Nat) : Int) - 1) w = kB_X10_choose_c0_21 (kL_X10_choose_c0_21 (k : Int) R so br (L : Int) g) (k : Int) R so br (L : Int) (((0 : Nat) : Int) - 1) w := rfl
    rw [eK]
    unfold kB_X10_choose_c0_21
    rw [if_pos (by omega)]
    simp only [fz_lt]
    refine ⟨w, rfl, hs, fun q x h1 h2 => ?_⟩
    by_cases e : q = k
    · rw [e]
      exact hN x (Nat.zero_le x) h2
    · exact hT q x (by omega) h2
  | succ i ih =>
    intro f w ht hf hs hT hN
    obtain ⟨g, rfl⟩ : ∃ g : Nat, f = g + 1 := ⟨f - 1, by omega⟩
    rw [show ((i + 1 : Nat) : Int) - 1 = (i : Int) by omega]
    have eK : kL_X10_choose_c0_21 (k : Int) R so br (L : Int) (g + 1) (i : Int) w = kB_X10_choose_c0_21 (kL_X10_choose_c0_21 (k : Int) R so br (L : Int) g) (k : Int) R so br (L : Int) (i : Int) w := rfl
    rw [eK]
    have one : ∀ z : Int, z = zz_T wr L d k (d - i) → ∃ w2 : fx_U, kJ_X10_choose_c0_54 w (M + 1 + k) (i : Int) (kL_X10_choose_c0_21 (k : Int) R so br (L : Int) g) z = R ((k : Int) + 1) w2 ∧ zz_gm so M br c2 E d wr w2 ∧ ∀ q x : Nat, q ≤ k → x ≤ d → w2 (M + 1 + q) x = zz_T wr L d q (d - x) := by
      intro z hz
      unfold kJ_X10_choose_c0_54
      simp only [fz_lt, fz_ls, Int.toNat_natCast]
      rw [show (i : Int) + (-1) = (i : Int) - 1 by omega]
      refine ih g _ (by omega) (by omega) (hs.row hn (by omega)) (fun q x h1 h2 => ?_) (fun x h1 h2 => ?_)
      · rw [zz_pa (by omega)]
        exact hT q x h1 h2
      · by_cases e : x = i
        · rw [e, zz_ps, hz]
        · rw [zz_pj e]
          exact hN x (by omega) h2
    have e1 : w M k = ((M + 1 + k : Nat) : Int) := hs.2.1 k (by omega)
    unfold kB_X10_choose_c0_21
    rw [if_neg (by omega)]
    simp only [fz_lt, fz_lr, hs.1.1, Int.toNat_natCast, e1]
    by_cases e : k = 0
    · rw [if_pos (show (k : Int) = 0 by omega)]
      exact one 0 (by rw [e]; rfl)
    · obtain ⟨p, rfl⟩ : ∃ p : Nat, k = p + 1 := ⟨k - 1, by omega⟩
      rw [if_neg (show ¬ ((p + 1 : Nat) : Int) = 0 by omega)]
      exact one _ (zz_mf hs hw hd hL (by omega) (by omega) (fun x h => hT p x (by omega) h) (fun x h1 h2 => hN x (by omega) h2))
theorem zz_c3_c0 (hn : zz_gn so M br c2 E) (hw : ∀ i, 0 ≤ wr i ∧ wr i ≤ 99) (hd : d ≤ 64) (hL : 1 ≤ L ∧ L ≤ 16) (hm : m ≤ 4) :
    ∀ (s f : Nat) (w : fx_U), s ≤ m + 1 → s < f → zz_gm so M br c2 E d wr w → (∀ q x : Nat, q < m + 1 - s → x ≤ d → w (M + 1 + q) x = zz_T wr L d q (d - x)) →
    ∃ w2 : fx_U, kL_X10_choose_c0_3 (m : Int) br so (L : Int) f ((m + 1 - s : Nat) : Int) w = kL_X10_choose_c0_76 br so (L : Int) (m : Int) 65 (m : Int) 0 0 w2 ∧ zz_gm so M br c2 E d wr w2 ∧ ∀ q x : Nat, q ≤ m → x ≤ d → w2 (M + 1 + q) x = zz_T wr L d q (d - x) := by
  intro s
  induction s with
  | zero =>
    intro f w _ hf hs hT
    obtain ⟨g, rfl⟩ : ∃ g : Nat, f = g + 1 := ⟨f - 1, by omega⟩
    have eK : kL_X10_choose_c0_3 (m : Int) br so (L : Int) (g + 1) ((m + 1 - 0 : Nat) : Int) w = kB_X10_choose_c0_3 (kL_X10_choose_c0_3 (m : Int) br so (L : Int) g) (m : Int) br so (L : Int) ((m + 1 - 0 : Nat) : Int) w := rfl
    rw [eK]
    unfold kB_X10_choose_c0_3 kJ_X10_choose_c0_67
    rw [if_pos (by omega), show Int.toNat (64 - 0) + 1 = 65 from rfl]
    exact ⟨w, rfl, hs, fun q x h1 h2 => hT q x (by omega) h2⟩
  | succ s ih =>
    intro f w h0 hf hs hT
    obtain ⟨g, rfl⟩ : ∃ g : Nat, f = g + 1 := ⟨f - 1, by omega⟩
    have eK : kL_X10_choose_c0_3 (m : Int) br so (L : Int) (g + 1) ((m + 1 - (s + 1) : Nat) : Int) w = kB_X10_choose_c0_3 (kL_X10_choose_c0_3 (m : Int) br so (L : Int) g) (m : Int) br so (L : Int) ((m + 1 - (s + 1) : Nat) : Int) w := rfl
    rw [eK]
    unfold kB_X10_choose_c0_3
    rw [if_neg (by omega), if_neg (by omega)]
    simp only [fz_lt, hs.1.2.2.1]
    rw [show Int.toNat ((d : Int) - (-1)) + 1 = d + 2 by omega]
    obtain ⟨w1, g1, g2, g3⟩ := zz_c21_c0 (R := kL_X10_choose_c0_3 (m : Int) br so (L : Int) g) (k := m + 1 - (s + 1)) hn hw hd hL (by omega) (d + 1) (d + 2) w (Nat.le_refl _) (by omega) hs hT (fun x h1 h2 => by omega)
    rw [show ((d + 1 : Nat) : Int) - 1 = (d : Int) by omega] at g1
    rw [g1, show ((m + 1 - (s + 1) : Nat) : Int) + 1 = ((m + 1 - s : Nat) : Int) by omega]
    exact ih g w1 (by omega) (by omega) g2 (fun q x h1 h2 => g3 q x (by omega) h2)
theorem zz_se_c0 {k : Nat} (hw : ∀ i, 0 ≤ wr i ∧ wr i ≤ 99) (hd : d ≤ 64) (hL : 1 ≤ L ∧ L ≤ 16) (hm : m ≤ 4) (hk : k + 1 ≤ m) (hs : zz_gm so M br c2 E d wr w) (hT : ∀ q x : Nat, q ≤ m → x ≤ d → w (M + 1 + q) x = zz_T wr L d q (d - x)) :
    ∀ (j f : Nat) (kk : Int), j ≤ d → j < f → (0 ≤ kk ∧ kk ≤ ((d - j : Nat) : Int)) → 0 ≤ zz_T wr L d (k + 1) j →
    ∃ (f2 : Nat) (kk2 : Int), zz_fd (zz_bg wr L d (zz_T wr L d k)) (zz_T wr L d (k + 1)) j - L < f2 ∧ (0 ≤ kk2 ∧ kk2 ≤ ((d - (zz_fd (zz_bg wr L d (zz_T wr L d k)) (zz_T wr L d (k + 1)) j - L) : Nat) : Int)) ∧ kL_X10_choose_c0_76 br so (L : Int) (m : Int) f ((k + 1 : Nat) : Int) ((d - j : Nat) : Int) kk w = kL_X10_choose_c0_76 br so (L : Int) (m : Int) f2 (k : Int) ((d - (zz_fd (zz_bg wr L d (zz_T wr L d k)) (zz_T wr L d (k + 1)) j - L) : Nat) : Int) kk2 (fx_pt w E (m - (k + 1)) ((d - zz_fd (zz_bg wr L d (zz_T wr L d k)) (zz_T wr L d (k + 1)) j : Nat) : Int)) := by
  intro j
  induction j with
  | zero =>
    intro f kk _ _ _ h
    have e : zz_T wr L d (k + 1) 0 = -1 := rfl
    omega
  | succ j ih =>
    intro f kk hj hf hkk h
    obtain ⟨g, rfl⟩ : ∃ g : Nat, f = g + 1 := ⟨f - 1, by omega⟩
    have eK : kL_X10_choose_c0_76 br so (L : Int) (m : Int) (g + 1) ((k + 1 : Nat) : Int) ((d - (j + 1) : Nat) : Int) kk w = kB_X10_choose_c0_76 (kL_X10_choose_c0_76 br so (L : Int) (m : Int) g) br so (L : Int) (m : Int) ((k + 1 : Nat) : Int) ((d - (j + 1) : Nat) : Int) kk w := rfl
    rw [eK]
    have mb := zz_mb (k := k) (i := d - (j + 1)) hs hw hd hL (by omega) (by omega) (fun x hx => hT k x (by omega) hx)
    rw [show d - (d - (j + 1)) = j + 1 by omega] at mb
    have e1 : w M (k + 1) = ((M + 1 + (k + 1) : Nat) : Int) := hs.2.1 (k + 1) (by omega)
    have e2 : w (M + 1 + (k + 1)) (d - (j + 1)) = zz_T wr L d (k + 1) (j + 1) := by
      rw [hT (k + 1) (d - (j + 1)) hk (by omega), show d - (d - (j + 1)) = j + 1 by omega]
    have no : ¬ (0 ≤ zz_bg wr L d (zz_T wr L d k) (j + 1) ∧ zz_bg wr L d (zz_T wr L d k) (j + 1) = zz_T wr L d (k + 1) (j + 1)) → ∃ (f2 : Nat) (kk2 : Int), zz_fd (zz_bg wr L d (zz_T wr L d k)) (zz_T wr L d (k + 1)) (j + 1) - L < f2 ∧ (0 ≤ kk2 ∧ kk2 ≤ ((d - (zz_fd (zz_bg wr L d (zz_T wr L d k)) (zz_T wr L d (k + 1)) (j + 1) - L) : Nat) : Int)) ∧ kJ_X10_choose_c0_154 ((d - (j + 1) : Nat) : Int) kk (kL_X10_choose_c0_76 br so (L : Int) (m : Int) g) ((k + 1 : Nat) : Int) w = kL_X10_choose_c0_76 br so (L : Int) (m : Int) f2 (k : Int) ((d - (zz_fd (zz_bg wr L d (zz_T wr L d k)) (zz_T wr L d (k + 1)) (j + 1) - L) : Nat) : Int) kk2 (fx_pt w E (m - (k + 1)) ((d - zz_fd (zz_bg wr L d (zz_T wr L d k)) (zz_T wr L d (k + 1)) (j + 1) : Nat) : Int)) := by
      intro q
      obtain ⟨z1, z2⟩ := zz_fd_no h q
      unfold kJ_X10_choose_c0_154 kJ_X10_choose_c0_157
      simp only [fz_lt]
      rw [z2, show ((d - (j + 1) : Nat) : Int) + 1 = ((d - j : Nat) : Int) by omega]
      exact ih g (kk + 1) (by omega) (by omega) ⟨by omega, by omega⟩ (by omega)
    unfold kB_X10_choose_c0_76
    simp only [fz_lt, hs.1.2.2.1]
    rw [if_pos (by omega), if_pos (by omega), if_pos (by omega)]
    simp only [mb]
    by_cases q1 : zz_bg wr L d (zz_T wr L d k) (j + 1) < 0
    · rw [if_pos q1]
      exact no (fun z => by omega)
    · rw [if_neg q1]
      simp only [fz_lr, hs.1.1, hs.1.2.1, Int.toNat_natCast, e1, e2]
      by_cases q2 : zz_bg wr L d (zz_T wr L d k) (j + 1) = zz_T wr L d (k + 1) (j + 1)
      · clear no
        have yes := zz_fd_yes (L := L) (d := d) (wr := wr) (k := k) (j := j) ⟨by omega, q2⟩
        have ok := zz_fd_ok (L := L) (d := d) (k := k) hw (j + 1) h
        rw [yes] at ok ⊢
        rw [if_pos q2]
        simp only [fz_ls]
        unfold kJ_X10_choose_c0_157
        simp only [fz_lt]
        rw [show ((m : Int) - ((k + 1 : Nat) : Int)).toNat = m - (k + 1) by omega, show ((k + 1 : Nat) : Int) + (-1) = (k : Int) by omega, show ((d - (j + 1) : Nat) : Int) + (L : Int) = ((d - (j + 1 - L) : Nat) : Int) by omega]
        exact ⟨g, kk + 1, by omega, ⟨by omega, by omega⟩, rfl⟩
      · rw [if_neg q2]
        exact no (fun z => q2 z.2)
theorem zz_al_c0 (hn : zz_gn so M br c2 E) (hw : ∀ i, 0 ≤ wr i ∧ wr i ≤ 99) (hd : d ≤ 64) (hL : 1 ≤ L ∧ L ≤ 16) (hm : m ≤ 4) (hmd : m * L ≤ d) :
    ∀ (s f : Nat) (kk : Int) (w : fx_U), s ≤ m → zz_J wr L d m (m - s) < f → (0 ≤ kk ∧ kk ≤ ((d - zz_J wr L d m (m - s) : Nat) : Int)) → zz_gm so M br c2 E d wr w → (∀ q x : Nat, q ≤ m → x ≤ d → w (M + 1 + q) x = zz_T wr L d q (d - x)) → (∀ q : Nat, q < m - s → w E q = ((d - zz_st wr L d m q : Nat) : Int)) →
    ∃ w2 : fx_U, kL_X10_choose_c0_76 br so (L : Int) (m : Int) f (s : Int) ((d - zz_J wr L d m (m - s) : Nat) : Int) kk w = (zz_T wr L d m d, w2) ∧ w2 so 1 = (E : Int) ∧ ∀ q : Nat, q < m → w2 E q = ((d - zz_st wr L d m q : Nat) : Int) := by
  intro s
  induction s with
  | zero =>
    intro f kk w _ hf hkk hs hT hE
    obtain ⟨g, rfl⟩ : ∃ g : Nat, f = g + 1 := ⟨f - 1, by omega⟩
    have eK : kL_X10_choose_c0_76 br so (L : Int) (m : Int) (g + 1) ((0 : Nat) : Int) ((d - zz_J wr L d m (m - 0) : Nat) : Int) kk w = kB_X10_choose_c0_76 (kL_X10_choose_c0_76 br so (L : Int) (m : Int) g) br so (L : Int) (m : Int) ((0 : Nat) : Int) ((d - zz_J wr L d m (m - 0) : Nat) : Int) kk w := rfl
    rw [eK]
    have e1 : w M m = ((M + 1 + m : Nat) : Int) := hs.2.1 m (by omega)
    have e2 : w (M + 1 + m) (Int.toNat 0) = zz_T wr L d m d := (hT m 0 (Nat.le_refl m) (Nat.zero_le d)).trans (by rw [Nat.sub_zero])
    have fin : kJ_X10_choose_c0_163 w so (m : Int) = (zz_T wr L d m d, w) := by
      unfold kJ_X10_choose_c0_163
      simp only [fz_lt, fz_lr, hs.1.1, Int.toNat_natCast, e1, e2]
    unfold kB_X10_choose_c0_76
    simp only [fz_lt, hs.1.2.2.1, fin]
    rw [if_neg (show ¬ (0 : Int) < ((0 : Nat) : Int) by omega)]
    refine ⟨w, ?_, hs.1.2.1, fun q h => hE q (by omega)⟩
    by_cases q : kk < (d : Int)
    · rw [if_pos q]
    · rw [if_neg q]
  | succ s ih =>
    intro f kk w h0 hf hkk hs hT hE
    have jo := zz_J_ok (L := L) (d := d) (m := m) hw hL.1 hmd (m - (s + 1)) (by omega)
    rw [show m - (m - (s + 1)) = s + 1 by omega] at jo
    obtain ⟨f2, kk2, g1, g2, g3⟩ := zz_se_c0 (k := s) hw hd hL hm h0 hs hT (zz_J wr L d m (m - (s + 1))) f kk jo.1 hf hkk jo.2
    have eS : zz_st wr L d m (m - (s + 1)) = zz_fd (zz_bg wr L d (zz_T wr L d s)) (zz_T wr L d (s + 1)) (zz_J wr L d m (m - (s + 1))) := by
      unfold zz_st
      rw [show m - (m - (s + 1)) - 1 = s by omega]
    have eJ : zz_J wr L d m (m - s) = zz_st wr L d m (m - (s + 1)) - L := by
      rw [show m - s = m - (s + 1) + 1 by omega]
      rfl
    rw [← eS, ← eJ] at g1 g2 g3
    rw [g3]
    refine ih f2 kk2 _ (by omega) g1 g2 (hs.st hn) (fun q x h1 h2 => ?_) (fun q h1 => ?_)
    · rw [zz_pa (Ne.symm (hn.1 q (by omega)).2.2.2)]
      exact hT q x h1 h2
    · by_cases e : q = m - (s + 1)
      · rw [e, zz_ps]
      · rw [zz_pj e]
        exact hE q (by omega)
theorem zz_ch_c0 (hn : zz_gn so M br c2 E) (hw : ∀ i, 0 ≤ wr i ∧ wr i ≤ 99) (hd : d ≤ 64) (hL : 1 ≤ L ∧ L ≤ 16) (hm : m ≤ 4) (hmd : m * L ≤ d) (hs : zz_gm so M br c2 E d wr w) : ∃ w2 : fx_U, kL_X10_choose_c0_3 (m : Int) br so (L : Int) (m + 2) 0 w = (zz_T wr L d m d, w2) ∧ w2 so 1 = (E : Int) ∧ ∀ q : Nat, q < m → w2 E q = ((d - zz_st wr L d m q : Nat) : Int) := by
  obtain ⟨w1, g1, g2, g3⟩ := zz_c3_c0 hn hw hd hL hm (m + 1) (m + 2) w (Nat.le_refl _) (by omega) hs (fun q x h => by omega)
  rw [show ((m + 1 - (m + 1) : Nat) : Int) = 0 by omega] at g1
  rw [g1]
  have e0 : zz_J wr L d m (m - m) = d := by
    rw [Nat.sub_self]
    rfl
  have z := zz_al_c0 hn hw hd hL hm hmd m 65 0 w1 (Nat.le_refl m) (by rw [e0]; omega) ⟨Int.le_refl 0, by rw [e0]; omega⟩ g2 g3 (fun q h => by omega)
  rw [e0, Nat.sub_self, show ((0 : Nat) : Int) = 0 from rfl] at z
  exact z
theorem zz_c21_c1 {R : Int → fx_U → Int × fx_U} {k : Nat} (hn : zz_gn so M br c2 E) (hw : ∀ i, 0 ≤ wr i ∧ wr i ≤ 99) (hd : d ≤ 64) (hL : 1 ≤ L ∧ L ≤ 16) (hk : k ≤ 4) :
    ∀ (t f : Nat) (w : fx_U), t ≤ d + 1 → t < f → zz_gm so M br c2 E d wr w → (∀ q x : Nat, q < k → x ≤ d → w (M + 1 + q) x = zz_T wr L d q (d - x)) → (∀ x : Nat, t ≤ x → x ≤ d → w (M + 1 + k) x = zz_T wr L d k (d - x)) →
    ∃ w2 : fx_U, kL_X10_choose_c1_21 (k : Int) R so br (L : Int) f ((t : Int) - 1) w = R ((k : Int) + 1) w2 ∧ zz_gm so M br c2 E d wr w2 ∧ ∀ q x : Nat, q ≤ k → x ≤ d → w2 (M + 1 + q) x = zz_T wr L d q (d - x) := by
  intro t
  induction t with
  | zero =>
    intro f w _ hf hs hT hN
    obtain ⟨g, rfl⟩ : ∃ g : Nat, f = g + 1 := ⟨f - 1, by omega⟩
    have eK : kL_X10_choose_c1_21 (k : Int) R so br (L : Int) (g + 1) (((0 : Nat) : Int) - 1) w = kB_X10_choose_c1_21 (kL_X10_choose_c1_21 (k : Int) R so br (L : Int) g) (k : Int) R so br (L : Int) (((0 : Nat) : Int) - 1) w := rfl
    rw [eK]
    unfold kB_X10_choose_c1_21
    rw [if_pos (by omega)]
    simp only [fz_lt]
    refine ⟨w, rfl, hs, fun q x h1 h2 => ?_⟩
    by_cases e : q = k
    · rw [e]
      exact hN x (Nat.zero_le x) h2
    · exact hT q x (by omega) h2
  | succ i ih =>
    intro f w ht hf hs hT hN
    obtain ⟨g, rfl⟩ : ∃ g : Nat, f = g + 1 := ⟨f - 1, by omega⟩
    rw [show ((i + 1 : Nat) : Int) - 1 = (i : Int) by omega]
    have eK : kL_X10_choose_c1_21 (k : Int) R so br (L : Int) (g + 1) (i : Int) w = kB_X10_choose_c1_21 (kL_X10_choose_c1_21 (k : Int) R so br (L : Int) g) (k : Int) R so br (L : Int) (i : Int) w := rfl
    rw [eK]
    have one : ∀ z : Int, z = zz_T wr L d k (d - i) → ∃ w2 : fx_U, kJ_X10_choose_c1_54 w (M + 1 + k) (i : Int) (kL_X10_choose_c1_21 (k : Int) R so br (L : Int) g) z = R ((k : Int) + 1) w2 ∧ zz_gm so M br c2 E d wr w2 ∧ ∀ q x : Nat, q ≤ k → x ≤ d → w2 (M + 1 + q) x = zz_T wr L d q (d - x) := by
      intro z hz
      unfold kJ_X10_choose_c1_54
      simp only [fz_lt, fz_ls, Int.toNat_natCast]
      rw [show (i : Int) + (-1) = (i : Int) - 1 by omega]
      refine ih g _ (by omega) (by omega) (hs.row hn (by omega)) (fun q x h1 h2 => ?_) (fun x h1 h2 => ?_)
      · rw [zz_pa (by omega)]
        exact hT q x h1 h2
      · by_cases e : x = i
        · rw [e, zz_ps, hz]
        · rw [zz_pj e]
          exact hN x (by omega) h2
    have e1 : w M k = ((M + 1 + k : Nat) : Int) := hs.2.1 k (by omega)
    unfold kB_X10_choose_c1_21
    rw [if_neg (by omega)]
    simp only [fz_lt, fz_lr, hs.1.1, Int.toNat_natCast, e1]
    by_cases e : k = 0
    · rw [if_pos (show (k : Int) = 0 by omega)]
      exact one 0 (by rw [e]; rfl)
    · obtain ⟨p, rfl⟩ : ∃ p : Nat, k = p + 1 := ⟨k - 1, by omega⟩
      rw [if_neg (show ¬ ((p + 1 : Nat) : Int) = 0 by omega)]
      exact one _ (zz_mf hs hw hd hL (by omega) (by omega) (fun x h => hT p x (by omega) h) (fun x h1 h2 => hN x (by omega) h2))
theorem zz_c3_c1 (hn : zz_gn so M br c2 E) (hw : ∀ i, 0 ≤ wr i ∧ wr i ≤ 99) (hd : d ≤ 64) (hL : 1 ≤ L ∧ L ≤ 16) (hm : m ≤ 4) :
    ∀ (s f : Nat) (w : fx_U), s ≤ m + 1 → s < f → zz_gm so M br c2 E d wr w → (∀ q x : Nat, q < m + 1 - s → x ≤ d → w (M + 1 + q) x = zz_T wr L d q (d - x)) →
    ∃ w2 : fx_U, kL_X10_choose_c1_3 (m : Int) br so (L : Int) f ((m + 1 - s : Nat) : Int) w = kL_X10_choose_c1_76 br so (L : Int) (m : Int) 65 (m : Int) 0 0 w2 ∧ zz_gm so M br c2 E d wr w2 ∧ ∀ q x : Nat, q ≤ m → x ≤ d → w2 (M + 1 + q) x = zz_T wr L d q (d - x) := by
  intro s
  induction s with
  | zero =>
    intro f w _ hf hs hT
    obtain ⟨g, rfl⟩ : ∃ g : Nat, f = g + 1 := ⟨f - 1, by omega⟩
    have eK : kL_X10_choose_c1_3 (m : Int) br so (L : Int) (g + 1) ((m + 1 - 0 : Nat) : Int) w = kB_X10_choose_c1_3 (kL_X10_choose_c1_3 (m : Int) br so (L : Int) g) (m : Int) br so (L : Int) ((m + 1 - 0 : Nat) : Int) w := rfl
    rw [eK]
    unfold kB_X10_choose_c1_3 kJ_X10_choose_c1_67
    rw [if_pos (by omega), show Int.toNat (64 - 0) + 1 = 65 from rfl]
    exact ⟨w, rfl, hs, fun q x h1 h2 => hT q x (by omega) h2⟩
  | succ s ih =>
    intro f w h0 hf hs hT
    obtain ⟨g, rfl⟩ : ∃ g : Nat, f = g + 1 := ⟨f - 1, by omega⟩
    have eK : kL_X10_choose_c1_3 (m : Int) br so (L : Int) (g + 1) ((m + 1 - (s + 1) : Nat) : Int) w = kB_X10_choose_c1_3 (kL_X10_choose_c1_3 (m : Int) br so (L : Int) g) (m : Int) br so (L : Int) ((m + 1 - (s + 1) : Nat) : Int) w := rfl
    rw [eK]
    unfold kB_X10_choose_c1_3
    rw [if_neg (by omega), if_neg (by omega)]
    simp only [fz_lt, hs.1.2.2.1]
    rw [show Int.toNat ((d : Int) - (-1)) + 1 = d + 2 by omega]
    obtain ⟨w1, g1, g2, g3⟩ := zz_c21_c1 (R := kL_X10_choose_c1_3 (m : Int) br so (L : Int) g) (k := m + 1 - (s + 1)) hn hw hd hL (by omega) (d + 1) (d + 2) w (Nat.le_refl _) (by omega) hs hT (fun x h1 h2 => by omega)
    rw [show ((d + 1 : Nat) : Int) - 1 = (d : Int) by omega] at g1
    rw [g1, show ((m + 1 - (s + 1) : Nat) : Int) + 1 = ((m + 1 - s : Nat) : Int) by omega]
    exact ih g w1 (by omega) (by omega) g2 (fun q x h1 h2 => g3 q x (by omega) h2)
theorem zz_se_c1 {k : Nat} (hw : ∀ i, 0 ≤ wr i ∧ wr i ≤ 99) (hd : d ≤ 64) (hL : 1 ≤ L ∧ L ≤ 16) (hm : m ≤ 4) (hk : k + 1 ≤ m) (hs : zz_gm so M br c2 E d wr w) (hT : ∀ q x : Nat, q ≤ m → x ≤ d → w (M + 1 + q) x = zz_T wr L d q (d - x)) :
    ∀ (j f : Nat) (kk : Int), j ≤ d → j < f → (0 ≤ kk ∧ kk ≤ ((d - j : Nat) : Int)) → 0 ≤ zz_T wr L d (k + 1) j →
    ∃ (f2 : Nat) (kk2 : Int), zz_fd (zz_bg wr L d (zz_T wr L d k)) (zz_T wr L d (k + 1)) j - L < f2 ∧ (0 ≤ kk2 ∧ kk2 ≤ ((d - (zz_fd (zz_bg wr L d (zz_T wr L d k)) (zz_T wr L d (k + 1)) j - L) : Nat) : Int)) ∧ kL_X10_choose_c1_76 br so (L : Int) (m : Int) f ((k + 1 : Nat) : Int) ((d - j : Nat) : Int) kk w = kL_X10_choose_c1_76 br so (L : Int) (m : Int) f2 (k : Int) ((d - (zz_fd (zz_bg wr L d (zz_T wr L d k)) (zz_T wr L d (k + 1)) j - L) : Nat) : Int) kk2 (fx_pt w E (m - (k + 1)) ((d - zz_fd (zz_bg wr L d (zz_T wr L d k)) (zz_T wr L d (k + 1)) j : Nat) : Int)) := by
  intro j
  induction j with
  | zero =>
    intro f kk _ _ _ h
    have e : zz_T wr L d (k + 1) 0 = -1 := rfl
    omega
  | succ j ih =>
    intro f kk hj hf hkk h
    obtain ⟨g, rfl⟩ : ∃ g : Nat, f = g + 1 := ⟨f - 1, by omega⟩
    have eK : kL_X10_choose_c1_76 br so (L : Int) (m : Int) (g + 1) ((k + 1 : Nat) : Int) ((d - (j + 1) : Nat) : Int) kk w = kB_X10_choose_c1_76 (kL_X10_choose_c1_76 br so (L : Int) (m : Int) g) br so (L : Int) (m : Int) ((k + 1 : Nat) : Int) ((d - (j + 1) : Nat) : Int) kk w := rfl
    rw [eK]
    have mb := zz_mb (k := k) (i := d - (j + 1)) hs hw hd hL (by omega) (by omega) (fun x hx => hT k x (by omega) hx)
    rw [show d - (d - (j + 1)) = j + 1 by omega] at mb
    have e1 : w M (k + 1) = ((M + 1 + (k + 1) : Nat) : Int) := hs.2.1 (k + 1) (by omega)
    have e2 : w (M + 1 + (k + 1)) (d - (j + 1)) = zz_T wr L d (k + 1) (j + 1) := by
      rw [hT (k + 1) (d - (j + 1)) hk (by omega), show d - (d - (j + 1)) = j + 1 by omega]
    have no : ¬ (0 ≤ zz_bg wr L d (zz_T wr L d k) (j + 1) ∧ zz_bg wr L d (zz_T wr L d k) (j + 1) = zz_T wr L d (k + 1) (j + 1)) → ∃ (f2 : Nat) (kk2 : Int), zz_fd (zz_bg wr L d (zz_T wr L d k)) (zz_T wr L d (k + 1)) (j + 1) - L < f2 ∧ (0 ≤ kk2 ∧ kk2 ≤ ((d - (zz_fd (zz_bg wr L d (zz_T wr L d k)) (zz_T wr L d (k + 1)) (j + 1) - L) : Nat) : Int)) ∧ kJ_X10_choose_c1_154 ((d - (j + 1) : Nat) : Int) kk (kL_X10_choose_c1_76 br so (L : Int) (m : Int) g) ((k + 1 : Nat) : Int) w = kL_X10_choose_c1_76 br so (L : Int) (m : Int) f2 (k : Int) ((d - (zz_fd (zz_bg wr L d (zz_T wr L d k)) (zz_T wr L d (k + 1)) (j + 1) - L) : Nat) : Int) kk2 (fx_pt w E (m - (k + 1)) ((d - zz_fd (zz_bg wr L d (zz_T wr L d k)) (zz_T wr L d (k + 1)) (j + 1) : Nat) : Int)) := by
      intro q
      obtain ⟨z1, z2⟩ := zz_fd_no h q
      unfold kJ_X10_choose_c1_154 kJ_X10_choose_c1_157
      simp only [fz_lt]
      rw [z2, show ((d - (j + 1) : Nat) : Int) + 1 = ((d - j : Nat) : Int) by omega]
      exact ih g (kk + 1) (by omega) (by omega) ⟨by omega, by omega⟩ (by omega)
    unfold kB_X10_choose_c1_76
    simp only [fz_lt, hs.1.2.2.1]
    rw [if_pos (by omega), if_pos (by omega), if_pos (by omega)]
    simp only [mb]
    by_cases q1 : zz_bg wr L d (zz_T wr L d k) (j + 1) < 0
    · rw [if_pos q1]
      exact no (fun z => by omega)
    · rw [if_neg q1]
      simp only [fz_lr, hs.1.1, hs.1.2.1, Int.toNat_natCast, e1, e2]
      by_cases q2 : zz_bg wr L d (zz_T wr L d k) (j + 1) = zz_T wr L d (k + 1) (j + 1)
      · clear no
        have yes := zz_fd_yes (L := L) (d := d) (wr := wr) (k := k) (j := j) ⟨by omega, q2⟩
        have ok := zz_fd_ok (L := L) (d := d) (k := k) hw (j + 1) h
        rw [yes] at ok ⊢
        rw [if_pos q2]
        simp only [fz_ls]
        unfold kJ_X10_choose_c1_157
        simp only [fz_lt]
        rw [show ((m : Int) - ((k + 1 : Nat) : Int)).toNat = m - (k + 1) by omega, show ((k + 1 : Nat) : Int) + (-1) = (k : Int) by omega, show ((d - (j + 1) : Nat) : Int) + (L : Int) = ((d - (j + 1 - L) : Nat) : Int) by omega]
        exact ⟨g, kk + 1, by omega, ⟨by omega, by omega⟩, rfl⟩
      · rw [if_neg q2]
        exact no (fun z => q2 z.2)
theorem zz_al_c1 (hn : zz_gn so M br c2 E) (hw : ∀ i, 0 ≤ wr i ∧ wr i ≤ 99) (hd : d ≤ 64) (hL : 1 ≤ L ∧ L ≤ 16) (hm : m ≤ 4) (hmd : m * L ≤ d) :
    ∀ (s f : Nat) (kk : Int) (w : fx_U), s ≤ m → zz_J wr L d m (m - s) < f → (0 ≤ kk ∧ kk ≤ ((d - zz_J wr L d m (m - s) : Nat) : Int)) → zz_gm so M br c2 E d wr w → (∀ q x : Nat, q ≤ m → x ≤ d → w (M + 1 + q) x = zz_T wr L d q (d - x)) → (∀ q : Nat, q < m - s → w E q = ((d - zz_st wr L d m q : Nat) : Int)) →
    ∃ w2 : fx_U, kL_X10_choose_c1_76 br so (L : Int) (m : Int) f (s : Int) ((d - zz_J wr L d m (m - s) : Nat) : Int) kk w = (zz_T wr L d m d, w2) ∧ w2 so 1 = (E : Int) ∧ ∀ q : Nat, q < m → w2 E q = ((d - zz_st wr L d m q : Nat) : Int) := by
  intro s
  induction s with
  | zero =>
    intro f kk w _ hf hkk hs hT hE
    obtain ⟨g, rfl⟩ : ∃ g : Nat, f = g + 1 := ⟨f - 1, by omega⟩
    have eK : kL_X10_choose_c1_76 br so (L : Int) (m : Int) (g + 1) ((0 : Nat) : Int) ((d - zz_J wr L d m (m - 0) : Nat) : Int) kk w = kB_X10_choose_c1_76 (kL_X10_choose_c1_76 br so (L : Int) (m : Int) g) br so (L : Int) (m : Int) ((0 : Nat) : Int) ((d - zz_J wr L d m (m - 0) : Nat) : Int) kk w := rfl
    rw [eK]
    have e1 : w M m = ((M + 1 + m : Nat) : Int) := hs.2.1 m (by omega)
    have e2 : w (M + 1 + m) (Int.toNat 0) = zz_T wr L d m d := (hT m 0 (Nat.le_refl m) (Nat.zero_le d)).trans (by rw [Nat.sub_zero])
    have fin : kJ_X10_choose_c1_163 w so (m : Int) = (zz_T wr L d m d, w) := by
      unfold kJ_X10_choose_c1_163
      simp only [fz_lt, fz_lr, hs.1.1, Int.toNat_natCast, e1, e2]
    unfold kB_X10_choose_c1_76
    simp only [fz_lt, hs.1.2.2.1, fin]
    rw [if_neg (show ¬ (0 : Int) < ((0 : Nat) : Int) by omega)]
    refine ⟨w, ?_, hs.1.2.1, fun q h => hE q (by omega)⟩
    by_cases q : kk < (d : Int)
    · rw [if_pos q]
    · rw [if_neg q]
  | succ s ih =>
    intro f kk w h0 hf hkk hs hT hE
    have jo := zz_J_ok (L := L) (d := d) (m := m) hw hL.1 hmd (m - (s + 1)) (by omega)
    rw [show m - (m - (s + 1)) = s + 1 by omega] at jo
    obtain ⟨f2, kk2, g1, g2, g3⟩ := zz_se_c1 (k := s) hw hd hL hm h0 hs hT (zz_J wr L d m (m - (s + 1))) f kk jo.1 hf hkk jo.2
    have eS : zz_st wr L d m (m - (s + 1)) = zz_fd (zz_bg wr L d (zz_T wr L d s)) (zz_T wr L d (s + 1)) (zz_J wr L d m (m - (s + 1))) := by
      unfold zz_st
      rw [show m - (m - (s + 1)) - 1 = s by omega]
    have eJ : zz_J wr L d m (m - s) = zz_st wr L d m (m - (s + 1)) - L := by
      rw [show m - s = m - (s + 1) + 1 by omega]
      rfl
    rw [← eS, ← eJ] at g1 g2 g3
    rw [g3]
    refine ih f2 kk2 _ (by omega) g1 g2 (hs.st hn) (fun q x h1 h2 => ?_) (fun q h1 => ?_)
    · rw [zz_pa (Ne.symm (hn.1 q (by omega)).2.2.2)]
      exact hT q x h1 h2
    · by_cases e : q = m - (s + 1)
      · rw [e, zz_ps]
      · rw [zz_pj e]
        exact hE q (by omega)
theorem zz_ch_c1 (hn : zz_gn so M br c2 E) (hw : ∀ i, 0 ≤ wr i ∧ wr i ≤ 99) (hd : d ≤ 64) (hL : 1 ≤ L ∧ L ≤ 16) (hm : m ≤ 4) (hmd : m * L ≤ d) (hs : zz_gm so M br c2 E d wr w) : ∃ w2 : fx_U, kL_X10_choose_c1_3 (m : Int) br so (L : Int) (m + 2) 0 w = (zz_T wr L d m d, w2) ∧ w2 so 1 = (E : Int) ∧ ∀ q : Nat, q < m → w2 E q = ((d - zz_st wr L d m q : Nat) : Int) := by
  obtain ⟨w1, g1, g2, g3⟩ := zz_c3_c1 hn hw hd hL hm (m + 1) (m + 2) w (Nat.le_refl _) (by omega) hs (fun q x h => by omega)
  rw [show ((m + 1 - (m + 1) : Nat) : Int) = 0 by omega] at g1
  rw [g1]
  have e0 : zz_J wr L d m (m - m) = d := by
    rw [Nat.sub_self]
    rfl
  have z := zz_al_c1 hn hw hd hL hm hmd m 65 0 w1 (Nat.le_refl m) (by rw [e0]; omega) ⟨Int.le_refl 0, by rw [e0]; omega⟩ g2 g3 (fun q h => by omega)
  rw [e0, Nat.sub_self, show ((0 : Nat) : Int) = 0 from rfl] at z
  exact z
theorem zz_c21_c2 {R : Int → fx_U → Int × fx_U} {k : Nat} (hn : zz_gn so M br c2 E) (hw : ∀ i, 0 ≤ wr i ∧ wr i ≤ 99) (hd : d ≤ 64) (hL : 1 ≤ L ∧ L ≤ 16) (hk : k ≤ 4) :
    ∀ (t f : Nat) (w : fx_U), t ≤ d + 1 → t < f → zz_gm so M br c2 E d wr w → (∀ q x : Nat, q < k → x ≤ d → w (M + 1 + q) x = zz_T wr L d q (d - x)) → (∀ x : Nat, t ≤ x → x ≤ d → w (M + 1 + k) x = zz_T wr L d k (d - x)) →
    ∃ w2 : fx_U, kL_X10_choose_c2_21 (k : Int) R so br (L : Int) f ((t : Int) - 1) w = R ((k : Int) + 1) w2 ∧ zz_gm so M br c2 E d wr w2 ∧ ∀ q x : Nat, q ≤ k → x ≤ d → w2 (M + 1 + q) x = zz_T wr L d q (d - x) := by
  intro t
  induction t with
  | zero =>
    intro f w _ hf hs hT hN
    obtain ⟨g, rfl⟩ : ∃ g : Nat, f = g + 1 := ⟨f - 1, by omega⟩
    have eK : kL_X10_choose_c2_21 (k : Int) R so br (L : Int) (g + 1) (((0 : Nat) : Int) - 1) w = kB_X10_choose_c2_21 (kL_X10_choose_c2_21 (k : Int) R so br (L : Int) g) (k : Int) R so br (L : Int) (((0 : Nat) : Int) - 1) w := rfl
    rw [eK]
    unfold kB_X10_choose_c2_21
    rw [if_pos (by omega)]
    simp only [fz_lt]
    refine ⟨w, rfl, hs, fun q x h1 h2 => ?_⟩
    by_cases e : q = k
    · rw [e]
      exact hN x (Nat.zero_le x) h2
    · exact hT q x (by omega) h2
  | succ i ih =>
    intro f w ht hf hs hT hN
    obtain ⟨g, rfl⟩ : ∃ g : Nat, f = g + 1 := ⟨f - 1, by omega⟩
    rw [show ((i + 1 : Nat) : Int) - 1 = (i : Int) by omega]
    have eK : kL_X10_choose_c2_21 (k : Int) R so br (L : Int) (g + 1) (i : Int) w = kB_X10_choose_c2_21 (kL_X10_choose_c2_21 (k : Int) R so br (L : Int) g) (k : Int) R so br (L : Int) (i : Int) w := rfl
    rw [eK]
    have one : ∀ z : Int, z = zz_T wr L d k (d - i) → ∃ w2 : fx_U, kJ_X10_choose_c2_54 w (M + 1 + k) (i : Int) (kL_X10_choose_c2_21 (k : Int) R so br (L : Int) g) z = R ((k : Int) + 1) w2 ∧ zz_gm so M br c2 E d wr w2 ∧ ∀ q x : Nat, q ≤ k → x ≤ d → w2 (M + 1 + q) x = zz_T wr L d q (d - x) := by
      intro z hz
      unfold kJ_X10_choose_c2_54
      simp only [fz_lt, fz_ls, Int.toNat_natCast]
      rw [show (i : Int) + (-1) = (i : Int) - 1 by omega]
      refine ih g _ (by omega) (by omega) (hs.row hn (by omega)) (fun q x h1 h2 => ?_) (fun x h1 h2 => ?_)
      · rw [zz_pa (by omega)]
        exact hT q x h1 h2
      · by_cases e : x = i
        · rw [e, zz_ps, hz]
        · rw [zz_pj e]
          exact hN x (by omega) h2
    have e1 : w M k = ((M + 1 + k : Nat) : Int) := hs.2.1 k (by omega)
    unfold kB_X10_choose_c2_21
    rw [if_neg (by omega)]
    simp only [fz_lt, fz_lr, hs.1.1, Int.toNat_natCast, e1]
    by_cases e : k = 0
    · rw [if_pos (show (k : Int) = 0 by omega)]
      exact one 0 (by rw [e]; rfl)
    · obtain ⟨p, rfl⟩ : ∃ p : Nat, k = p + 1 := ⟨k - 1, by omega⟩
      rw [if_neg (show ¬ ((p + 1 : Nat) : Int) = 0 by omega)]
      exact one _ (zz_mf hs hw hd hL (by omega) (by omega) (fun x h => hT p x (by omega) h) (fun x h1 h2 => hN x (by omega) h2))
theorem zz_c3_c2 (hn : zz_gn so M br c2 E) (hw : ∀ i, 0 ≤ wr i ∧ wr i ≤ 99) (hd : d ≤ 64) (hL : 1 ≤ L ∧ L ≤ 16) (hm : m ≤ 4) :
    ∀ (s f : Nat) (w : fx_U), s ≤ m + 1 → s < f → zz_gm so M br c2 E d wr w → (∀ q x : Nat, q < m + 1 - s → x ≤ d → w (M + 1 + q) x = zz_T wr L d q (d - x)) →
    ∃ w2 : fx_U, kL_X10_choose_c2_3 (m : Int) br so (L : Int) f ((m + 1 - s : Nat) : Int) w = kL_X10_choose_c2_76 br so (L : Int) (m : Int) 65 (m : Int) 0 0 w2 ∧ zz_gm so M br c2 E d wr w2 ∧ ∀ q x : Nat, q ≤ m → x ≤ d → w2 (M + 1 + q) x = zz_T wr L d q (d - x) := by
  intro s
  induction s with
  | zero =>
    intro f w _ hf hs hT
    obtain ⟨g, rfl⟩ : ∃ g : Nat, f = g + 1 := ⟨f - 1, by omega⟩
    have eK : kL_X10_choose_c2_3 (m : Int) br so (L : Int) (g + 1) ((m + 1 - 0 : Nat) : Int) w = kB_X10_choose_c2_3 (kL_X10_choose_c2_3 (m : Int) br so (L : Int) g) (m : Int) br so (L : Int) ((m + 1 - 0 : Nat) : Int) w := rfl
    rw [eK]
    unfold kB_X10_choose_c2_3 kJ_X10_choose_c2_67
    rw [if_pos (by omega), show Int.toNat (64 - 0) + 1 = 65 from rfl]
    exact ⟨w, rfl, hs, fun q x h1 h2 => hT q x (by omega) h2⟩
  | succ s ih =>
    intro f w h0 hf hs hT
    obtain ⟨g, rfl⟩ : ∃ g : Nat, f = g + 1 := ⟨f - 1, by omega⟩
    have eK : kL_X10_choose_c2_3 (m : Int) br so (L : Int) (g + 1) ((m + 1 - (s + 1) : Nat) : Int) w = kB_X10_choose_c2_3 (kL_X10_choose_c2_3 (m : Int) br so (L : Int) g) (m : Int) br so (L : Int) ((m + 1 - (s + 1) : Nat) : Int) w := rfl
    rw [eK]
    unfold kB_X10_choose_c2_3
    rw [if_neg (by omega), if_neg (by omega)]
    simp only [fz_lt, hs.1.2.2.1]
    rw [show Int.toNat ((d : Int) - (-1)) + 1 = d + 2 by omega]
    obtain ⟨w1, g1, g2, g3⟩ := zz_c21_c2 (R := kL_X10_choose_c2_3 (m : Int) br so (L : Int) g) (k := m + 1 - (s + 1)) hn hw hd hL (by omega) (d + 1) (d + 2) w (Nat.le_refl _) (by omega) hs hT (fun x h1 h2 => by omega)
    rw [show ((d + 1 : Nat) : Int) - 1 = (d : Int) by omega] at g1
    rw [g1, show ((m + 1 - (s + 1) : Nat) : Int) + 1 = ((m + 1 - s : Nat) : Int) by omega]
    exact ih g w1 (by omega) (by omega) g2 (fun q x h1 h2 => g3 q x (by omega) h2)
theorem zz_se_c2 {k : Nat} (hw : ∀ i, 0 ≤ wr i ∧ wr i ≤ 99) (hd : d ≤ 64) (hL : 1 ≤ L ∧ L ≤ 16) (hm : m ≤ 4) (hk : k + 1 ≤ m) (hs : zz_gm so M br c2 E d wr w) (hT : ∀ q x : Nat, q ≤ m → x ≤ d → w (M + 1 + q) x = zz_T wr L d q (d - x)) :
    ∀ (j f : Nat) (kk : Int), j ≤ d → j < f → (0 ≤ kk ∧ kk ≤ ((d - j : Nat) : Int)) → 0 ≤ zz_T wr L d (k + 1) j →
    ∃ (f2 : Nat) (kk2 : Int), zz_fd (zz_bg wr L d (zz_T wr L d k)) (zz_T wr L d (k + 1)) j - L < f2 ∧ (0 ≤ kk2 ∧ kk2 ≤ ((d - (zz_fd (zz_bg wr L d (zz_T wr L d k)) (zz_T wr L d (k + 1)) j - L) : Nat) : Int)) ∧ kL_X10_choose_c2_76 br so (L : Int) (m : Int) f ((k + 1 : Nat) : Int) ((d - j : Nat) : Int) kk w = kL_X10_choose_c2_76 br so (L : Int) (m : Int) f2 (k : Int) ((d - (zz_fd (zz_bg wr L d (zz_T wr L d k)) (zz_T wr L d (k + 1)) j - L) : Nat) : Int) kk2 (fx_pt w E (m - (k + 1)) ((d - zz_fd (zz_bg wr L d (zz_T wr L d k)) (zz_T wr L d (k + 1)) j : Nat) : Int)) := by
  intro j
  induction j with
  | zero =>
    intro f kk _ _ _ h
    have e : zz_T wr L d (k + 1) 0 = -1 := rfl
    omega
  | succ j ih =>
    intro f kk hj hf hkk h
    obtain ⟨g, rfl⟩ : ∃ g : Nat, f = g + 1 := ⟨f - 1, by omega⟩
    have eK : kL_X10_choose_c2_76 br so (L : Int) (m : Int) (g + 1) ((k + 1 : Nat) : Int) ((d - (j + 1) : Nat) : Int) kk w = kB_X10_choose_c2_76 (kL_X10_choose_c2_76 br so (L : Int) (m : Int) g) br so (L : Int) (m : Int) ((k + 1 : Nat) : Int) ((d - (j + 1) : Nat) : Int) kk w := rfl
    rw [eK]
    have mb := zz_mb (k := k) (i := d - (j + 1)) hs hw hd hL (by omega) (by omega) (fun x hx => hT k x (by omega) hx)
    rw [show d - (d - (j + 1)) = j + 1 by omega] at mb
    have e1 : w M (k + 1) = ((M + 1 + (k + 1) : Nat) : Int) := hs.2.1 (k + 1) (by omega)
    have e2 : w (M + 1 + (k + 1)) (d - (j + 1)) = zz_T wr L d (k + 1) (j + 1) := by
      rw [hT (k + 1) (d - (j + 1)) hk (by omega), show d - (d - (j + 1)) = j + 1 by omega]
    have no : ¬ (0 ≤ zz_bg wr L d (zz_T wr L d k) (j + 1) ∧ zz_bg wr L d (zz_T wr L d k) (j + 1) = zz_T wr L d (k + 1) (j + 1)) → ∃ (f2 : Nat) (kk2 : Int), zz_fd (zz_bg wr L d (zz_T wr L d k)) (zz_T wr L d (k + 1)) (j + 1) - L < f2 ∧ (0 ≤ kk2 ∧ kk2 ≤ ((d - (zz_fd (zz_bg wr L d (zz_T wr L d k)) (zz_T wr L d (k + 1)) (j + 1) - L) : Nat) : Int)) ∧ kJ_X10_choose_c2_154 ((d - (j + 1) : Nat) : Int) kk (kL_X10_choose_c2_76 br so (L : Int) (m : Int) g) ((k + 1 : Nat) : Int) w = kL_X10_choose_c2_76 br so (L : Int) (m : Int) f2 (k : Int) ((d - (zz_fd (zz_bg wr L d (zz_T wr L d k)) (zz_T wr L d (k + 1)) (j + 1) - L) : Nat) : Int) kk2 (fx_pt w E (m - (k + 1)) ((d - zz_fd (zz_bg wr L d (zz_T wr L d k)) (zz_T wr L d (k + 1)) (j + 1) : Nat) : Int)) := by
      intro q
      obtain ⟨z1, z2⟩ := zz_fd_no h q
      unfold kJ_X10_choose_c2_154 kJ_X10_choose_c2_157
      simp only [fz_lt]
      rw [z2, show ((d - (j + 1) : Nat) : Int) + 1 = ((d - j : Nat) : Int) by omega]
      exact ih g (kk + 1) (by omega) (by omega) ⟨by omega, by omega⟩ (by omega)
    unfold kB_X10_choose_c2_76
    simp only [fz_lt, hs.1.2.2.1]
    rw [if_pos (by omega), if_pos (by omega), if_pos (by omega)]
    simp only [mb]
    by_cases q1 : zz_bg wr L d (zz_T wr L d k) (j + 1) < 0
    · rw [if_pos q1]
      exact no (fun z => by omega)
    · rw [if_neg q1]
      simp only [fz_lr, hs.1.1, hs.1.2.1, Int.toNat_natCast, e1, e2]
      by_cases q2 : zz_bg wr L d (zz_T wr L d k) (j + 1) = zz_T wr L d (k + 1) (j + 1)
      · clear no
        have yes := zz_fd_yes (L := L) (d := d) (wr := wr) (k := k) (j := j) ⟨by omega, q2⟩
        have ok := zz_fd_ok (L := L) (d := d) (k := k) hw (j + 1) h
        rw [yes] at ok ⊢
        rw [if_pos q2]
        simp only [fz_ls]
        unfold kJ_X10_choose_c2_157
        simp only [fz_lt]
        rw [show ((m : Int) - ((k + 1 : Nat) : Int)).toNat = m - (k + 1) by omega, show ((k + 1 : Nat) : Int) + (-1) = (k : Int) by omega, show ((d - (j + 1) : Nat) : Int) + (L : Int) = ((d - (j + 1 - L) : Nat) : Int) by omega]
        exact ⟨g, kk + 1, by omega, ⟨by omega, by omega⟩, rfl⟩
      · rw [if_neg q2]
        exact no (fun z => q2 z.2)
theorem zz_al_c2 (hn : zz_gn so M br c2 E) (hw : ∀ i, 0 ≤ wr i ∧ wr i ≤ 99) (hd : d ≤ 64) (hL : 1 ≤ L ∧ L ≤ 16) (hm : m ≤ 4) (hmd : m * L ≤ d) :
    ∀ (s f : Nat) (kk : Int) (w : fx_U), s ≤ m → zz_J wr L d m (m - s) < f → (0 ≤ kk ∧ kk ≤ ((d - zz_J wr L d m (m - s) : Nat) : Int)) → zz_gm so M br c2 E d wr w → (∀ q x : Nat, q ≤ m → x ≤ d → w (M + 1 + q) x = zz_T wr L d q (d - x)) → (∀ q : Nat, q < m - s → w E q = ((d - zz_st wr L d m q : Nat) : Int)) →
    ∃ w2 : fx_U, kL_X10_choose_c2_76 br so (L : Int) (m : Int) f (s : Int) ((d - zz_J wr L d m (m - s) : Nat) : Int) kk w = (zz_T wr L d m d, w2) ∧ w2 so 1 = (E : Int) ∧ ∀ q : Nat, q < m → w2 E q = ((d - zz_st wr L d m q : Nat) : Int) := by
  intro s
  induction s with
  | zero =>
    intro f kk w _ hf hkk hs hT hE
    obtain ⟨g, rfl⟩ : ∃ g : Nat, f = g + 1 := ⟨f - 1, by omega⟩
    have eK : kL_X10_choose_c2_76 br so (L : Int) (m : Int) (g + 1) ((0 : Nat) : Int) ((d - zz_J wr L d m (m - 0) : Nat) : Int) kk w = kB_X10_choose_c2_76 (kL_X10_choose_c2_76 br so (L : Int) (m : Int) g) br so (L : Int) (m : Int) ((0 : Nat) : Int) ((d - zz_J wr L d m (m - 0) : Nat) : Int) kk w := rfl
    rw [eK]
    have e1 : w M m = ((M + 1 + m : Nat) : Int) := hs.2.1 m (by omega)
    have e2 : w (M + 1 + m) (Int.toNat 0) = zz_T wr L d m d := (hT m 0 (Nat.le_refl m) (Nat.zero_le d)).trans (by rw [Nat.sub_zero])
    have fin : kJ_X10_choose_c2_163 w so (m : Int) = (zz_T wr L d m d, w) := by
      unfold kJ_X10_choose_c2_163
      simp only [fz_lt, fz_lr, hs.1.1, Int.toNat_natCast, e1, e2]
    unfold kB_X10_choose_c2_76
    simp only [fz_lt, hs.1.2.2.1, fin]
    rw [if_neg (show ¬ (0 : Int) < ((0 : Nat) : Int) by omega)]
    refine ⟨w, ?_, hs.1.2.1, fun q h => hE q (by omega)⟩
    by_cases q : kk < (d : Int)
    · rw [if_pos q]
    · rw [if_neg q]
  | succ s ih =>
    intro f kk w h0 hf hkk hs hT hE
    have jo := zz_J_ok (L := L) (d := d) (m := m) hw hL.1 hmd (m - (s + 1)) (by omega)
    rw [show m - (m - (s + 1)) = s + 1 by omega] at jo
    obtain ⟨f2, kk2, g1, g2, g3⟩ := zz_se_c2 (k := s) hw hd hL hm h0 hs hT (zz_J wr L d m (m - (s + 1))) f kk jo.1 hf hkk jo.2
    have eS : zz_st wr L d m (m - (s + 1)) = zz_fd (zz_bg wr L d (zz_T wr L d s)) (zz_T wr L d (s + 1)) (zz_J wr L d m (m - (s + 1))) := by
      unfold zz_st
      rw [show m - (m - (s + 1)) - 1 = s by omega]
    have eJ : zz_J wr L d m (m - s) = zz_st wr L d m (m - (s + 1)) - L := by
      rw [show m - s = m - (s + 1) + 1 by omega]
      rfl
    rw [← eS, ← eJ] at g1 g2 g3
    rw [g3]
    refine ih f2 kk2 _ (by omega) g1 g2 (hs.st hn) (fun q x h1 h2 => ?_) (fun q h1 => ?_)
    · rw [zz_pa (Ne.symm (hn.1 q (by omega)).2.2.2)]
      exact hT q x h1 h2
    · by_cases e : q = m - (s + 1)
      · rw [e, zz_ps]
      · rw [zz_pj e]
        exact hE q (by omega)
theorem zz_ch_c2 (hn : zz_gn so M br c2 E) (hw : ∀ i, 0 ≤ wr i ∧ wr i ≤ 99) (hd : d ≤ 64) (hL : 1 ≤ L ∧ L ≤ 16) (hm : m ≤ 4) (hmd : m * L ≤ d) (hs : zz_gm so M br c2 E d wr w) : ∃ w2 : fx_U, kL_X10_choose_c2_3 (m : Int) br so (L : Int) (m + 2) 0 w = (zz_T wr L d m d, w2) ∧ w2 so 1 = (E : Int) ∧ ∀ q : Nat, q < m → w2 E q = ((d - zz_st wr L d m q : Nat) : Int) := by
  obtain ⟨w1, g1, g2, g3⟩ := zz_c3_c2 hn hw hd hL hm (m + 1) (m + 2) w (Nat.le_refl _) (by omega) hs (fun q x h => by omega)
  rw [show ((m + 1 - (m + 1) : Nat) : Int) = 0 by omega] at g1
  rw [g1]
  have e0 : zz_J wr L d m (m - m) = d := by
    rw [Nat.sub_self]
    rfl
  have z := zz_al_c2 hn hw hd hL hm hmd m 65 0 w1 (Nat.le_refl m) (by rw [e0]; omega) ⟨Int.le_refl 0, by rw [e0]; omega⟩ g2 g3 (fun q h => by omega)
  rw [e0, Nat.sub_self, show ((0 : Nat) : Int) = 0 from rfl] at z
  exact z
theorem zz_c21_c3 {R : Int → fx_U → Int × fx_U} {k : Nat} (hn : zz_gn so M br c2 E) (hw : ∀ i, 0 ≤ wr i ∧ wr i ≤ 99) (hd : d ≤ 64) (hL : 1 ≤ L ∧ L ≤ 16) (hk : k ≤ 4) :
    ∀ (t f : Nat) (w : fx_U), t ≤ d + 1 → t < f → zz_gm so M br c2 E d wr w → (∀ q x : Nat, q < k → x ≤ d → w (M + 1 + q) x = zz_T wr L d q (d - x)) → (∀ x : Nat, t ≤ x → x ≤ d → w (M + 1 + k) x = zz_T wr L d k (d - x)) →
    ∃ w2 : fx_U, kL_X10_choose_c3_21 (k : Int) R so br (L : Int) f ((t : Int) - 1) w = R ((k : Int) + 1) w2 ∧ zz_gm so M br c2 E d wr w2 ∧ ∀ q x : Nat, q ≤ k → x ≤ d → w2 (M + 1 + q) x = zz_T wr L d q (d - x) := by
  intro t
  induction t with
  | zero =>
    intro f w _ hf hs hT hN
    obtain ⟨g, rfl⟩ : ∃ g : Nat, f = g + 1 := ⟨f - 1, by omega⟩
    have eK : kL_X10_choose_c3_21 (k : Int) R so br (L : Int) (g + 1) (((0 : Nat) : Int) - 1) w = kB_X10_choose_c3_21 (kL_X10_choose_c3_21 (k : Int) R so br (L : Int) g) (k : Int) R so br (L : Int) (((0 : Nat) : Int) - 1) w := rfl
    rw [eK]
    unfold kB_X10_choose_c3_21
    rw [if_pos (by omega)]
    simp only [fz_lt]
    refine ⟨w, rfl, hs, fun q x h1 h2 => ?_⟩
    by_cases e : q = k
    · rw [e]
      exact hN x (Nat.zero_le x) h2
    · exact hT q x (by omega) h2
  | succ i ih =>
    intro f w ht hf hs hT hN
    obtain ⟨g, rfl⟩ : ∃ g : Nat, f = g + 1 := ⟨f - 1, by omega⟩
    rw [show ((i + 1 : Nat) : Int) - 1 = (i : Int) by omega]
    have eK : kL_X10_choose_c3_21 (k : Int) R so br (L : Int) (g + 1) (i : Int) w = kB_X10_choose_c3_21 (kL_X10_choose_c3_21 (k : Int) R so br (L : Int) g) (k : Int) R so br (L : Int) (i : Int) w := rfl
    rw [eK]
    have one : ∀ z : Int, z = zz_T wr L d k (d - i) → ∃ w2 : fx_U, kJ_X10_choose_c3_54 w (M + 1 + k) (i : Int) (kL_X10_choose_c3_21 (k : Int) R so br (L : Int) g) z = R ((k : Int) + 1) w2 ∧ zz_gm so M br c2 E d wr w2 ∧ ∀ q x : Nat, q ≤ k → x ≤ d → w2 (M + 1 + q) x = zz_T wr L d q (d - x) := by
      intro z hz
      unfold kJ_X10_choose_c3_54
      simp only [fz_lt, fz_ls, Int.toNat_natCast]
      rw [show (i : Int) + (-1) = (i : Int) - 1 by omega]
      refine ih g _ (by omega) (by omega) (hs.row hn (by omega)) (fun q x h1 h2 => ?_) (fun x h1 h2 => ?_)
      · rw [zz_pa (by omega)]
        exact hT q x h1 h2
      · by_cases e : x = i
        · rw [e, zz_ps, hz]
        · rw [zz_pj e]
          exact hN x (by omega) h2
    have e1 : w M k = ((M + 1 + k : Nat) : Int) := hs.2.1 k (by omega)
    unfold kB_X10_choose_c3_21
    rw [if_neg (by omega)]
    simp only [fz_lt, fz_lr, hs.1.1, Int.toNat_natCast, e1]
    by_cases e : k = 0
    · rw [if_pos (show (k : Int) = 0 by omega)]
      exact one 0 (by rw [e]; rfl)
    · obtain ⟨p, rfl⟩ : ∃ p : Nat, k = p + 1 := ⟨k - 1, by omega⟩
      rw [if_neg (show ¬ ((p + 1 : Nat) : Int) = 0 by omega)]
      exact one _ (zz_mf hs hw hd hL (by omega) (by omega) (fun x h => hT p x (by omega) h) (fun x h1 h2 => hN x (by omega) h2))
theorem zz_c3_c3 (hn : zz_gn so M br c2 E) (hw : ∀ i, 0 ≤ wr i ∧ wr i ≤ 99) (hd : d ≤ 64) (hL : 1 ≤ L ∧ L ≤ 16) (hm : m ≤ 4) :
    ∀ (s f : Nat) (w : fx_U), s ≤ m + 1 → s < f → zz_gm so M br c2 E d wr w → (∀ q x : Nat, q < m + 1 - s → x ≤ d → w (M + 1 + q) x = zz_T wr L d q (d - x)) →
    ∃ w2 : fx_U, kL_X10_choose_c3_3 (m : Int) br so (L : Int) f ((m + 1 - s : Nat) : Int) w = kL_X10_choose_c3_76 br so (L : Int) (m : Int) 65 (m : Int) 0 0 w2 ∧ zz_gm so M br c2 E d wr w2 ∧ ∀ q x : Nat, q ≤ m → x ≤ d → w2 (M + 1 + q) x = zz_T wr L d q (d - x) := by
  intro s
  induction s with
  | zero =>
    intro f w _ hf hs hT
    obtain ⟨g, rfl⟩ : ∃ g : Nat, f = g + 1 := ⟨f - 1, by omega⟩
    have eK : kL_X10_choose_c3_3 (m : Int) br so (L : Int) (g + 1) ((m + 1 - 0 : Nat) : Int) w = kB_X10_choose_c3_3 (kL_X10_choose_c3_3 (m : Int) br so (L : Int) g) (m : Int) br so (L : Int) ((m + 1 - 0 : Nat) : Int) w := rfl
    rw [eK]
    unfold kB_X10_choose_c3_3 kJ_X10_choose_c3_67
    rw [if_pos (by omega), show Int.toNat (64 - 0) + 1 = 65 from rfl]
    exact ⟨w, rfl, hs, fun q x h1 h2 => hT q x (by omega) h2⟩
  | succ s ih =>
    intro f w h0 hf hs hT
    obtain ⟨g, rfl⟩ : ∃ g : Nat, f = g + 1 := ⟨f - 1, by omega⟩
    have eK : kL_X10_choose_c3_3 (m : Int) br so (L : Int) (g + 1) ((m + 1 - (s + 1) : Nat) : Int) w = kB_X10_choose_c3_3 (kL_X10_choose_c3_3 (m : Int) br so (L : Int) g) (m : Int) br so (L : Int) ((m + 1 - (s + 1) : Nat) : Int) w := rfl
    rw [eK]
    unfold kB_X10_choose_c3_3
    rw [if_neg (by omega), if_neg (by omega)]
    simp only [fz_lt, hs.1.2.2.1]
    rw [show Int.toNat ((d : Int) - (-1)) + 1 = d + 2 by omega]
    obtain ⟨w1, g1, g2, g3⟩ := zz_c21_c3 (R := kL_X10_choose_c3_3 (m : Int) br so (L : Int) g) (k := m + 1 - (s + 1)) hn hw hd hL (by omega) (d + 1) (d + 2) w (Nat.le_refl _) (by omega) hs hT (fun x h1 h2 => by omega)
    rw [show ((d + 1 : Nat) : Int) - 1 = (d : Int) by omega] at g1
    rw [g1, show ((m + 1 - (s + 1) : Nat) : Int) + 1 = ((m + 1 - s : Nat) : Int) by omega]
    exact ih g w1 (by omega) (by omega) g2 (fun q x h1 h2 => g3 q x (by omega) h2)
theorem zz_se_c3 {k : Nat} (hw : ∀ i, 0 ≤ wr i ∧ wr i ≤ 99) (hd : d ≤ 64) (hL : 1 ≤ L ∧ L ≤ 16) (hm : m ≤ 4) (hk : k + 1 ≤ m) (hs : zz_gm so M br c2 E d wr w) (hT : ∀ q x : Nat, q ≤ m → x ≤ d → w (M + 1 + q) x = zz_T wr L d q (d - x)) :
    ∀ (j f : Nat) (kk : Int), j ≤ d → j < f → (0 ≤ kk ∧ kk ≤ ((d - j : Nat) : Int)) → 0 ≤ zz_T wr L d (k + 1) j →
    ∃ (f2 : Nat) (kk2 : Int), zz_fd (zz_bg wr L d (zz_T wr L d k)) (zz_T wr L d (k + 1)) j - L < f2 ∧ (0 ≤ kk2 ∧ kk2 ≤ ((d - (zz_fd (zz_bg wr L d (zz_T wr L d k)) (zz_T wr L d (k + 1)) j - L) : Nat) : Int)) ∧ kL_X10_choose_c3_76 br so (L : Int) (m : Int) f ((k + 1 : Nat) : Int) ((d - j : Nat) : Int) kk w = kL_X10_choose_c3_76 br so (L : Int) (m : Int) f2 (k : Int) ((d - (zz_fd (zz_bg wr L d (zz_T wr L d k)) (zz_T wr L d (k + 1)) j - L) : Nat) : Int) kk2 (fx_pt w E (m - (k + 1)) ((d - zz_fd (zz_bg wr L d (zz_T wr L d k)) (zz_T wr L d (k + 1)) j : Nat) : Int)) := by
  intro j
  induction j with
  | zero =>
    intro f kk _ _ _ h
    have e : zz_T wr L d (k + 1) 0 = -1 := rfl
    omega
  | succ j ih =>
    intro f kk hj hf hkk h
    obtain ⟨g, rfl⟩ : ∃ g : Nat, f = g + 1 := ⟨f - 1, by omega⟩
    have eK : kL_X10_choose_c3_76 br so (L : Int) (m : Int) (g + 1) ((k + 1 : Nat) : Int) ((d - (j + 1) : Nat) : Int) kk w = kB_X10_choose_c3_76 (kL_X10_choose_c3_76 br so (L : Int) (m : Int) g) br so (L : Int) (m : Int) ((k + 1 : Nat) : Int) ((d - (j + 1) : Nat) : Int) kk w := rfl
    rw [eK]
    have mb := zz_mb (k := k) (i := d - (j + 1)) hs hw hd hL (by omega) (by omega) (fun x hx => hT k x (by omega) hx)
    rw [show d - (d - (j + 1)) = j + 1 by omega] at mb
    have e1 : w M (k + 1) = ((M + 1 + (k + 1) : Nat) : Int) := hs.2.1 (k + 1) (by omega)
    have e2 : w (M + 1 + (k + 1)) (d - (j + 1)) = zz_T wr L d (k + 1) (j + 1) := by
      rw [hT (k + 1) (d - (j + 1)) hk (by omega), show d - (d - (j + 1)) = j + 1 by omega]
    have no : ¬ (0 ≤ zz_bg wr L d (zz_T wr L d k) (j + 1) ∧ zz_bg wr L d (zz_T wr L d k) (j + 1) = zz_T wr L d (k + 1) (j + 1)) → ∃ (f2 : Nat) (kk2 : Int), zz_fd (zz_bg wr L d (zz_T wr L d k)) (zz_T wr L d (k + 1)) (j + 1) - L < f2 ∧ (0 ≤ kk2 ∧ kk2 ≤ ((d - (zz_fd (zz_bg wr L d (zz_T wr L d k)) (zz_T wr L d (k + 1)) (j + 1) - L) : Nat) : Int)) ∧ kJ_X10_choose_c3_154 ((d - (j + 1) : Nat) : Int) kk (kL_X10_choose_c3_76 br so (L : Int) (m : Int) g) ((k + 1 : Nat) : Int) w = kL_X10_choose_c3_76 br so (L : Int) (m : Int) f2 (k : Int) ((d - (zz_fd (zz_bg wr L d (zz_T wr L d k)) (zz_T wr L d (k + 1)) (j + 1) - L) : Nat) : Int) kk2 (fx_pt w E (m - (k + 1)) ((d - zz_fd (zz_bg wr L d (zz_T wr L d k)) (zz_T wr L d (k + 1)) (j + 1) : Nat) : Int)) := by
      intro q
      obtain ⟨z1, z2⟩ := zz_fd_no h q
      unfold kJ_X10_choose_c3_154 kJ_X10_choose_c3_157
      simp only [fz_lt]
      rw [z2, show ((d - (j + 1) : Nat) : Int) + 1 = ((d - j : Nat) : Int) by omega]
      exact ih g (kk + 1) (by omega) (by omega) ⟨by omega, by omega⟩ (by omega)
    unfold kB_X10_choose_c3_76
    simp only [fz_lt, hs.1.2.2.1]
    rw [if_pos (by omega), if_pos (by omega), if_pos (by omega)]
    simp only [mb]
    by_cases q1 : zz_bg wr L d (zz_T wr L d k) (j + 1) < 0
    · rw [if_pos q1]
      exact no (fun z => by omega)
    · rw [if_neg q1]
      simp only [fz_lr, hs.1.1, hs.1.2.1, Int.toNat_natCast, e1, e2]
      by_cases q2 : zz_bg wr L d (zz_T wr L d k) (j + 1) = zz_T wr L d (k + 1) (j + 1)
      · clear no
        have yes := zz_fd_yes (L := L) (d := d) (wr := wr) (k := k) (j := j) ⟨by omega, q2⟩
        have ok := zz_fd_ok (L := L) (d := d) (k := k) hw (j + 1) h
        rw [yes] at ok ⊢
        rw [if_pos q2]
        simp only [fz_ls]
        unfold kJ_X10_choose_c3_157
        simp only [fz_lt]
        rw [show ((m : Int) - ((k + 1 : Nat) : Int)).toNat = m - (k + 1) by omega, show ((k + 1 : Nat) : Int) + (-1) = (k : Int) by omega, show ((d - (j + 1) : Nat) : Int) + (L : Int) = ((d - (j + 1 - L) : Nat) : Int) by omega]
        exact ⟨g, kk + 1, by omega, ⟨by omega, by omega⟩, rfl⟩
      · rw [if_neg q2]
        exact no (fun z => q2 z.2)
theorem zz_al_c3 (hn : zz_gn so M br c2 E) (hw : ∀ i, 0 ≤ wr i ∧ wr i ≤ 99) (hd : d ≤ 64) (hL : 1 ≤ L ∧ L ≤ 16) (hm : m ≤ 4) (hmd : m * L ≤ d) :
    ∀ (s f : Nat) (kk : Int) (w : fx_U), s ≤ m → zz_J wr L d m (m - s) < f → (0 ≤ kk ∧ kk ≤ ((d - zz_J wr L d m (m - s) : Nat) : Int)) → zz_gm so M br c2 E d wr w → (∀ q x : Nat, q ≤ m → x ≤ d → w (M + 1 + q) x = zz_T wr L d q (d - x)) → (∀ q : Nat, q < m - s → w E q = ((d - zz_st wr L d m q : Nat) : Int)) →
    ∃ w2 : fx_U, kL_X10_choose_c3_76 br so (L : Int) (m : Int) f (s : Int) ((d - zz_J wr L d m (m - s) : Nat) : Int) kk w = (zz_T wr L d m d, w2) ∧ w2 so 1 = (E : Int) ∧ ∀ q : Nat, q < m → w2 E q = ((d - zz_st wr L d m q : Nat) : Int) := by
  intro s
  induction s with
  | zero =>
    intro f kk w _ hf hkk hs hT hE
    obtain ⟨g, rfl⟩ : ∃ g : Nat, f = g + 1 := ⟨f - 1, by omega⟩
    have eK : kL_X10_choose_c3_76 br so (L : Int) (m : Int) (g + 1) ((0 : Nat) : Int) ((d - zz_J wr L d m (m - 0) : Nat) : Int) kk w = kB_X10_choose_c3_76 (kL_X10_choose_c3_76 br so (L : Int) (m : Int) g) br so (L : Int) (m : Int) ((0 : Nat) : Int) ((d - zz_J wr L d m (m - 0) : Nat) : Int) kk w := rfl
    rw [eK]
    have e1 : w M m = ((M + 1 + m : Nat) : Int) := hs.2.1 m (by omega)
    have e2 : w (M + 1 + m) (Int.toNat 0) = zz_T wr L d m d := (hT m 0 (Nat.le_refl m) (Nat.zero_le d)).trans (by rw [Nat.sub_zero])
    have fin : kJ_X10_choose_c3_163 w so (m : Int) = (zz_T wr L d m d, w) := by
      unfold kJ_X10_choose_c3_163
      simp only [fz_lt, fz_lr, hs.1.1, Int.toNat_natCast, e1, e2]
    unfold kB_X10_choose_c3_76
    simp only [fz_lt, hs.1.2.2.1, fin]
    rw [if_neg (show ¬ (0 : Int) < ((0 : Nat) : Int) by omega)]
    refine ⟨w, ?_, hs.1.2.1, fun q h => hE q (by omega)⟩
    by_cases q : kk < (d : Int)
    · rw [if_pos q]
    · rw [if_neg q]
  | succ s ih =>
    intro f kk w h0 hf hkk hs hT hE
    have jo := zz_J_ok (L := L) (d := d) (m := m) hw hL.1 hmd (m - (s + 1)) (by omega)
    rw [show m - (m - (s + 1)) = s + 1 by omega] at jo
    obtain ⟨f2, kk2, g1, g2, g3⟩ := zz_se_c3 (k := s) hw hd hL hm h0 hs hT (zz_J wr L d m (m - (s + 1))) f kk jo.1 hf hkk jo.2
    have eS : zz_st wr L d m (m - (s + 1)) = zz_fd (zz_bg wr L d (zz_T wr L d s)) (zz_T wr L d (s + 1)) (zz_J wr L d m (m - (s + 1))) := by
      unfold zz_st
      rw [show m - (m - (s + 1)) - 1 = s by omega]
    have eJ : zz_J wr L d m (m - s) = zz_st wr L d m (m - (s + 1)) - L := by
      rw [show m - s = m - (s + 1) + 1 by omega]
      rfl
    rw [← eS, ← eJ] at g1 g2 g3
    rw [g3]
    refine ih f2 kk2 _ (by omega) g1 g2 (hs.st hn) (fun q x h1 h2 => ?_) (fun q h1 => ?_)
    · rw [zz_pa (Ne.symm (hn.1 q (by omega)).2.2.2)]
      exact hT q x h1 h2
    · by_cases e : q = m - (s + 1)
      · rw [e, zz_ps]
      · rw [zz_pj e]
        exact hE q (by omega)
theorem zz_ch_c3 (hn : zz_gn so M br c2 E) (hw : ∀ i, 0 ≤ wr i ∧ wr i ≤ 99) (hd : d ≤ 64) (hL : 1 ≤ L ∧ L ≤ 16) (hm : m ≤ 4) (hmd : m * L ≤ d) (hs : zz_gm so M br c2 E d wr w) : ∃ w2 : fx_U, kL_X10_choose_c3_3 (m : Int) br so (L : Int) (m + 2) 0 w = (zz_T wr L d m d, w2) ∧ w2 so 1 = (E : Int) ∧ ∀ q : Nat, q < m → w2 E q = ((d - zz_st wr L d m q : Nat) : Int) := by
  obtain ⟨w1, g1, g2, g3⟩ := zz_c3_c3 hn hw hd hL hm (m + 1) (m + 2) w (Nat.le_refl _) (by omega) hs (fun q x h => by omega)
  rw [show ((m + 1 - (m + 1) : Nat) : Int) = 0 by omega] at g1
  rw [g1]
  have e0 : zz_J wr L d m (m - m) = d := by
    rw [Nat.sub_self]
    rfl
  have z := zz_al_c3 hn hw hd hL hm hmd m 65 0 w1 (Nat.le_refl m) (by rw [e0]; omega) ⟨Int.le_refl 0, by rw [e0]; omega⟩ g2 g3 (fun q h => by omega)
  rw [e0, Nat.sub_self, show ((0 : Nat) : Int) = 0 from rfl] at z
  exact z
end RenewC
/-! in the reference -/
theorem zz_maxW {u : fx_U} {a b : Int} : f_X12_max u a b = max a b := by
  unfold f_X12_max
  rw [Int.max_def]
  split <;> split <;> omega
def zz_gr2 (a2 bn bo be d : Nat) (wr : Nat → Int) (w : fx_U) : Prop := (w a2 0 = (bn : Int) ∧ w a2 43 = (bo : Int) ∧ w a2 44 = (be : Int) ∧ w bn 512 = (d : Int)) ∧ ∀ i : Nat, i < 64 → w bn (128 + i) = wr i
/-- the reference's table: what is not there is far below 0 -/
def zz_R (wr : Nat → Int) (L d k i : Nat) : Int := if i ≤ d ∧ 0 ≤ zz_T wr L d k (d - i) then zz_T wr L d k (d - i) else -1000000000
section RenewR
variable {a2 bn bo be d L m : Nat} {wr : Nat → Int} {w : fx_U}
theorem zz_gr2.pt {b i : Nat} {x : Int} (h : zz_gr2 a2 bn bo be d wr w) (n1 : a2 ≠ b) (n2 : bn ≠ b) : zz_gr2 a2 bn bo be d wr (fx_pt w b i x) := by
  obtain ⟨⟨h1, h2, h3, h4⟩, h5⟩ := h
  refine ⟨⟨?_, ?_, ?_, ?_⟩, fun q hq => ?_⟩
  · rw [zz_pa n1]; exact h1
  · rw [zz_pa n1]; exact h2
  · rw [zz_pa n1]; exact h3
  · rw [zz_pa n2]; exact h4
  · rw [zz_pa n2]; exact h5 q hq
theorem zz_wF {k i : Nat} (hs : zz_gr2 a2 bn bo be d wr w) : f_X12_wearFrom w a2 (k : Int) (i : Int) = w bo (65 * k + i) := by
  unfold f_X12_wearFrom
  simp only [fz_lt, fz_lr, hs.1.2.1, Int.toNat_natCast]
  rw [show (65 * (k : Int) + (i : Int)).toNat = 65 * k + i by omega]
theorem zz_wI {i : Nat} (hs : zz_gr2 a2 bn bo be d wr w) (hw : ∀ i, 0 ≤ wr i ∧ wr i ≤ 99) (hL : L ≤ 16) (hd : d ≤ 64) (hi : i + L ≤ d) : f_X12_wearIn w a2 (i : Int) (L : Int) = zz_ws wr L i := by
  have key : ∀ (f n x : Nat) (s : Int), x + n = i + L → n < f → 0 ≤ s ∧ s ≤ 20000 - 99 * (n : Int) → kL_X12_wearIn_5 (i : Int) (L : Int) w bn f s (x : Int) = s + zz_ws wr n x := by
    intro f
    induction f with
    | zero => intro n x s _ h; omega
    | succ f ih =>
      intro n x s h1 h2 h3
      have eK : kL_X12_wearIn_5 (i : Int) (L : Int) w bn (f + 1) s (x : Int) = kB_X12_wearIn_5 (kL_X12_wearIn_5 (i : Int) (L : Int) w bn f) (i : Int) (L : Int) w bn s (x : Int) := rfl
      rw [eK]
      unfold kB_X12_wearIn_5
      simp only [fz_lt]
      by_cases q : (x : Int) < (i : Int) + (L : Int)
      · obtain ⟨t, rfl⟩ : ∃ t : Nat, n = t + 1 := ⟨n - 1, by omega⟩
        have a := hw x
        rw [if_pos q]
        have e1 : w bn (128 + (x : Int)).toNat = wr x := by
          rw [show (128 + (x : Int)).toNat = 128 + x by omega]
          exact hs.2 x (by omega)
        have e2 : fx_b_add s (wr x) = s + wr x := zz_wadd (zz_sml ⟨by omega, by omega⟩) (zz_sml ⟨by omega, by omega⟩) (zz_sml ⟨by omega, by omega⟩)
        have z := ih t (x + 1) (s + wr x) (by omega) (by omega) ⟨by omega, by omega⟩
        rw [show ((x + 1 : Nat) : Int) = (x : Int) + 1 by omega] at z
        rw [e1, e2, z]
        show s + wr x + zz_ws wr t (x + 1) = s + (wr x + zz_ws wr t (x + 1))
        omega
      · have en : n = 0 := by omega
        rw [if_neg q, en]
        exact (Int.add_zero s).symm
  unfold f_X12_wearIn
  simp only [fz_lr, hs.1.1, Int.toNat_natCast]
  rw [key (Int.toNat (80 - (i : Int)) + 1) L i 0 rfl (by omega) ⟨by omega, by omega⟩]
  omega
/-- one place of the table -/
theorem zz_R_step {k i : Nat} (hw : ∀ i, 0 ≤ wr i ∧ wr i ≤ 99) (hL : 1 ≤ L) (hi : i < d) : zz_R wr L d (k + 1) i = if i + L ≤ d ∧ 0 ≤ zz_R wr L d k (i + L) then max (zz_R wr L d (k + 1) (i + 1)) (zz_ws wr L i + zz_R wr L d k (i + L)) else zz_R wr L d (k + 1) (i + 1) := by
  obtain ⟨j, hj⟩ : ∃ j : Nat, d - i = j + 1 := ⟨d - i - 1, by omega⟩
  have eT : zz_T wr L d (k + 1) (j + 1) = max (zz_T wr L d (k + 1) j) (zz_bg wr L d (zz_T wr L d k) (j + 1)) := rfl
  have lo : -1 ≤ zz_T wr L d (k + 1) j := zz_rw_lo j
  have e1 : zz_R wr L d (k + 1) i = if 0 ≤ zz_T wr L d (k + 1) (j + 1) then zz_T wr L d (k + 1) (j + 1) else -1000000000 := by
    unfold zz_R
    rw [hj]
    by_cases q : 0 ≤ zz_T wr L d (k + 1) (j + 1)
    · rw [if_pos ⟨by omega, q⟩, if_pos q]
    · rw [if_neg (fun z => q z.2), if_neg q]
  have e2 : zz_R wr L d (k + 1) (i + 1) = if 0 ≤ zz_T wr L d (k + 1) j then zz_T wr L d (k + 1) j else -1000000000 := by
    unfold zz_R
    rw [show d - (i + 1) = j by omega]
    by_cases q : 0 ≤ zz_T wr L d (k + 1) j
    · rw [if_pos ⟨by omega, q⟩, if_pos q]
    · rw [if_neg (fun z => q z.2), if_neg q]
  have e3 : zz_bg wr L d (zz_T wr L d k) (j + 1) = if i + L ≤ d ∧ 0 ≤ zz_R wr L d k (i + L) then zz_ws wr L i + zz_R wr L d k (i + L) else -1 := by
    unfold zz_bg zz_R
    rw [show d - (i + L) = j + 1 - L by omega, show d - (j + 1) = i by omega]
    by_cases q : L ≤ j + 1 ∧ 0 ≤ zz_T wr L d k (j + 1 - L)
    · rw [if_pos q, if_pos (show i + L ≤ d ∧ 0 ≤ zz_T wr L d k (j + 1 - L) from ⟨by omega, q.2⟩), if_pos ⟨by omega, q.2⟩]
      omega
    · by_cases q1 : i + L ≤ d
      · rw [if_neg q, if_neg (show ¬ (i + L ≤ d ∧ 0 ≤ zz_T wr L d k (j + 1 - L)) from fun z => q ⟨by omega, z.2⟩), if_neg (fun z => by omega)]
      · rw [if_neg q, if_neg (show ¬ (i + L ≤ d ∧ 0 ≤ (if i + L ≤ d ∧ 0 ≤ zz_T wr L d k (j + 1 - L) then zz_T wr L d k (j + 1 - L) else -1000000000)) from fun z => q1 z.1)]
  rw [e1, e2, eT, e3]
  by_cases q : i + L ≤ d ∧ 0 ≤ zz_R wr L d k (i + L)
  · have b := zz_ws_b hw L i
    rw [if_pos q, if_pos q, if_pos (by omega)]
    by_cases q2 : 0 ≤ zz_T wr L d (k + 1) j
    · rw [if_pos q2]
    · rw [if_neg q2]
      omega
  · rw [if_neg q, if_neg q]
    by_cases q2 : 0 ≤ zz_T wr L d (k + 1) j
    · rw [if_pos q2, if_pos (by omega)]
      omega
    · rw [if_neg q2, if_neg (by omega)]
theorem zz_w32 {R : Int → fx_U → fx_U} {k : Nat} (n1 : a2 ≠ bo) (n2 : bn ≠ bo) (hw : ∀ i, 0 ≤ wr i ∧ wr i ≤ 99) (hL : 1 ≤ L ∧ L ≤ 16) (hd : d ≤ 64) (hk : k ≤ 4) :
    ∀ (t f : Nat) (w : fx_U), t ≤ 65 → t < f → zz_gr2 a2 bn bo be d wr w → (∀ q x : Nat, q ≤ k → x ≤ d → w bo (65 * q + x) = zz_R wr L d q x) → (∀ x : Nat, t ≤ x → x ≤ 64 → w bo (65 * (k + 1) + x) = zz_R wr L d (k + 1) x) →
    ∃ w2 : fx_U, kL_X12_laysWear_32 ((k : Int) + 1) R a2 (L : Int) (d : Int) bo f ((t : Int) - 1) w = R ((k : Int) + 1 + 1) w2 ∧ zz_gr2 a2 bn bo be d wr w2 ∧ ∀ q x : Nat, q ≤ k + 1 → x ≤ d → w2 bo (65 * q + x) = zz_R wr L d q x := by
  intro t
  induction t with
  | zero =>
    intro f w _ hf hs hT hN
    obtain ⟨g, rfl⟩ : ∃ g : Nat, f = g + 1 := ⟨f - 1, by omega⟩
    have eK : kL_X12_laysWear_32 ((k : Int) + 1) R a2 (L : Int) (d : Int) bo (g + 1) (((0 : Nat) : Int) - 1) w = kB_X12_laysWear_32 (kL_X12_laysWear_32 ((k : Int) + 1) R a2 (L : Int) (d : Int) bo g) ((k : Int) + 1) R a2 (L : Int) (d : Int) bo (((0 : Nat) : Int) - 1) w := rfl
    rw [eK]
    unfold kB_X12_laysWear_32
    rw [if_pos (by omega)]
    simp only [fz_lt]
    refine ⟨w, rfl, hs, fun q x h1 h2 => ?_⟩
    by_cases e : q = k + 1
    · rw [e]
      exact hN x (Nat.zero_le x) (by omega)
    · exact hT q x (by omega) h2
  | succ i ih =>
    intro f w ht hf hs hT hN
    obtain ⟨g, rfl⟩ : ∃ g : Nat, f = g + 1 := ⟨f - 1, by omega⟩
    rw [show ((i + 1 : Nat) : Int) - 1 = (i : Int) by omega]
    have eK : kL_X12_laysWear_32 ((k : Int) + 1) R a2 (L : Int) (d : Int) bo (g + 1) (i : Int) w = kB_X12_laysWear_32 (kL_X12_laysWear_32 ((k : Int) + 1) R a2 (L : Int) (d : Int) bo g) ((k : Int) + 1) R a2 (L : Int) (d : Int) bo (i : Int) w := rfl
    rw [eK]
    have fin : ∀ z : Int, z = zz_R wr L d (k + 1) i → ∃ w2 : fx_U, kJ_X12_laysWear_116 ((k : Int) + 1) (i : Int) w bo (kL_X12_laysWear_32 ((k : Int) + 1) R a2 (L : Int) (d : Int) bo g) z = R ((k : Int) + 1 + 1) w2 ∧ zz_gr2 a2 bn bo be d wr w2 ∧ ∀ q x : Nat, q ≤ k + 1 → x ≤ d → w2 bo (65 * q + x) = zz_R wr L d q x := by
      intro z hz
      unfold kJ_X12_laysWear_116
      simp only [fz_lt, fz_ls]
      rw [show (65 * ((k : Int) + 1) + (i : Int)).toNat = 65 * (k + 1) + i by omega, show (i : Int) + (-1) = (i : Int) - 1 by omega]
      refine ih g _ (by omega) (by omega) (hs.pt n1 n2) (fun q x h1 h2 => ?_) (fun x h1 h2 => ?_)
      · rw [zz_pj (by omega)]
        exact hT q x h1 h2
      · by_cases e : x = i
        · rw [e, zz_ps, hz]
        · rw [zz_pj (by omega)]
          exact hN x (by omega) h2
    have mid : ∀ z : Int, z = (if i < 64 then zz_R wr L d (k + 1) (i + 1) else -1000000000) → ∃ w2 : fx_U, kJ_X12_laysWear_59 (i : Int) (L : Int) (d : Int) ((k : Int) + 1) w bo (kL_X12_laysWear_32 ((k : Int) + 1) R a2 (L : Int) (d : Int) bo g) a2 z = R ((k : Int) + 1 + 1) w2 ∧ zz_gr2 a2 bn bo be d wr w2 ∧ ∀ q x : Nat, q ≤ k + 1 → x ≤ d → w2 bo (65 * q + x) = zz_R wr L d q x := by
      intro z hz
      unfold kJ_X12_laysWear_59
      simp only [fz_lt]
      by_cases q : (d : Int) < (i : Int) + (L : Int)
      · rw [if_pos q]
        refine fin z ?_
        rw [hz]
        by_cases q2 : i < d
        · rw [if_pos (by omega), zz_R_step hw hL.1 q2, if_neg (fun z => by omega)]
        · have e1 : zz_R wr L d (k + 1) i = -1000000000 := by
            unfold zz_R
            rw [if_neg (fun z => by
              have z2 := z.2
              rw [show d - i = 0 by omega] at z2
              have e : zz_T wr L d (k + 1) 0 = -1 := rfl
              omega)]
          have e2 : zz_R wr L d (k + 1) (i + 1) = -1000000000 := by
            unfold zz_R
            rw [if_neg (fun z => by omega)]
          rw [e1, e2]
          by_cases q3 : i < 64
          · rw [if_pos q3]
          · rw [if_neg q3]
      · have hi : i < d := by omega
        have wf := zz_wF (k := k) (i := i + L) hs
        rw [hT k (i + L) (Nat.le_refl k) (by omega), show ((i + L : Nat) : Int) = (i : Int) + (L : Int) by omega] at wf
        rw [if_neg q, show (k : Int) + 1 - 1 = (k : Int) by omega]
        simp only [wf]
        rw [if_pos (by omega)] at hz
        have st := zz_R_step (k := k) (i := i) hw hL.1 hi
        by_cases q2 : zz_R wr L d k (i + L) < 0
        · rw [if_pos q2]
          refine fin z ?_
          rw [hz, st, if_neg (fun z => by omega)]
        · have rb : zz_R wr L d k (i + L) ≤ 20000 := by
            have tb := zz_T_b (d := d) hw hL.2 k (d - (i + L))
            unfold zz_R
            by_cases q3 : i + L ≤ d ∧ 0 ≤ zz_T wr L d k (d - (i + L))
            · rw [if_pos q3]
              omega
            · rw [if_neg q3]
              decide
          have b := zz_ws_b hw L i
          rw [if_neg q2, zz_wI hs hw hL.2 hd (by omega), zz_maxW]
          have e2 : fx_b_add (zz_ws wr L i) (zz_R wr L d k (i + L)) = zz_ws wr L i + zz_R wr L d k (i + L) := zz_wadd (zz_sml ⟨by omega, by omega⟩) (zz_sml ⟨by omega, by omega⟩) (zz_sml ⟨by omega, by omega⟩)
          rw [e2]
          refine fin _ ?_
          rw [hz, st, if_pos ⟨by omega, by omega⟩]
    unfold kB_X12_laysWear_32
    rw [if_neg (by omega)]
    by_cases q : (i : Int) < 64
    · have wf := zz_wF (k := k + 1) (i := i + 1) hs
      rw [hN (i + 1) (by omega) (by omega), show ((i + 1 : Nat) : Int) = (i : Int) + 1 by omega, show ((k + 1 : Nat) : Int) = (k : Int) + 1 by omega] at wf
      rw [if_pos q]
      simp only [fz_lt, wf]
      exact mid _ (by rw [if_pos (by omega)])
    · rw [if_neg q]
      exact mid _ (by rw [if_neg (by omega)])
theorem zz_w23 (n1 : a2 ≠ bo) (n2 : bn ≠ bo) (hw : ∀ i, 0 ≤ wr i ∧ wr i ≤ 99) (hL : 1 ≤ L ∧ L ≤ 16) (hd : d ≤ 64) (hm : m ≤ 4) :
    ∀ (s f : Nat) (w : fx_U), s ≤ m → s < f → zz_gr2 a2 bn bo be d wr w → (∀ q x : Nat, q ≤ m - s → x ≤ d → w bo (65 * q + x) = zz_R wr L d q x) →
    ∃ w2 : fx_U, kL_X12_laysWear_23 (m : Int) a2 (L : Int) (d : Int) be bo f ((m - s : Nat) + 1 : Int) w = kL_X12_laysWear_147 a2 (m : Int) (L : Int) (d : Int) be (m + 1) 0 (m : Int) w2 ∧ zz_gr2 a2 bn bo be d wr w2 ∧ ∀ q x : Nat, q ≤ m → x ≤ d → w2 bo (65 * q + x) = zz_R wr L d q x := by
  intro s
  induction s with
  | zero =>
    intro f w _ hf hs hT
    obtain ⟨g, rfl⟩ : ∃ g : Nat, f = g + 1 := ⟨f - 1, by omega⟩
    have eK : kL_X12_laysWear_23 (m : Int) a2 (L : Int) (d : Int) be bo (g + 1) ((m - 0 : Nat) + 1 : Int) w = kB_X12_laysWear_23 (kL_X12_laysWear_23 (m : Int) a2 (L : Int) (d : Int) be bo g) (m : Int) a2 (L : Int) (d : Int) be bo ((m - 0 : Nat) + 1 : Int) w := rfl
    rw [eK]
    unfold kB_X12_laysWear_23
    rw [if_pos (by omega), show Int.toNat ((m : Int) - 0) + 1 = m + 1 by omega]
    exact ⟨w, rfl, hs, fun q x h1 h2 => hT q x (by omega) h2⟩
  | succ s ih =>
    intro f w h0 hf hs hT
    obtain ⟨g, rfl⟩ : ∃ g : Nat, f = g + 1 := ⟨f - 1, by omega⟩
    have eK : kL_X12_laysWear_23 (m : Int) a2 (L : Int) (d : Int) be bo (g + 1) ((m - (s + 1) : Nat) + 1 : Int) w = kB_X12_laysWear_23 (kL_X12_laysWear_23 (m : Int) a2 (L : Int) (d : Int) be bo g) (m : Int) a2 (L : Int) (d : Int) be bo ((m - (s + 1) : Nat) + 1 : Int) w := rfl
    rw [eK]
    unfold kB_X12_laysWear_23
    rw [if_neg (by omega), show Int.toNat (64 - (-1)) + 1 = 66 from rfl]
    obtain ⟨w1, g1, g2, g3⟩ := zz_w32 (R := kL_X12_laysWear_23 (m : Int) a2 (L : Int) (d : Int) be bo g) (k := m - (s + 1)) n1 n2 hw hL hd (by omega) 65 66 w (Nat.le_refl _) (by omega) hs hT (fun x h1 h2 => by omega)
    rw [show ((65 : Nat) : Int) - 1 = 64 from rfl] at g1
    rw [g1, show ((m - (s + 1) : Nat) : Int) + 1 + 1 = ((m - s : Nat) : Int) + 1 by omega]
    exact ih g w1 (by omega) (by omega) g2 (fun q x h1 h2 => g3 q x (by omega) h2)
theorem zz_w164 {R : Int → Int → fx_U → fx_U} {k fr : Nat} {C : Int} (hw : ∀ i, 0 ≤ wr i ∧ wr i ≤ 99) (hL : 1 ≤ L ∧ L ≤ 16) (hd : d ≤ 64) (hm : m ≤ 4) (hk : k + 1 ≤ m) (hs : zz_gr2 a2 bn bo be d wr w) (hT : ∀ q x : Nat, q ≤ m → x ≤ d → w bo (65 * q + x) = zz_R wr L d q x) (hC : w bo (65 * (k + 1) + fr) = C) :
    ∀ (j f : Nat), j ≤ d → j < f → 0 ≤ zz_T wr L d (k + 1) j → zz_T wr L d (k + 1) j = C → kL_X12_laysWear_164 (L : Int) (d : Int) ((k + 1 : Nat) : Int) w a2 (fr : Int) (m : Int) be R f ((d - j : Nat) : Int) = R ((d - (zz_fd (zz_bg wr L d (zz_T wr L d k)) (zz_T wr L d (k + 1)) j - L) : Nat) : Int) (k : Int) (fx_pt w be (m - (k + 1)) ((d - zz_fd (zz_bg wr L d (zz_T wr L d k)) (zz_T wr L d (k + 1)) j : Nat) : Int)) := by
  intro j
  induction j with
  | zero =>
    intro f _ _ h
    have e : zz_T wr L d (k + 1) 0 = -1 := rfl
    omega
  | succ j ih =>
    intro f hj hf h hc
    obtain ⟨g, rfl⟩ : ∃ g : Nat, f = g + 1 := ⟨f - 1, by omega⟩
    have eK : kL_X12_laysWear_164 (L : Int) (d : Int) ((k + 1 : Nat) : Int) w a2 (fr : Int) (m : Int) be R (g + 1) ((d - (j + 1) : Nat) : Int) = kB_X12_laysWear_164 (kL_X12_laysWear_164 (L : Int) (d : Int) ((k + 1 : Nat) : Int) w a2 (fr : Int) (m : Int) be R g) (L : Int) (d : Int) ((k + 1 : Nat) : Int) w a2 (fr : Int) (m : Int) be R ((d - (j + 1) : Nat) : Int) := rfl
    rw [eK]
    have no : ¬ (0 ≤ zz_bg wr L d (zz_T wr L d k) (j + 1) ∧ zz_bg wr L d (zz_T wr L d k) (j + 1) = zz_T wr L d (k + 1) (j + 1)) → kJ_X12_laysWear_224 ((d - (j + 1) : Nat) : Int) (kL_X12_laysWear_164 (L : Int) (d : Int) ((k + 1 : Nat) : Int) w a2 (fr : Int) (m : Int) be R g) = R ((d - (zz_fd (zz_bg wr L d (zz_T wr L d k)) (zz_T wr L d (k + 1)) (j + 1) - L) : Nat) : Int) (k : Int) (fx_pt w be (m - (k + 1)) ((d - zz_fd (zz_bg wr L d (zz_T wr L d k)) (zz_T wr L d (k + 1)) (j + 1) : Nat) : Int)) := by
      intro q
      obtain ⟨z1, z2⟩ := zz_fd_no h q
      unfold kJ_X12_laysWear_224
      simp only [fz_lt]
      rw [z2, show ((d - (j + 1) : Nat) : Int) + 1 = ((d - j : Nat) : Int) by omega]
      exact ih g (by omega) (by omega) (by omega) (by omega)
    have bb := zz_bg_b (L := L) (d := d) (P := zz_T wr L d k) (j := j + 1) hw
    unfold kB_X12_laysWear_164
    simp only [fz_lt]
    by_cases q1 : (d : Int) < ((d - (j + 1) : Nat) : Int) + (L : Int)
    · rw [if_pos q1]
      refine no (fun z => ?_)
      rcases bb with b | ⟨b, -⟩
      · omega
      · omega
    · have wf := zz_wF (k := k) (i := d - (j + 1) + L) hs
      have wc := zz_wF (k := k + 1) (i := fr) hs
      rw [hC] at wc
      have eR : zz_R wr L d k (d - (j + 1) + L) = if 0 ≤ zz_T wr L d k (j + 1 - L) then zz_T wr L d k (j + 1 - L) else -1000000000 := by
        unfold zz_R
        rw [show d - (d - (j + 1) + L) = j + 1 - L by omega]
        by_cases q : 0 ≤ zz_T wr L d k (j + 1 - L)
        · rw [if_pos ⟨by omega, q⟩, if_pos q]
        · rw [if_neg (fun z => q z.2), if_neg q]
      rw [hT k _ (by omega) (by omega), eR, show ((d - (j + 1) + L : Nat) : Int) = ((d - (j + 1) : Nat) : Int) + (L : Int) by omega] at wf
      rw [if_neg q1]
      simp only [show ((k + 1 : Nat) : Int) - 1 = (k : Int) by omega, wf, wc]
      by_cases q2 : 0 ≤ zz_T wr L d k (j + 1 - L)
      · have tb := zz_T_b (d := d) hw hL.2 k (j + 1 - L)
        have b := zz_ws_b hw L (d - (j + 1))
        rcases bb with b1 | ⟨b1, b2, b3⟩
        · exfalso
          unfold zz_bg at b1
          rw [if_pos ⟨by omega, q2⟩] at b1
          omega
        · have wi := zz_wI (L := L) (i := d - (j + 1)) hs hw hL.2 hd (by omega)
          have e2 : fx_b_add (zz_ws wr L (d - (j + 1))) (zz_T wr L d k (j + 1 - L)) = zz_bg wr L d (zz_T wr L d k) (j + 1) := by
            rw [b2, zz_wadd (zz_sml ⟨by omega, by omega⟩) (zz_sml ⟨by omega, by omega⟩) (zz_sml ⟨by omega, by omega⟩)]
            omega
          simp only [if_pos q2, if_neg (show ¬ zz_T wr L d k (j + 1 - L) < 0 by omega), wi, e2]
          by_cases q3 : zz_bg wr L d (zz_T wr L d k) (j + 1) = C
          · have yes := zz_fd_yes (L := L) (d := d) (wr := wr) (k := k) (j := j) ⟨b3, by omega⟩
            have ok := zz_fd_ok (L := L) (d := d) (k := k) hw (j + 1) h
            rw [yes] at ok ⊢
            rw [if_pos q3]
            simp only [fz_ls]
            rw [show ((m : Int) - ((k + 1 : Nat) : Int)).toNat = m - (k + 1) by omega, show ((k + 1 : Nat) : Int) + (-1) = (k : Int) by omega, show ((d - (j + 1) : Nat) : Int) + (L : Int) = ((d - (j + 1 - L) : Nat) : Int) by omega]
          · rw [if_neg q3]
            exact no (fun z => by omega)
      · simp only [if_neg q2, if_pos (show (-1000000000 : Int) < 0 by decide)]
        refine no (fun z => ?_)
        rcases bb with b1 | ⟨b1, -⟩
        · omega
        · exact q2 b1.2
theorem zz_w147 (n3 : a2 ≠ be) (n4 : bn ≠ be) (n5 : bo ≠ be) (hw : ∀ i, 0 ≤ wr i ∧ wr i ≤ 99) (hL : 1 ≤ L ∧ L ≤ 16) (hd : d ≤ 64) (hm : m ≤ 4) (hmd : m * L ≤ d) :
    ∀ (s f : Nat) (w : fx_U), s ≤ m → s < f → zz_gr2 a2 bn bo be d wr w → (∀ q x : Nat, q ≤ m → x ≤ d → w bo (65 * q + x) = zz_R wr L d q x) → (∀ q : Nat, q < m - s → w be q = ((d - zz_st wr L d m q : Nat) : Int)) →
    ∃ w2 : fx_U, kL_X12_laysWear_147 a2 (m : Int) (L : Int) (d : Int) be f ((d - zz_J wr L d m (m - s) : Nat) : Int) (s : Int) w = w2 ∧ zz_gr2 a2 bn bo be d wr w2 ∧ (∀ q x : Nat, q ≤ m → x ≤ d → w2 bo (65 * q + x) = zz_R wr L d q x) ∧ ∀ q : Nat, q < m → w2 be q = ((d - zz_st wr L d m q : Nat) : Int) := by
  have t0 := zz_T_f (d := d) hw hL.1 m d hmd
  have r0 : zz_R wr L d m 0 = zz_T wr L d m d := by
    unfold zz_R
    rw [Nat.sub_zero, if_pos ⟨Nat.zero_le d, t0⟩]
  intro s
  induction s with
  | zero =>
    intro f w _ hf hs hT hE
    obtain ⟨g, rfl⟩ : ∃ g : Nat, f = g + 1 := ⟨f - 1, by omega⟩
    have eK : kL_X12_laysWear_147 a2 (m : Int) (L : Int) (d : Int) be (g + 1) ((d - zz_J wr L d m (m - 0) : Nat) : Int) ((0 : Nat) : Int) w = kB_X12_laysWear_147 (kL_X12_laysWear_147 a2 (m : Int) (L : Int) (d : Int) be g) a2 (m : Int) (L : Int) (d : Int) be ((d - zz_J wr L d m (m - 0) : Nat) : Int) ((0 : Nat) : Int) w := rfl
    rw [eK]
    unfold kB_X12_laysWear_147
    rw [if_neg (by omega)]
    exact ⟨w, rfl, hs, hT, fun q h => hE q (by omega)⟩
  | succ s ih =>
    intro f w h0 hf hs hT hE
    obtain ⟨g, rfl⟩ : ∃ g : Nat, f = g + 1 := ⟨f - 1, by omega⟩
    have eK : kL_X12_laysWear_147 a2 (m : Int) (L : Int) (d : Int) be (g + 1) ((d - zz_J wr L d m (m - (s + 1)) : Nat) : Int) ((s + 1 : Nat) : Int) w = kB_X12_laysWear_147 (kL_X12_laysWear_147 a2 (m : Int) (L : Int) (d : Int) be g) a2 (m : Int) (L : Int) (d : Int) be ((d - zz_J wr L d m (m - (s + 1)) : Nat) : Int) ((s + 1 : Nat) : Int) w := rfl
    rw [eK]
    have jo := zz_J_ok (L := L) (d := d) (m := m) hw hL.1 hmd (m - (s + 1)) (by omega)
    rw [show m - (m - (s + 1)) = s + 1 by omega] at jo
    have w0 := zz_wF (k := m) (i := 0) hs
    rw [hT m 0 (Nat.le_refl m) (Nat.zero_le d), r0, show ((0 : Nat) : Int) = 0 from rfl] at w0
    have hC : w bo (65 * (s + 1) + (d - zz_J wr L d m (m - (s + 1)))) = zz_T wr L d (s + 1) (zz_J wr L d m (m - (s + 1))) := by
      rw [hT (s + 1) _ h0 (by omega)]
      unfold zz_R
      rw [show d - (d - zz_J wr L d m (m - (s + 1))) = zz_J wr L d m (m - (s + 1)) by omega, if_pos ⟨by omega, jo.2⟩]
    unfold kB_X12_laysWear_147
    rw [if_pos (by omega)]
    simp only [fz_lt, w0]
    rw [if_neg (by omega), zz_w164 (R := kL_X12_laysWear_147 a2 (m : Int) (L : Int) (d : Int) be g) (k := s) hw hL hd hm h0 hs hT hC (zz_J wr L d m (m - (s + 1))) 65 jo.1 (by omega) jo.2 rfl]
    have eS : zz_st wr L d m (m - (s + 1)) = zz_fd (zz_bg wr L d (zz_T wr L d s)) (zz_T wr L d (s + 1)) (zz_J wr L d m (m - (s + 1))) := by
      unfold zz_st
      rw [show m - (m - (s + 1)) - 1 = s by omega]
    have eJ : zz_J wr L d m (m - s) = zz_st wr L d m (m - (s + 1)) - L := by
      rw [show m - s = m - (s + 1) + 1 by omega]
      rfl
    rw [← eS, ← eJ]
    refine ih g _ (by omega) (by omega) (hs.pt n3 n4) (fun q x h1 h2 => ?_) (fun q h1 => ?_)
    · rw [zz_pa n5]
      exact hT q x h1 h2
    · by_cases e : q = m - (s + 1)
      · rw [e, zz_ps]
      · rw [zz_pj e]
        exact hE q (by omega)
theorem zz_lW (n1 : a2 ≠ bo) (n2 : bn ≠ bo) (n3 : a2 ≠ be) (n4 : bn ≠ be) (n5 : bo ≠ be) (hw : ∀ i, 0 ≤ wr i ∧ wr i ≤ 99) (hL : 1 ≤ L ∧ L ≤ 16) (hd : d ≤ 64) (hm : 1 ≤ m ∧ m ≤ 4) (hmd : m * L ≤ d) (hs : zz_gr2 a2 bn bo be d wr w) : zz_gr2 a2 bn bo be d wr (f_X12_laysWear w a2 (m : Int) (L : Int)) ∧ f_X12_laysWear w a2 (m : Int) (L : Int) bo (65 * m + 0) = zz_T wr L d m d ∧ ∀ q : Nat, q < m → f_X12_laysWear w a2 (m : Int) (L : Int) be q = ((d - zz_st wr L d m q : Nat) : Int) := by
  have t0 := zz_T_f (d := d) hw hL.1 m d hmd
  have two : ∀ (t f : Nat) (w : fx_U), t ≤ 65 → t < f → zz_gr2 a2 bn bo be d wr w → (∀ x : Nat, x < 65 - t → w bo x = 0) → ∃ w2 : fx_U, kL_X12_laysWear_2 (m : Int) a2 (L : Int) (d : Int) be bo f ((65 - t : Nat) : Int) w = w2 ∧ zz_gr2 a2 bn bo be d wr w2 ∧ (∀ q x : Nat, q ≤ m → x ≤ d → w2 bo (65 * q + x) = zz_R wr L d q x) ∧ ∀ q : Nat, q < m → w2 be q = ((d - zz_st wr L d m q : Nat) : Int) := by
    intro t
    induction t with
    | zero =>
      intro f w _ hf hs hz
      obtain ⟨g, rfl⟩ : ∃ g : Nat, f = g + 1 := ⟨f - 1, by omega⟩
      have eK : kL_X12_laysWear_2 (m : Int) a2 (L : Int) (d : Int) be bo (g + 1) ((65 - 0 : Nat) : Int) w = kB_X12_laysWear_2 (kL_X12_laysWear_2 (m : Int) a2 (L : Int) (d : Int) be bo g) (m : Int) a2 (L : Int) (d : Int) be bo ((65 - 0 : Nat) : Int) w := rfl
      rw [eK]
      unfold kB_X12_laysWear_2
      rw [if_pos (by omega), show Int.toNat (5 - 1) + 1 = 5 from rfl]
      obtain ⟨w1, g1, g2, g3⟩ := zz_w23 (be := be) (m := m) n1 n2 hw hL hd hm.2 m 5 w (Nat.le_refl m) (by omega) hs (fun q x h1 h2 => by
        have eq : q = 0 := by omega
        rw [eq, show 65 * 0 + x = x by omega, hz x (by omega)]
        unfold zz_R
        rw [if_pos ⟨h2, Int.le_refl 0⟩]
        rfl)
      rw [show ((m - m : Nat) : Int) + 1 = 1 by omega] at g1
      rw [g1]
      have e0 : zz_J wr L d m (m - m) = d := by
        rw [Nat.sub_self]
        rfl
      have z := zz_w147 n3 n4 n5 hw hL hd hm.2 hmd m (m + 1) w1 (Nat.le_refl m) (by omega) g2 g3 (fun q h => by omega)
      rw [e0, Nat.sub_self, show ((0 : Nat) : Int) = 0 from rfl] at z
      exact z
    | succ t ih =>
      intro f w h0 hf hs hz
      obtain ⟨g, rfl⟩ : ∃ g : Nat, f = g + 1 := ⟨f - 1, by omega⟩
      have eK : kL_X12_laysWear_2 (m : Int) a2 (L : Int) (d : Int) be bo (g + 1) ((65 - (t + 1) : Nat) : Int) w = kB_X12_laysWear_2 (kL_X12_laysWear_2 (m : Int) a2 (L : Int) (d : Int) be bo g) (m : Int) a2 (L : Int) (d : Int) be bo ((65 - (t + 1) : Nat) : Int) w := rfl
      rw [eK]
      unfold kB_X12_laysWear_2
      rw [if_neg (by omega)]
      simp only [fz_lt, fz_ls, Int.toNat_natCast]
      rw [show ((65 - (t + 1) : Nat) : Int) + 1 = ((65 - t : Nat) : Int) by omega]
      refine ih g _ (by omega) (by omega) (hs.pt n1 n2) (fun x hx => ?_)
      by_cases e : x = 65 - (t + 1)
      · rw [e, zz_ps]
      · rw [zz_pj e]
        exact hz x (by omega)
  have e512 : w bn (Int.toNat 512) = (d : Int) := hs.1.2.2.2
  have eF : f_X12_laysWear w a2 (m : Int) (L : Int) = kL_X12_laysWear_2 (m : Int) a2 (L : Int) (d : Int) be bo 66 0 w := by
    unfold f_X12_laysWear
    simp only [fz_lt, fz_lr, hs.1.1, hs.1.2.1, hs.1.2.2.1, Int.toNat_natCast, e512]
    rw [show Int.toNat (65 - 0) + 1 = 66 from rfl]
  obtain ⟨w2, g1, g2, g3, g4⟩ := two 65 66 w (Nat.le_refl _) (by omega) hs (fun x h => by omega)
  rw [show ((65 - 65 : Nat) : Int) = 0 from rfl] at g1
  rw [eF, g1]
  refine ⟨g2, ?_, g4⟩
  rw [g3 m 0 (Nat.le_refl m) (Nat.zero_le d)]
  unfold zz_R
  rw [Nat.sub_zero, if_pos ⟨Nat.zero_le d, t0⟩]
end RenewR
/-- renewed answers alike on both -/
theorem zz_renF {u v : fx_U} {a1 a2 so M br c2 E bn bo be d : Nat} {x1 x2 x3 : Int} (hn : zz_gn so M br c2 E) (hso : u a1 12 = (so : Int)) (hb : u a1 5 = (br : Int)) (hM : u so 0 = (M : Int)) (hE : u so 1 = (E : Int)) (hr : ∀ j : Nat, j < 5 → u M j = ((M + 1 + j : Nat) : Int)) (hc : u br 3 = (c2 : Int)) (hD : u br 0 = (d : Int)) (hd : 8 ≤ d ∧ d ≤ 64) (hbn : v a2 0 = (bn : Int)) (hbo : v a2 43 = (bo : Int)) (hbe : v a2 44 = (be : Int)) (hD2 : v bn 512 = (d : Int)) (n1 : a2 ≠ bo) (n2 : bn ≠ bo) (n3 : a2 ≠ be) (n4 : bn ≠ be) (n5 : bo ≠ be) (hk : ∀ k : Nat, k < 64 → v bn (128 + k) = u c2 k ∧ 0 ≤ u c2 k ∧ u c2 k ≤ 99) : (f_X11_renewed u a1 x1 x2 x3).1 = (f_X12_renewed v a2 x1 x2 x3).1 := by
  obtain ⟨wr, hwr⟩ : ∃ wr : Nat → Int, wr = fun i => if i < 64 then u c2 i else 0 := ⟨_, rfl⟩
  have k1 : ∀ i : Nat, i < 64 → u c2 i = wr i := fun i hi => by rw [hwr]; exact (if_pos hi).symm
  have k2 : ∀ i : Nat, i < 64 → v bn (128 + i) = wr i := fun i hi => (hk i hi).1.trans (k1 i hi)
  have k3 : ∀ i, 0 ≤ wr i ∧ wr i ≤ 99 := fun i => by
    by_cases q : i < 64
    · rw [← k1 i q]
      exact (hk i q).2
    · rw [hwr]
      show 0 ≤ (if i < 64 then u c2 i else 0) ∧ (if i < 64 then u c2 i else 0) ≤ 99
      rw [if_neg q]
      decide
  have both : (1 ≤ x1 ∧ x1 ≤ 4) → (1 ≤ x2 ∧ x2 ≤ 16) → (x3 = 10 ∨ (0 ≤ x3 ∧ x3 ≤ x1 - 1)) → (kJ_X11_renewed_38 x1 x2 u a1 x3).1 = (kJ_X12_renewed_38 x1 x2 v a2 x3).1 := by
    intro c1 c2' c3
    obtain ⟨m, rfl⟩ : ∃ m : Nat, x1 = (m : Int) := ⟨x1.toNat, by omega⟩
    obtain ⟨L, rfl⟩ : ∃ L : Nat, x2 = (L : Int) := ⟨x2.toNat, by omega⟩
    have e512 : v bn (Int.toNat 512) = (d : Int) := hD2
    have emul : (m : Int) * (L : Int) = ((m * L : Nat) : Int) := (Int.natCast_mul m L).symm
    unfold kJ_X11_renewed_38 kJ_X12_renewed_38
    simp only [fz_lt, fz_lr, fz_ls, hb, hbn, hso, hD, e512, Int.toNat_natCast, emul]
    by_cases q : (d : Int) < ((m * L : Nat) : Int)
    · rw [if_pos q, if_pos q]
    · have hL : 1 ≤ L ∧ L ≤ 16 := ⟨by omega, by omega⟩
      obtain ⟨s1, s2, s3⟩ := zz_lW (m := m) (L := L) (w := v) n1 n2 n3 n4 n5 k3 hL hd.2 ⟨by omega, by omega⟩ (by omega) ⟨⟨hbn, hbo, hbe, hD2⟩, k2⟩
      have g0 : zz_gm so M br c2 E d wr u := ⟨⟨hM, hE, hD, hc⟩, hr, k1⟩
      have ch : ∃ w2 : fx_U, f_X10_choose u so br (m : Int) (L : Int) = (zz_T wr L d m d, w2) ∧ w2 so 1 = (E : Int) ∧ ∀ q : Nat, q < m → w2 E q = ((d - zz_st wr L d m q : Nat) : Int) := by
        unfold f_X10_choose
        rcases (show m = 1 ∨ m = 2 ∨ m = 3 ∨ m = 4 by omega) with rfl | rfl | rfl | rfl
        · rw [if_pos (by decide), show Int.toNat (2 - 0) + 1 = 1 + 2 from rfl]
          exact zz_ch_c0 hn k3 hd.2 hL (by decide) (by omega) g0
        · rw [if_neg (by decide), if_pos (by decide), show Int.toNat (3 - 0) + 1 = 2 + 2 from rfl]
          exact zz_ch_c1 hn k3 hd.2 hL (by decide) (by omega) g0
        · rw [if_neg (by decide), if_neg (by decide), if_pos (by decide), show Int.toNat (4 - 0) + 1 = 3 + 2 from rfl]
          exact zz_ch_c2 hn k3 hd.2 hL (by decide) (by omega) g0
        · rw [if_neg (by decide), if_neg (by decide), if_neg (by decide), show Int.toNat (5 - 0) + 1 = 4 + 2 from rfl]
          exact zz_ch_c3 hn k3 hd.2 hL (by decide) (by omega) g0
      obtain ⟨w2, p1, p2, p3⟩ := ch
      have wf := zz_wF (k := m) (i := 0) s1
      rw [s2, show ((0 : Nat) : Int) = 0 from rfl] at wf
      rw [if_neg q, if_neg q]
      simp only [fz_lc, p1, p2, wf, Int.toNat_natCast, s1.1.2.2.1]
      by_cases q3 : x3 = 10
      · rw [if_pos q3, if_pos q3]
      · rw [if_neg q3, if_neg q3]
        dsimp only
        rw [p3 x3.toNat (by omega)]
        exact (s3 x3.toNat (by omega)).symm
  unfold f_X11_renewed f_X12_renewed
  simp only [fz_lt, zz_is, zz_is2]
  by_cases c1 : 1 ≤ x1 ∧ x1 ≤ 4
  · by_cases c2' : 1 ≤ x2 ∧ x2 ≤ 16
    · simp only [if_pos c1, if_pos c2', if_neg zz_n10]
      by_cases c3 : x3 = 10
      · rw [if_pos c3, if_pos c3]
        exact both c1 c2' (Or.inl c3)
      · rw [if_neg c3, if_neg c3]
        by_cases c4 : 0 ≤ x3 ∧ x3 ≤ x1 - 1
        · simp only [if_pos c4, if_neg zz_n10]
          exact both c1 c2' (Or.inr c4)
        · simp only [if_neg c4, if_true]
    · simp only [if_pos c1, if_neg c2', if_neg zz_n10, if_true]
  · simp only [if_neg c1, if_true]
