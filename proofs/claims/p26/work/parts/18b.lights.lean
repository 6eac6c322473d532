/-! THE LIGHTS: both ways of waiting come to one sum -/
theorem zz_max2 {u : fx_U} {a b : Int} : f_X12_max u a b = max a b := by
  unfold f_X12_max
  rw [Int.max_def]
  split <;> split <;> omega
theorem zz_xor {x y : Int} (hx : zz_in x) (hy : zz_in y) (h0 : 0 < y) : fx_b_xor x y < 0 ↔ x < 0 := by
  unfold fx_b_xor
  have e : ∀ X Y : Int32, (X ^^^ Y).toInt < 0 ↔ ¬ ((X.toInt < 0) ↔ (Y.toInt < 0)) := by
    intro X Y
    have h1 : ∀ Z : Int32, Z.toInt < 0 ↔ Z.toBitVec.msb = true := fun Z => by
      show Z.toBitVec.toInt < 0 ↔ _
      rw [BitVec.msb_eq_toInt, decide_eq_true_iff]
    rw [h1, h1, h1, Int32.toBitVec_xor, BitVec.msb_xor]
    cases X.toBitVec.msb <;> cases Y.toBitVec.msb <;> simp
  rw [e, zz_ofInt hx, zz_ofInt hy]
  omega
theorem zz_fmod {u : fx_U} {x y : Int} (hx : zz_in x) (hy : zz_in y) (h0 : 0 < y) : f_J9_floorMod_7cf53 u x y = x % y := by
  unfold f_J9_floorMod_7cf53
  simp only [fz_lt]
  have h1 := Int.emod_nonneg x (show y ≠ 0 by omega)
  have h2 := Int.emod_lt_of_pos x h0
  have e := Int.tmod_eq_emod (a := x) (b := y)
  by_cases hn : x < 0
  · rw [if_pos ((zz_xor hx hy h0).mpr hn)]
    by_cases hd : y ∣ x
    · rw [if_pos (Or.inr hd)] at e
      have h3 := Int.emod_eq_zero_of_dvd hd
      rw [if_pos (by omega)]
      omega
    · rw [if_neg (fun q => by rcases q with q | q; omega; exact hd q), Int.natAbs_of_nonneg (by omega)] at e
      have hz : x % y ≠ 0 := fun q => hd (Int.dvd_of_emod_eq_zero q)
      unfold zz_in at hx hy
      rw [if_neg (by omega), zz_wadd ⟨by omega, by omega⟩ hy ⟨by omega, by omega⟩]
      omega
  · rw [if_neg (fun q => hn ((zz_xor hx hy h0).mp q)), Int.tmod_eq_emod_of_nonneg (by omega)]
theorem zz_shift {m s P : Int} (hP : 0 < P) (hs : 0 ≤ s ∧ s ≤ P) : (m - s) % P = if m % P < s then m % P - s + P else m % P - s := by
  have h1 := Int.emod_nonneg m (show P ≠ 0 by omega)
  have h2 := Int.emod_lt_of_pos m hP
  have h3 : (m - s) % P = (m % P - s) % P := by
    have := Int.emod_add_emod m P (-s)
    rw [show m - s = m + -s by omega, show m % P - s = m % P + -s by omega]
    exact this.symm
  rw [h3]
  split
  · by_cases hz : m % P - s + P < P
    · rw [← Int.add_emod_right (m % P - s) P]
      exact Int.emod_eq_of_lt (by omega) hz
    · omega
  · exact Int.emod_eq_of_lt (by omega) (by omega)
theorem zz_ng {u : fx_U} {m e g r : Int} (hm : 0 ≤ m ∧ m ≤ 5000) (he : e = 0 ∨ e = 1) (hg : 1 ≤ g ∧ g ≤ 20) (hr : 0 ≤ r ∧ r ≤ 9) : f_X2_nextGreen u m e g r = m + q_gw m e g r := by
  have h1 := Int.emod_nonneg m (show 2 * g + 2 * r ≠ 0 by omega)
  have h2 := Int.emod_lt_of_pos m (show 0 < 2 * g + 2 * r by omega)
  unfold f_X2_nextGreen kJ_X2_nextGreen_22
  simp only [fz_lt, zz_max]
  rw [show max 1 (2 * (g + r)) = 2 * g + 2 * r by omega]
  rcases he with rfl | rfl
  · rw [if_pos rfl, zz_wsub ⟨by omega, by omega⟩ ⟨by omega, by omega⟩ ⟨by omega, by omega⟩, zz_fmod ⟨by omega, by omega⟩ ⟨by omega, by omega⟩ (by omega), Int.sub_zero]
    unfold q_gw
    rw [if_pos rfl]
    by_cases h : m % (2 * g + 2 * r) < g
    · rw [if_pos h, if_pos h]
      omega
    · rw [if_neg h, if_neg h, zz_wadd ⟨by omega, by omega⟩ ⟨by omega, by omega⟩ ⟨by omega, by omega⟩, zz_wsub ⟨by omega, by omega⟩ ⟨by omega, by omega⟩ ⟨by omega, by omega⟩]
      omega
  · rw [if_neg (by decide), zz_wsub ⟨by omega, by omega⟩ ⟨by omega, by omega⟩ ⟨by omega, by omega⟩, zz_fmod ⟨by omega, by omega⟩ ⟨by omega, by omega⟩ (by omega), zz_shift (by omega) (by omega)]
    unfold q_gw
    rw [if_neg (show ¬ (1 : Int) = 0 by decide)]
    generalize m % (2 * g + 2 * r) = t at *
    by_cases k1 : t < g + r
    · rw [if_pos k1, if_pos k1, if_neg (by omega), zz_wadd ⟨by omega, by omega⟩ ⟨by omega, by omega⟩ ⟨by omega, by omega⟩, zz_wsub ⟨by omega, by omega⟩ ⟨by omega, by omega⟩ ⟨by omega, by omega⟩]
      omega
    · rw [if_neg k1, if_neg k1]
      by_cases k2 : t ≤ 2 * g + r - 1
      · rw [if_pos k2, if_pos (by omega)]
        omega
      · rw [if_neg k2, if_neg (by omega), zz_wadd ⟨by omega, by omega⟩ ⟨by omega, by omega⟩ ⟨by omega, by omega⟩, zz_wsub ⟨by omega, by omega⟩ ⟨by omega, by omega⟩ ⟨by omega, by omega⟩]
        omega
/-- when an end is free again, behind the first k cars -/
def zz_fr (c s : Nat → Int) (g r e : Int) : Nat → Int
  | 0 => 0
  | k + 1 => if s k = e then max (c k) (zz_fr c s g r e k) + q_gw (max (c k) (zz_fr c s g r e k)) e g r + 1 else zz_fr c s g r e k
/-- how long the first k cars of an end wait -/
def zz_sm (c s : Nat → Int) (g r e : Int) : Nat → Int
  | 0 => 0
  | k + 1 => if s k = e then zz_sm c s g r e k + (zz_fr c s g r e (k + 1) - 1 - c k) else zz_sm c s g r e k
section Chain
variable {c s : Nat → Int} {g r e : Int}
theorem zz_fr_y {k : Nat} (h : s k = e) : zz_fr c s g r e (k + 1) = max (c k) (zz_fr c s g r e k) + q_gw (max (c k) (zz_fr c s g r e k)) e g r + 1 := by
  show (if s k = e then _ else _) = _
  rw [if_pos h]
theorem zz_fr_n {k : Nat} (h : ¬ s k = e) : zz_fr c s g r e (k + 1) = zz_fr c s g r e k := by
  show (if s k = e then _ else _) = _
  rw [if_neg h]
theorem zz_sm_y {k : Nat} (h : s k = e) : zz_sm c s g r e (k + 1) = zz_sm c s g r e k + (zz_fr c s g r e (k + 1) - 1 - c k) := by
  show (if s k = e then _ else _) = _
  rw [if_pos h]
theorem zz_sm_n {k : Nat} (h : ¬ s k = e) : zz_sm c s g r e (k + 1) = zz_sm c s g r e k := by
  show (if s k = e then _ else _) = _
  rw [if_neg h]
theorem zz_fr_b (hc : ∀ k, 0 ≤ c k ∧ c k ≤ 255) (hg : 1 ≤ g ∧ g ≤ 20) (hr : 0 ≤ r ∧ r ≤ 9) (k : Nat) : 0 ≤ zz_fr c s g r e k ∧ zz_fr c s g r e k ≤ 255 + 39 * k := by
  induction k with
  | zero =>
    show (0 : Int) ≤ 0 ∧ (0 : Int) ≤ 255 + 39 * ((0 : Nat) : Int)
    omega
  | succ k ih =>
    by_cases h : s k = e
    · rw [zz_fr_y h]
      have h1 := hc k
      have h2 := q_gw_le (m := max (c k) (zz_fr c s g r e k)) (e := e) hg hr
      omega
    · rw [zz_fr_n h]
      omega
theorem zz_sm_b (hc : ∀ k, 0 ≤ c k ∧ c k ≤ 255) (hg : 1 ≤ g ∧ g ≤ 20) (hr : 0 ≤ r ∧ r ≤ 9) (k : Nat) (hk : k ≤ 20) : 0 ≤ zz_sm c s g r e k ∧ zz_sm c s g r e k ≤ 1100 * k := by
  induction k with
  | zero =>
    show (0 : Int) ≤ 0 ∧ (0 : Int) ≤ 1100 * ((0 : Nat) : Int)
    omega
  | succ k ih =>
    have ih := ih (by omega)
    by_cases h : s k = e
    · rw [zz_sm_y h]
      have h1 := hc k
      have h3 := zz_fr_b (c := c) (s := s) (e := e) hc hg hr (k + 1)
      have h4 : c k ≤ zz_fr c s g r e (k + 1) - 1 := by
        rw [zz_fr_y h]
        have h2 := q_gw_le (m := max (c k) (zz_fr c s g r e k)) (e := e) hg hr
        omega
      omega
    · rw [zz_sm_n h]
      omega
end Chain
/-- the lane: its cells, and that they are apart -/
def zz_ln (u : fx_U) (l L1 L2 L3 : Nat) : Prop := u l 1 = (L1 : Int) ∧ u l 2 = (L2 : Int) ∧ u l 3 = (L3 : Int)
def zz_ap (l L1 L2 L3 : Nat) : Prop := (L3 ≠ l ∧ L3 ≠ L1 ∧ L3 ≠ L2) ∧ L1 ≠ l ∧ L2 ≠ l ∧ L1 ≠ L2
theorem zz_wstep {β : Type} {R : Int → Int → fx_U → β} {w : fx_U} {L x : Nat} {M G ck all k1 : Int} (m1 : 0 ≤ M ∧ M ≤ 2000) (gq : 0 ≤ G ∧ G ≤ 38) (hc : 0 ≤ ck ∧ ck ≤ 255) (n0 : 0 ≤ all ∧ all ≤ 44000) : R (fx_b_add all (fx_b_sub (M + G) ck)) k1 (fx_pt w L x (fx_b_add (M + G) 1)) = R (all + (M + G + 1 - 1 - ck)) k1 (fx_pt w L x (M + G + 1)) := by
  have n2 : fx_b_add (M + G) 1 = M + G + 1 := zz_wadd (zz_sml (by omega)) (zz_sml (by omega)) (zz_sml (by omega))
  have n3 : fx_b_sub (M + G) ck = M + G - ck := zz_wsub (zz_sml (by omega)) (zz_sml (by omega)) (zz_sml (by omega))
  have n4 : fx_b_add all (M + G - ck) = all + (M + G + 1 - 1 - ck) := by
    rw [zz_wadd (zz_sml (by omega)) (zz_sml (by omega)) (zz_sml (by omega))]
    omega
  rw [n2, n3, n4]
section Waits
variable {l L1 L2 L3 n : Nat} {c s : Nat → Int} {g r : Int}
theorem zz_waits_L (ha : zz_ap l L1 L2 L3) (hc : ∀ k, 0 ≤ c k ∧ c k ≤ 255) (hs : ∀ k, k < n → s k = 0 ∨ s k = 1) (hn : n ≤ 20) (hg : 1 ≤ g ∧ g ≤ 20) (hr : 0 ≤ r ∧ r ≤ 9) :
    ∀ (fuel k : Nat) (w : fx_U) (all : Int), k ≤ n → 20 - k < fuel → w l 0 = (n : Int) → zz_ln w l L1 L2 L3 → (∀ j, j < n → w L1 j = c j ∧ w L2 j = s j) → w L3 0 = zz_fr c s g r 0 k → w L3 1 = zz_fr c s g r 1 k → all = zz_sm c s g r 0 k + zz_sm c s g r 1 k →
      (kL_X2_waits_19 l L3 g r fuel all k w).1 = zz_sm c s g r 0 n + zz_sm c s g r 1 n ∧ ∀ b, b ≠ L3 → ∀ i, (kL_X2_waits_19 l L3 g r fuel all k w).2 b i = w b i := by
  intro fuel
  induction fuel with
  | zero => intro k w all h1 h2; omega
  | succ fuel ih =>
    intro k w all hk hf h0 hl hcs f0 f1 hall
    obtain ⟨⟨a1, a2, a3⟩, a4, a5, a6⟩ := ha
    obtain ⟨l1, l2, l3⟩ := hl
    have eK : kL_X2_waits_19 l L3 g r (fuel + 1) all k w = kB_X2_waits_19 (kL_X2_waits_19 l L3 g r fuel) l L3 g r all k w := rfl
    rw [eK]
    unfold kB_X2_waits_19
    simp only [fz_lt, fz_lr, h0, l2, Int.toNat_natCast]
    by_cases hkn : (k : Int) < n
    · have hk2 : k < n := by omega
      simp only [if_pos hkn, (hcs k hk2).2]
      have b0 := zz_fr_b (c := c) (s := s) (e := 0) hc hg hr k
      have b1 := zz_fr_b (c := c) (s := s) (e := 1) hc hg hr k
      have s0 := zz_sm_b (c := c) (s := s) (e := 0) hc hg hr k (by omega)
      have s1 := zz_sm_b (c := c) (s := s) (e := 1) hc hg hr k (by omega)
      have ck := hc k
      have step : ∀ (e : Int) (x : Nat), (e = 0 ∨ e = 1) → e.toNat = x → s k = e → w L3 x = zz_fr c s g r e k →
          (kJ_X2_waits_43 w l k L3 g r all (kL_X2_waits_19 l L3 g r fuel) e) = kL_X2_waits_19 l L3 g r fuel (all + (zz_fr c s g r e (k + 1) - 1 - c k)) ((k + 1 : Nat) : Int) (fx_pt w L3 x (zz_fr c s g r e (k + 1))) := by
        intro e x he hx hse hfe
        have be := zz_fr_b (c := c) (s := s) (e := e) hc hg hr k
        have gq := q_gw_le (m := max (c k) (zz_fr c s g r e k)) (e := e) hg hr
        unfold kJ_X2_waits_43
        simp only [fz_lt, fz_lr, fz_ls, l1, Int.toNat_natCast, hx, (hcs k hk2).1, hfe, zz_max]
        rw [zz_fr_y hse]
        obtain ⟨M, hM⟩ : ∃ M : Int, M = max (c k) (zz_fr c s g r e k) := ⟨_, rfl⟩
        rw [← hM] at gq ⊢
        have m1 : 0 ≤ M ∧ M ≤ 2000 := by omega
        have n1 : f_X2_nextGreen w M e g r = M + q_gw M e g r := zz_ng (by omega) he hg hr
        have n0 : 0 ≤ all ∧ all ≤ 44000 := by omega
        have n5 : (k : Int) + 1 = ((k + 1 : Nat) : Int) := by omega
        rw [n1, n5]
        exact zz_wstep m1 gq ck n0
      rcases hs k hk2 with h | h
      · rw [if_pos h, step 0 0 (Or.inl rfl) rfl h f0]
        have q := ih (k + 1) (fx_pt w L3 0 (zz_fr c s g r 0 (k + 1))) (all + (zz_fr c s g r 0 (k + 1) - 1 - c k)) (by omega) (by omega)
          (by rw [zz_pa (Ne.symm a1)]; exact h0) ⟨by rw [zz_pa (Ne.symm a1)]; exact l1, by rw [zz_pa (Ne.symm a1)]; exact l2, by rw [zz_pa (Ne.symm a1)]; exact l3⟩
          (fun j hj => by rw [zz_pa (Ne.symm a2), zz_pa (Ne.symm a3)]; exact hcs j hj) zz_ps
          (by rw [zz_pj (by decide), zz_fr_n (by rw [h]; decide)]; exact f1) (by rw [zz_sm_y h, zz_sm_n (e := 1) (by rw [h]; decide), hall]; omega)
        exact ⟨q.1, fun b hb i => by rw [q.2 b hb i, zz_pa hb]⟩
      · rw [if_neg (by rw [h]; decide), step 1 1 (Or.inr rfl) rfl h f1]
        have q := ih (k + 1) (fx_pt w L3 1 (zz_fr c s g r 1 (k + 1))) (all + (zz_fr c s g r 1 (k + 1) - 1 - c k)) (by omega) (by omega)
          (by rw [zz_pa (Ne.symm a1)]; exact h0) ⟨by rw [zz_pa (Ne.symm a1)]; exact l1, by rw [zz_pa (Ne.symm a1)]; exact l2, by rw [zz_pa (Ne.symm a1)]; exact l3⟩
          (fun j hj => by rw [zz_pa (Ne.symm a2), zz_pa (Ne.symm a3)]; exact hcs j hj)
          (by rw [zz_pj (by decide), zz_fr_n (by rw [h]; decide)]; exact f0) zz_ps (by rw [zz_sm_n (e := 0) (by rw [h]; decide), zz_sm_y h, hall]; omega)
        exact ⟨q.1, fun b hb i => by rw [q.2 b hb i, zz_pa hb]⟩
    · have e1 : k = n := by omega
      rw [if_neg hkn]
      subst e1
      exact ⟨hall, fun _ _ _ => rfl⟩
theorem zz_waits {u : fx_U} (ha : zz_ap l L1 L2 L3) (hc : ∀ k, 0 ≤ c k ∧ c k ≤ 255) (hs : ∀ k, k < n → s k = 0 ∨ s k = 1) (hn : n ≤ 20) (hg : 1 ≤ g ∧ g ≤ 20) (hr : 0 ≤ r ∧ r ≤ 9) (h0 : u l 0 = (n : Int)) (hl : zz_ln u l L1 L2 L3) (hcs : ∀ j, j < n → u L1 j = c j ∧ u L2 j = s j) :
    (f_X2_waits u l g r).1 = zz_sm c s g r 0 n + zz_sm c s g r 1 n ∧ ∀ b, b ≠ L3 → ∀ i, (f_X2_waits u l g r).2 b i = u b i := by
  have ha' := ha
  obtain ⟨⟨a1, a2, a3⟩, a4, a5, a6⟩ := ha'
  obtain ⟨l1, l2, l3⟩ := hl
  have e : f_X2_waits u l g r = kL_X2_waits_19 l L3 g r (20 + 1) 0 ((0 : Nat) : Int) (fx_pt (fx_pt u L3 0 0) L3 1 0) := by
    unfold f_X2_waits
    simp only [fz_lr, fz_ls]
    rw [l3, Int.toNat_natCast, show Int.toNat (20 - 0) + 1 = 20 + 1 from rfl, show Int.toNat 0 = 0 from rfl, show Int.toNat 1 = 1 from rfl, show ((0 : Nat) : Int) = 0 from rfl]
  rw [e]
  have q := zz_waits_L (c := c) (s := s) ha hc hs hn hg hr 21 0 (fx_pt (fx_pt u L3 0 0) L3 1 0) 0 (by omega) (by omega)
    (by rw [zz_pa (Ne.symm a1), zz_pa (Ne.symm a1)]; exact h0) ⟨by rw [zz_pa (Ne.symm a1), zz_pa (Ne.symm a1)]; exact l1, by rw [zz_pa (Ne.symm a1), zz_pa (Ne.symm a1)]; exact l2, by rw [zz_pa (Ne.symm a1), zz_pa (Ne.symm a1)]; exact l3⟩
    (fun j hj => by rw [zz_pa (Ne.symm a2), zz_pa (Ne.symm a2), zz_pa (Ne.symm a3), zz_pa (Ne.symm a3)]; exact hcs j hj)
    (by rw [zz_pj (by decide), zz_ps]; rfl) (by rw [zz_ps]; rfl) rfl
  exact ⟨q.1, fun b hb i => by rw [q.2 b hb i, zz_pa hb, zz_pa hb]⟩
end Waits
