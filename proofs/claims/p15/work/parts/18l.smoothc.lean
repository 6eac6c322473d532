/-! SMOOTH in the class -/
theorem zz_ca {u : fx_U} {a0 a N b i : Nat} (h : b ≠ a) : fx_cy u a0 a N b i = u b i := by simp [fx_cy, h]
theorem zz_cs {u : fx_U} {a0 a N i : Nat} (h : i < N) : fx_cy u a0 a N a i = u a0 i := by simp [fx_cy, h]
theorem zz_min {u : fx_U} {a b : Int} : f_J9_min_7cf53 u a b = min a b := by
  unfold f_J9_min_7cf53
  rw [Int.min_def]
  split <;> split <;> omega
theorem zz_near {u : fx_U} {b x g : Int} : f_X1_nearest u b x g = zz_cl b x g := by
  unfold f_X1_nearest f_X11_heldIn zz_cl
  simp only [fz_lt, zz_min, zz_max]
theorem zz_abC {u : fx_U} {x : Int} (h : -50000 ≤ x ∧ x ≤ 50000) : f_J9_abs_0f7a4 u x = zz_ab x := by
  unfold f_J9_abs_0f7a4 zz_ab
  by_cases k : x < 0
  · rw [if_pos k, if_pos k]
    simp only [fz_lt]
    exact zz_wneg ⟨by omega, by omega⟩ ⟨by omega, by omega⟩
  · rw [if_neg k, if_neg k]
theorem zz_low {w : fx_U} {fo A : Nat} {f : Int → Int} (hA : w fo 0 = (A : Int)) (h : ∀ y : Int, 0 ≤ y → y ≤ 60 → w A y.toNat = f y) : f_X1_lowestBest w fo = zz_lb f 60 := by
  have key : ∀ (m n : Nat), n ≤ 60 → 60 - n < m → kL_X1_lowestBest_4 w fo m (zz_lb f n) ((n : Int) + 1) = zz_lb f 60 := by
    intro m
    induction m with
    | zero => intro n _ h2; omega
    | succ m ih =>
      intro n h1 h2
      have eK : kL_X1_lowestBest_4 w fo (m + 1) (zz_lb f n) ((n : Int) + 1) = kB_X1_lowestBest_4 (kL_X1_lowestBest_4 w fo m) w fo (zz_lb f n) ((n : Int) + 1) := rfl
      rw [eK]
      unfold kB_X1_lowestBest_4 kJ_X1_lowestBest_27
      by_cases q : (n : Int) + 1 < 61
      · have b := zz_lb_ok (f := f) n
        simp only [if_pos q, fz_lt, fz_lr, hA, Int.toNat_natCast]
        have e1 := h ((n : Int) + 1) (by omega) (by omega)
        have e2 := h (zz_lb f n) b.1.1 (by omega)
        simp only [e1, e2]
        have e : zz_lb f (n + 1) = if f ((n : Int) + 1) < f (zz_lb f n) then (n : Int) + 1 else zz_lb f n := rfl
        have z := ih (n + 1) (by omega) (by omega)
        rw [e, show ((n + 1 : Nat) : Int) + 1 = (n : Int) + 1 + 1 by omega] at z
        by_cases k : f ((n : Int) + 1) < f (zz_lb f n)
        · rw [if_pos k] at z ⊢
          exact z
        · rw [if_neg k] at z ⊢
          exact z
      · have en : n = 60 := by omega
        rw [if_neg q, en]
  unfold f_X1_lowestBest
  rw [show Int.toNat (61 - 1) + 1 = 61 from rfl]
  exact key 61 0 (by decide) (by decide)
/-- the cells of both, what the kerb holds -/
def zz_sm (fo A Bh C E br c0 : Nat) (kk : Nat → Int) (w : fx_U) : Prop := (w fo 0 = (A : Int) ∧ w fo 1 = (Bh : Int) ∧ w fo 2 = (C : Int) ∧ w fo 4 = (E : Int) ∧ w br 1 = (c0 : Int)) ∧ ∀ i : Nat, i < 64 → w c0 i = kk i
def zz_sa (fo A Bh C E br c0 : Nat) : Prop := (fo ≠ A ∧ br ≠ A ∧ c0 ≠ A) ∧ (fo ≠ Bh ∧ br ≠ Bh ∧ c0 ≠ Bh) ∧ (fo ≠ C ∧ br ≠ C ∧ c0 ≠ C) ∧ (fo ≠ E ∧ br ≠ E ∧ c0 ≠ E) ∧ (A ≠ Bh ∧ A ≠ C ∧ A ≠ E) ∧ (Bh ≠ C ∧ C ≠ Bh ∧ C ≠ A ∧ C ≠ E ∧ Bh ≠ A)
section SmoothC
variable {fo A Bh C E br c0 L : Nat} {kk : Nat → Int} {g : Int} {w : fx_U}
theorem zz_sm.pt {a j : Nat} {x : Int} (h : zz_sm fo A Bh C E br c0 kk w) (n : fo ≠ a ∧ br ≠ a ∧ c0 ≠ a) : zz_sm fo A Bh C E br c0 kk (fx_pt w a j x) := by
  obtain ⟨⟨h1, h2, h3, h4, h5⟩, h6⟩ := h
  refine ⟨⟨?_, ?_, ?_, ?_, ?_⟩, fun i hi => ?_⟩
  · rw [zz_pa n.1]; exact h1
  · rw [zz_pa n.1]; exact h2
  · rw [zz_pa n.1]; exact h3
  · rw [zz_pa n.1]; exact h4
  · rw [zz_pa n.2.1]; exact h5
  · rw [zz_pa n.2.2]; exact h6 i hi
theorem zz_sm.cy {a b N : Nat} (h : zz_sm fo A Bh C E br c0 kk w) (n : fo ≠ a ∧ br ≠ a ∧ c0 ≠ a) : zz_sm fo A Bh C E br c0 kk (fx_cy w b a N) := by
  obtain ⟨⟨h1, h2, h3, h4, h5⟩, h6⟩ := h
  refine ⟨⟨?_, ?_, ?_, ?_, ?_⟩, fun i hi => ?_⟩
  · rw [zz_ca n.1]; exact h1
  · rw [zz_ca n.1]; exact h2
  · rw [zz_ca n.1]; exact h3
  · rw [zz_ca n.1]; exact h4
  · rw [zz_ca n.2.1]; exact h5
  · rw [zz_ca n.2.2]; exact h6 i hi
/-- how far off by each offset at one dot -/
theorem zz_in33 {R : Int → fx_U → Int × fx_U} {i : Nat} (ha : zz_sa fo A Bh C E br c0) (hk : ∀ i, -99 ≤ kk i ∧ kk i ≤ 99) (hg : 0 ≤ g) (hL : L ≤ 63) (hi : i ≤ L) :
    ∀ (f : Nat) (x : Int) (w : fx_U), 0 ≤ x → x ≤ 61 → (61 - x).toNat < f → zz_sm fo A Bh C E br c0 kk w → (i = L ∨ (i < L ∧ (∀ y : Int, 0 ≤ y → y ≤ 60 → w Bh y.toNat = zz_F (fun j => kk (L - j)) g (L - i - 1) y) ∧ w C (i + 1) = zz_B (fun j => kk (L - j)) g (L - i - 1))) → (∀ y : Int, 0 ≤ y → y < x → w A y.toNat = zz_F (fun j => kk (L - j)) g (L - i) y) →
    ∃ w2 : fx_U, kL_X1_makeSmooth_33 (i : Int) (L : Int) br A fo g Bh R f x w = R ((i : Int) + (-1)) w2 ∧ zz_sm fo A Bh C E br c0 kk w2 ∧ (∀ y : Int, 0 ≤ y → y ≤ 60 → w2 A y.toNat = zz_F (fun j => kk (L - j)) g (L - i) y) ∧ ∀ q : Nat, w2 C q = if q = i then zz_B (fun j => kk (L - j)) g (L - i) else w C q := by
  obtain ⟨aA, aB, aC, aE, ⟨n1, n2, n3⟩, n4, n5, n6, n7, n8⟩ := ha
  intro f
  induction f with
  | zero => intro x w _ _ h; omega
  | succ f ih =>
    intro x w h0 h1 hf hs hB hA
    have eK : kL_X1_makeSmooth_33 (i : Int) (L : Int) br A fo g Bh R (f + 1) x w = kB_X1_makeSmooth_33 (kL_X1_makeSmooth_33 (i : Int) (L : Int) br A fo g Bh R f) (i : Int) (L : Int) br A fo g Bh R x w := rfl
    rw [eK]
    unfold kB_X1_makeSmooth_33
    by_cases h : x < 61
    · have ki := hk i
      have hx : 0 ≤ x ∧ x ≤ 60 := ⟨h0, by omega⟩
      have ab := zz_ab_b hx ki
      have gb := zz_G_b (K := fun j => kk (L - j)) (g := g) (fun j => hk (L - j)) hg (L - i) x hx
      have one : kJ_X1_makeSmooth_70 x w br (i : Int) A (kL_X1_makeSmooth_33 (i : Int) (L : Int) br A fo g Bh R f) (zz_G (fun j => kk (L - j)) g (L - i) x) = kL_X1_makeSmooth_33 (i : Int) (L : Int) br A fo g Bh R f (x + 1) (fx_pt w A x.toNat (zz_F (fun j => kk (L - j)) g (L - i) x)) := by
        unfold kJ_X1_makeSmooth_70
        simp only [fz_lt, fz_lr, fz_ls, hs.1.2.2.2.2, Int.toNat_natCast]
        have e1 : w c0 i = kk i := hs.2 i (by omega)
        have e2 : fx_b_sub (x - 30) (kk i) = x - 30 - kk i := zz_wsub (zz_sml ⟨by omega, by omega⟩) (zz_sml ⟨by omega, by omega⟩) (zz_sml ⟨by omega, by omega⟩)
        have e3 : fx_b_add (zz_ab (x - 30 - kk i)) (zz_G (fun j => kk (L - j)) g (L - i) x) = zz_ab (x - 30 - kk i) + zz_G (fun j => kk (L - j)) g (L - i) x := zz_wadd (zz_sml ⟨by omega, by omega⟩) (zz_sml ⟨by omega, by omega⟩) (zz_sml ⟨by omega, by omega⟩)
        rw [e1, e2, zz_abC ⟨by omega, by omega⟩, e3]
        have e4 := zz_FG (K := fun j => kk (L - j)) (g := g) (L - i) x
        simp only [show L - (L - i) = i by omega] at e4
        rw [← e4]
      have nx := ih (x + 1) (fx_pt w A x.toNat (zz_F (fun j => kk (L - j)) g (L - i) x)) (by omega) (by omega) (by omega) (hs.pt aA) (by
        rcases hB with q | ⟨q1, q2, q3⟩
        · exact Or.inl q
        · exact Or.inr ⟨q1, fun y y1 y2 => by rw [zz_pa n8]; exact q2 y y1 y2, by rw [zz_pa n6]; exact q3⟩) (fun y y1 y2 => by
        by_cases e : y = x
        · rw [e, zz_ps]
        · rw [zz_pj (by omega)]
          exact hA y y1 (by omega))
      have fin : kJ_X1_makeSmooth_70 x w br (i : Int) A (kL_X1_makeSmooth_33 (i : Int) (L : Int) br A fo g Bh R f) (zz_G (fun j => kk (L - j)) g (L - i) x) = (if x < 61 then (if (i : Int) = (L : Int) then kJ_X1_makeSmooth_70 x w br (i : Int) A (kL_X1_makeSmooth_33 (i : Int) (L : Int) br A fo g Bh R f) 0 else fx_lr (w fo 2) fun b55 => fx_lt ((i : Int) + 1) fun v61 => fx_lt (w b55 v61.toNat) fun v62 => fx_lt (f_X1_nearest w v62 x g) fun v66 => fx_lt (w Bh v66.toNat) fun v69 => kJ_X1_makeSmooth_70 x w br (i : Int) A (kL_X1_makeSmooth_33 (i : Int) (L : Int) br A fo g Bh R f) v69) else fx_lr (w fo 2) fun b105 => fx_lt (f_X1_lowestBest w fo) fun v111 => fx_ls (fx_pt w b105 (i : Int).toNat v111) fun u114 => fx_lt ((i : Int) + (-1)) fun v115 => R v115 u114) := by
        rw [if_pos h]
        rcases hB with q | ⟨q1, q2, q3⟩
        · rw [if_pos (by omega), show L - i = 0 by omega]
          rfl
        · have c := zz_cl_b (zz_B_lw (K := fun j => kk (L - j)) (g := g) (L - i - 1)).1 hg hx
          rw [if_neg (by omega)]
          simp only [fz_lt, fz_lr, hs.1.2.2.1, Int.toNat_natCast, zz_near, show ((i : Int) + 1).toNat = i + 1 by omega, q3]
          rw [q2 _ c.1.1 c.1.2]
          have eg : zz_G (fun j => kk (L - j)) g (L - i) x = zz_F (fun j => kk (L - j)) g (L - i - 1) (zz_cl (zz_B (fun j => kk (L - j)) g (L - i - 1)) x g) := by
            obtain ⟨j, hj⟩ : ∃ j : Nat, L - i = j + 1 := ⟨L - i - 1, by omega⟩
            rw [hj]
            rfl
          rw [eg]
      rw [← fin, one]
      obtain ⟨w2, g1, g2, g3, g4⟩ := nx
      refine ⟨w2, g1, g2, g3, fun q => ?_⟩
      rw [g4 q, zz_pa n6]
    · have e61 : x = 61 := by omega
      have lo := zz_low (w := w) (fo := fo) (A := A) (f := zz_F (fun j => kk (L - j)) g (L - i)) hs.1.1 (fun y y1 y2 => hA y y1 (by omega))
      rw [if_neg h]
      simp only [fz_lt, fz_lr, fz_ls, hs.1.2.2.1, Int.toNat_natCast, lo]
      refine ⟨fx_pt w C i (zz_lb (zz_F (fun j => kk (L - j)) g (L - i)) 60), rfl, hs.pt aC, fun y y1 y2 => ?_, fun q => ?_⟩
      · rw [zz_pa n2]
        exact hA y y1 (by omega)
      · by_cases e : q = i
        · rw [if_pos e, e, zz_ps]
          rfl
        · rw [if_neg e, zz_pj e]
/-- from the last dot to the first -/
theorem zz_out10 (ha : zz_sa fo A Bh C E br c0) (hk : ∀ i, -99 ≤ kk i ∧ kk i ≤ 99) (hg : 0 ≤ g) (hL : L ≤ 63) :
    ∀ (t f : Nat) (w : fx_U), t ≤ L + 1 → t < f → zz_sm fo A Bh C E br c0 kk w → (t = L + 1 ∨ (t ≤ L ∧ (∀ y : Int, 0 ≤ y → y ≤ 60 → w A y.toNat = zz_F (fun j => kk (L - j)) g (L - t) y) ∧ ∀ q : Nat, t ≤ q → q ≤ L → w C q = zz_B (fun j => kk (L - j)) g (L - q))) →
    ∃ w2 : fx_U, kL_X1_makeSmooth_10 fo (L : Int) g br f ((t : Int) - 1) w = kL_X1_makeSmooth_132 (L : Int) fo C g 65 (w2 C 0) 0 w2 ∧ zz_sm fo A Bh C E br c0 kk w2 ∧ (∀ y : Int, 0 ≤ y → y ≤ 60 → w2 A y.toNat = zz_F (fun j => kk (L - j)) g L y) ∧ ∀ q : Nat, q ≤ L → w2 C q = zz_B (fun j => kk (L - j)) g (L - q) := by
  intro t
  induction t with
  | zero =>
    intro f w _ hf hs hB
    obtain ⟨m, rfl⟩ : ∃ m : Nat, f = m + 1 := ⟨f - 1, by omega⟩
    have eK : kL_X1_makeSmooth_10 fo (L : Int) g br (m + 1) (((0 : Nat) : Int) - 1) w = kB_X1_makeSmooth_10 (kL_X1_makeSmooth_10 fo (L : Int) g br m) fo (L : Int) g br (((0 : Nat) : Int) - 1) w := rfl
    rw [eK]
    unfold kB_X1_makeSmooth_10
    rw [if_pos (by omega), show Int.toNat (64 - 0) + 1 = 65 from rfl]
    simp only [fz_lt, fz_lr, hs.1.2.2.1, Int.toNat_natCast]
    rcases hB with q | ⟨-, q2, q3⟩
    · omega
    · exact ⟨w, rfl, hs, fun y y1 y2 => by rw [q2 y y1 y2, Nat.sub_zero], fun q h => q3 q (Nat.zero_le q) h⟩
  | succ t ih =>
    intro f w ht hf hs hB
    obtain ⟨m, rfl⟩ : ∃ m : Nat, f = m + 1 := ⟨f - 1, by omega⟩
    have et : ((t + 1 : Nat) : Int) - 1 = (t : Int) := by omega
    rw [et]
    have eK : kL_X1_makeSmooth_10 fo (L : Int) g br (m + 1) (t : Int) w = kB_X1_makeSmooth_10 (kL_X1_makeSmooth_10 fo (L : Int) g br m) fo (L : Int) g br (t : Int) w := rfl
    rw [eK]
    unfold kB_X1_makeSmooth_10
    rw [if_neg (by omega), show Int.toNat (61 - 0) + 1 = 62 from rfl]
    simp only [fz_lt, fz_lr, fz_ls, hs.1.1, hs.1.2.1, Int.toNat_natCast]
    obtain ⟨w1, g1, g2, g3, g4⟩ := zz_in33 (R := kL_X1_makeSmooth_10 fo (L : Int) g br m) (i := t) ha hk hg hL (by omega) 62 0 (fx_cy w A Bh 61) (by decide) (by decide) (by decide) (hs.cy ha.2.1) (by
      rcases hB with q | ⟨q1, q2, q3⟩
      · exact Or.inl (by omega)
      · refine Or.inr ⟨by omega, fun y y1 y2 => ?_, ?_⟩
        · rw [zz_cs (by omega), q2 y y1 y2, show L - t - 1 = L - (t + 1) by omega]
        · rw [zz_ca ha.2.2.2.2.2.2.1, q3 (t + 1) (Nat.le_refl _) q1, show L - t - 1 = L - (t + 1) by omega]) (fun y y1 y2 => by omega)
    rw [g1, show (t : Int) + (-1) = (t : Int) - 1 by omega]
    refine ih m w1 (by omega) (by omega) g2 (Or.inr ⟨by omega, g3, fun q h1 h2 => ?_⟩)
    rw [g4 q]
    by_cases e : q = t
    · rw [if_pos e, e]
    · rw [if_neg e, zz_ca ha.2.2.2.2.2.2.1]
      rcases hB with q0 | ⟨q1, q2, q3⟩
      · omega
      · exact q3 q (by omega) h2
/-- the row is laid -/
theorem zz_ch132 (ha : zz_sa fo A Bh C E br c0) (hL : L ≤ 63) (hg : 0 ≤ g) :
    ∀ (f i : Nat) (x : Int) (w : fx_U), i ≤ L + 1 → L + 1 - i < f → zz_sm fo A Bh C E br c0 kk w → (∀ y : Int, 0 ≤ y → y ≤ 60 → w A y.toNat = zz_F (fun j => kk (L - j)) g L y) → (∀ q : Nat, q ≤ L → w C q = zz_B (fun j => kk (L - j)) g (L - q)) → (x = if i = 0 then zz_B (fun j => kk (L - j)) g L else zz_X (fun j => kk (L - j)) g L (i - 1)) → (∀ q : Nat, q < i → w E q = zz_X (fun j => kk (L - j)) g L q - 30) →
    ∃ w2 : fx_U, kL_X1_makeSmooth_132 (L : Int) fo C g f x (i : Int) w = (zz_F (fun j => kk (L - j)) g L (zz_B (fun j => kk (L - j)) g L), w2) ∧ w2 fo 4 = (E : Int) ∧ ∀ q : Nat, q ≤ L → w2 E q = zz_X (fun j => kk (L - j)) g L q - 30 := by
  obtain ⟨aA, aB, aC, aE, ⟨n1, n2, n3⟩, n4, n5, n6, n7, n8⟩ := ha
  intro f
  induction f with
  | zero => intro i x w _ h; omega
  | succ f ih =>
    intro i x w h1 hf hs hA hC hx hE
    have eK : kL_X1_makeSmooth_132 (L : Int) fo C g (f + 1) x (i : Int) w = kB_X1_makeSmooth_132 (kL_X1_makeSmooth_132 (L : Int) fo C g f) (L : Int) fo C g x (i : Int) w := rfl
    rw [eK]
    unfold kB_X1_makeSmooth_132
    by_cases h : (L : Int) < (i : Int)
    · have bb := (zz_B_lw (K := fun j => kk (L - j)) (g := g) L).1
      rw [if_pos h]
      have e0 : w C (Int.toNat 0) = zz_B (fun j => kk (L - j)) g L := (hC 0 (Nat.zero_le L)).trans (by rw [Nat.sub_zero])
      simp only [fz_lt, fz_lr, hs.1.1, Int.toNat_natCast, e0]
      rw [hA _ bb.1 bb.2]
      exact ⟨w, rfl, hs.1.2.2.2.1, fun q h2 => hE q (by omega)⟩
    · have one : ∀ z : Int, z = zz_X (fun j => kk (L - j)) g L i → ∃ w2 : fx_U, kJ_X1_makeSmooth_161 w fo (i : Int) (kL_X1_makeSmooth_132 (L : Int) fo C g f) z = (zz_F (fun j => kk (L - j)) g L (zz_B (fun j => kk (L - j)) g L), w2) ∧ w2 fo 4 = (E : Int) ∧ ∀ q : Nat, q ≤ L → w2 E q = zz_X (fun j => kk (L - j)) g L q - 30 := by
        intro z hz
        unfold kJ_X1_makeSmooth_161
        simp only [fz_lt, fz_lr, fz_ls, hs.1.2.2.2.1, Int.toNat_natCast]
        have nx := ih (i + 1) z (fx_pt w E i (z - 30)) (by omega) (by omega) (hs.pt aE) (fun y y1 y2 => by rw [zz_pa n3]; exact hA y y1 y2) (fun q h2 => by rw [zz_pa n7]; exact hC q h2) (by rw [if_neg (by omega), hz]; rfl) (fun q h2 => by
          by_cases e : q = i
          · rw [e, zz_ps, hz]
          · rw [zz_pj e]
            exact hE q (by omega))
        rw [show ((i + 1 : Nat) : Int) = (i : Int) + 1 by omega] at nx
        exact nx
      rw [if_neg h]
      by_cases e : i = 0
      · rw [if_pos (show (i : Int) = 0 by omega)]
        rw [if_pos e] at hx
        exact one x (by rw [hx, e]; rfl)
      · rw [if_neg (show ¬ (i : Int) = 0 by omega)]
        rw [if_neg e] at hx
        simp only [fz_lt, Int.toNat_natCast, zz_near]
        rw [hC i (by omega)]
        refine one _ ?_
        obtain ⟨p, rfl⟩ : ∃ p : Nat, i = p + 1 := ⟨i - 1, by omega⟩
        rw [hx]
        rfl
/-- what the class reckons -/
theorem zz_mkS (ha : zz_sa fo A Bh C E br c0) (hk : ∀ i, -99 ≤ kk i ∧ kk i ≤ 99) (hg : 0 ≤ g) (hL : L ≤ 63) (hs : zz_sm fo A Bh C E br c0 kk w) (hD : w br 0 = (L : Int) + 1) : ∃ w2 : fx_U, f_X1_makeSmooth w fo br g = (zz_F (fun j => kk (L - j)) g L (zz_B (fun j => kk (L - j)) g L), w2) ∧ w2 fo 4 = (E : Int) ∧ ∀ q : Nat, q ≤ L → w2 E q = zz_X (fun j => kk (L - j)) g L q - 30 := by
  unfold f_X1_makeSmooth
  simp only [fz_lt, hD]
  have e1 : (L : Int) + 1 - 1 = (L : Int) := by omega
  have e2 : Int.toNat ((L : Int) - (-1)) + 1 = L + 2 := by omega
  rw [e1, e2]
  obtain ⟨w1, g1, g2, g3, g4⟩ := zz_out10 ha hk hg hL (L + 1) (L + 2) w (Nat.le_refl _) (by omega) hs (Or.inl rfl)
  rw [show ((L + 1 : Nat) : Int) - 1 = (L : Int) by omega] at g1
  rw [g1]
  have z := zz_ch132 (kk := kk) ha hL hg 65 0 (w1 C 0) w1 (by omega) (by omega) g2 g3 g4 (by rw [if_pos rfl]; exact (g4 0 (Nat.zero_le L)).trans (by rw [Nat.sub_zero])) (fun q h => absurd h (Nat.not_lt_zero q))
  rw [show ((0 : Nat) : Int) = 0 from rfl] at z
  exact z
end SmoothC
