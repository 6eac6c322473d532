/-! WHO DROVE OVER: the class goes from gap to gap, the reference from minute to minute -/
def zy_hb (N : Nat → Nat) (u : fx_U) (i : Int) : Int := if u (N 5) i.toNat = -100 then 0 else if 0 ≤ u (N 8) i.toNat ∧ u (N 8) i.toNat ≤ 11 then 1 else 0
def zy_sb (N : Nat → Nat) (u : fx_U) (i : Int) : Int := if u (N 5) i.toNat = -100 then 0 else if 0 ≤ u (N 8) i.toNat ∧ u (N 8) i.toNat ≤ 11 then 0 else if 0 < u (N 7) i.toNat then 1 else 0
def zy_F (N : Nat → Nat) (D x : Int) (u : fx_U) (i : Int) : Int := u (N 6) i.toNat - (if x = 0 then i else D - 1 - i)
/-- where it begins to be hit, and ends; m is right for a dot -/
def zy_in (N : Nat → Nat) (D x : Int) (u : fx_U) (m i : Int) : Prop := zy_F N D x u i ≤ m ∧ m < zy_F N D x u i + u (N 7) i.toNat
def zy_ok (N : Nat → Nat) (D x : Int) (u : fx_U) (m i : Int) : Prop := u (N 5) i.toNat ≠ -100 → (zy_in N D x u m i ↔ zy_hb N u i = 1)
/-- what is known of a road and its row -/
def zy_H (N : Nat → Nat) (b a2 : Nat) (D T : Int) (u v : fx_U) : Prop := zn_P N u ∧ v a2 0 = (b : Int) ∧ zn_R N b D u v ∧ (8 ≤ D ∧ D ≤ 64) ∧ u (N 0) 17 = T
section Who
variable {N : Nat → Nat} {b a1 a2 dr : Nat} {D T x i m : Int} {u v w z : fx_U}
theorem zy_01 : zy_hb N u i = 0 ∨ zy_hb N u i = 1 := by
  unfold zy_hb
  by_cases c : u (N 5) i.toNat = -100
  · rw [if_pos c]
    exact Or.inl rfl
  · rw [if_neg c]
    by_cases q : 0 ≤ u (N 8) i.toNat ∧ u (N 8) i.toNat ≤ 11
    · rw [if_pos q]
      exact Or.inr rfl
    · rw [if_neg q]
      exact Or.inl rfl
theorem zy_s01 : zy_sb N u i = 0 ∨ zy_sb N u i = 1 := by
  unfold zy_sb
  by_cases c : u (N 5) i.toNat = -100
  · rw [if_pos c]
    exact Or.inl rfl
  · rw [if_neg c]
    by_cases q : 0 ≤ u (N 8) i.toNat ∧ u (N 8) i.toNat ≤ 11
    · rw [if_pos q]
      exact Or.inl rfl
    · rw [if_neg q]
      by_cases d : 0 < u (N 7) i.toNat
      · rw [if_pos d]
        exact Or.inr rfl
      · rw [if_neg d]
        exact Or.inl rfl
/-- a dot to be spared -/
theorem zy_s1 (h : zy_sb N u i = 1) : u (N 5) i.toNat ≠ -100 ∧ zy_hb N u i = 0 ∧ 0 < u (N 7) i.toNat := by
  unfold zy_sb at h
  unfold zy_hb
  by_cases c : u (N 5) i.toNat = -100
  · rw [if_pos c] at h
    exact absurd h zz_n01
  · rw [if_neg c] at h ⊢
    by_cases q : 0 ≤ u (N 8) i.toNat ∧ u (N 8) i.toNat ≤ 11
    · rw [if_pos q] at h
      exact absurd h zz_n01
    · rw [if_neg q] at h ⊢
      by_cases d : 0 < u (N 7) i.toNat
      · exact ⟨c, rfl, d⟩
      · rw [if_neg d] at h
        exact absurd h zz_n01
theorem zy_h1 (h : zy_hb N u i = 1) : u (N 5) i.toNat ≠ -100 := fun c => by
  unfold zy_hb at h
  rw [if_pos c] at h
  exact zz_n01 h
/-- not to be spared and not hit: then it is never wet -/
theorem zy_s0 (h : zy_sb N u i = 0) (p : u (N 5) i.toNat ≠ -100) (k : zy_hb N u i = 0) : u (N 7) i.toNat ≤ 0 := by
  unfold zy_sb at h
  unfold zy_hb at k
  rw [if_neg p] at h k
  by_cases q : 0 ≤ u (N 8) i.toNat ∧ u (N 8) i.toNat ≤ 11
  · rw [if_pos q] at k
    exact absurd k zz_n10
  · rw [if_neg q] at h
    by_cases d : 0 < u (N 7) i.toNat
    · rw [if_pos d] at h
      exact absurd h zz_n10
    · omega
theorem zy_bd (H : zy_H N b a2 D T u v) (i0 : 0 ≤ i) (i1 : i < D) (p : u (N 5) i.toNat ≠ -100) : (0 ≤ u (N 6) i.toNat ∧ u (N 6) i.toNat ≤ 10000) ∧ (0 ≤ u (N 7) i.toNat ∧ u (N 7) i.toNat ≤ 99) ∧ v b (320 + i.toNat) = u (N 6) i.toNat ∧ v b (384 + i.toNat) = u (N 7) i.toNat := by
  obtain ⟨-, -, hR, hD, -⟩ := H
  obtain ⟨-, -, h⟩ := hR.2.1 i.toNat (by omega)
  rcases h with ⟨h, -⟩ | ⟨-, h2, -, h4, h5, h6⟩
  · exact absurd h p
  · rw [h4, h5] at *
    exact ⟨h2, h6, rfl, rfl⟩
theorem zy_Fb (H : zy_H N b a2 D T u v) (i0 : 0 ≤ i) (i1 : i < D) (p : u (N 5) i.toNat ≠ -100) : -100 ≤ zy_F N D x u i ∧ zy_F N D x u i ≤ 10000 := by
  obtain ⟨⟨b1, b2⟩, -⟩ := zy_bd H i0 i1 p
  have hD := H.2.2.2.1
  unfold zy_F
  by_cases c : x = 0
  · rw [if_pos c]
    omega
  · rw [if_neg c]
    omega
theorem zy_pd (hP : zn_P N u) : f_X7_isPainted u (N 0) i = if u (N 5) i.toNat = -100 then 0 else 1 := by
  have p5 := hP 5 (by decide) (by decide)
  unfold f_X7_isPainted
  simp only [fz_lr, fz_lt, p5, Int.toNat_natCast]
theorem zy_hit (hP : zn_P N u) : f_X0_isHitByCar u (N 0) i = zy_hb N u i := by
  have p8 := hP 8 (by decide) (by decide)
  unfold f_X0_isHitByCar zy_hb
  simp only [fz_lt, fz_lr, zy_pd hP, p8, Int.toNat_natCast, zz_is]
  by_cases c : u (N 5) i.toNat = -100
  · simp only [if_pos c, if_true]
  · by_cases q : 0 ≤ u (N 8) i.toNat ∧ u (N 8) i.toNat ≤ 11
    · simp only [if_neg c, if_pos q, if_neg zz_n10]
    · simp only [if_neg c, if_neg q, if_neg zz_n10, if_true]
theorem zy_spare (hP : zn_P N u) : f_X0_mustBeSpared u (N 0) i = zy_sb N u i := by
  have p7 := hP 7 (by decide) (by decide)
  have e := zy_hit (i := i) hP
  unfold zy_hb at e
  unfold f_X0_mustBeSpared zy_sb
  simp only [fz_lt, fz_lr, zy_pd hP, e, p7, Int.toNat_natCast]
  by_cases c : u (N 5) i.toNat = -100
  · simp only [if_pos c, if_true]
  · by_cases q : 0 ≤ u (N 8) i.toNat ∧ u (N 8) i.toNat ≤ 11
    · simp only [if_neg c, if_pos q, if_neg zz_n10]
    · simp only [if_neg c, if_neg q, if_neg zz_n10, if_true]
theorem zy_hf (H : zy_H N b a2 D T u v) (i0 : 0 ≤ i) (i1 : i < D) (p : u (N 5) i.toNat ≠ -100) : f_X0_hitsFrom u (N 0) i x = zy_F N D x u i := by
  have hP := H.1
  have p6 := hP 6 (by decide) (by decide)
  have g1 : u (N 0) 0 = D := H.2.2.1.1.1.1
  obtain ⟨⟨b1, b2⟩, -⟩ := zy_bd H i0 i1 p
  have hD := H.2.2.2.1
  unfold f_X0_hitsFrom zy_F
  simp only [fz_lt, fz_lr, p6, Int.toNat_natCast, g1]
  by_cases c : x = 0
  · rw [if_pos c, if_pos c]
    exact zz_wsub (zz_sml ⟨by omega, by omega⟩) (zz_sml ⟨by omega, by omega⟩) (zz_sml ⟨by omega, by omega⟩)
  · rw [if_neg c, if_neg c]
    exact zz_wsub (zz_sml ⟨by omega, by omega⟩) (zz_sml ⟨by omega, by omega⟩) (zz_sml ⟨by omega, by omega⟩)
/-- the reference: could it be -/
theorem zy_could (H : zy_H N b a2 D T u v) (hm : 0 ≤ m ∧ m ≤ 20000) : ∀ (f : Nat) (i : Int), D - i < (f : Int) → 0 < f → 0 ≤ i → (kL_X12_couldBe_2 v a2 x m f i = 1 ∧ ∀ j : Int, i ≤ j → j < D → zy_ok N D x u m j) ∨ (kL_X12_couldBe_2 v a2 x m f i = 0 ∧ ∃ j : Int, i ≤ j ∧ j < D ∧ ¬ zy_ok N D x u m j) := by
  have hD := H.2.2.2.1
  have h0 := H.2.1
  have hR := H.2.2.1
  have g2 : v b 512 = D := hR.1.1.2
  intro f
  induction f with
  | zero => intro i _ h; omega
  | succ f ih =>
    intro i h1 _ i0
    have eB : kL_X12_couldBe_2 v a2 x m (f + 1) i = kB_X12_couldBe_2 (kL_X12_couldBe_2 v a2 x m f) v a2 x m i := rfl
    rw [eB]
    unfold kB_X12_couldBe_2
    simp only [fz_lr, fz_lt, h0, Int.toNat_natCast, show Int.toNat 512 = 512 from rfl, g2]
    by_cases c : i < D
    · rw [if_pos c]
      have pd := (zn_pd H.1 h0 (hR.2.1 i.toNat (by omega)) i0).2
      rw [pd]
      have nx := ih (i + 1) (by omega) (by omega) (by omega)
      have go : zy_ok N D x u m i → (kL_X12_couldBe_2 v a2 x m f (i + 1) = 1 ∧ ∀ j : Int, i ≤ j → j < D → zy_ok N D x u m j) ∨ (kL_X12_couldBe_2 v a2 x m f (i + 1) = 0 ∧ ∃ j : Int, i ≤ j ∧ j < D ∧ ¬ zy_ok N D x u m j) := fun ok => by
        rcases nx with ⟨k1, k2⟩ | ⟨k1, j, k2, k3, k4⟩
        · refine Or.inl ⟨k1, fun j j0 j1 => ?_⟩
          by_cases e : j = i
          · rw [e]
            exact ok
          · exact k2 j (by omega) j1
        · exact Or.inr ⟨k1, j, by omega, k3, k4⟩
      by_cases p : u (N 5) i.toNat = -100
      · rw [if_pos p, if_pos rfl]
        unfold kJ_X12_couldBe_120
        simp only [fz_lt]
        exact go (fun h => absurd p h)
      · rw [if_neg p, if_neg zz_n10]
        obtain ⟨⟨b1, b2⟩, ⟨b3, b4⟩, v6, v7⟩ := zy_bd H i0 c p
        have v8 : v b (448 + i.toNat) = u (N 8) i.toNat := ((hR.2.1 i.toNat (by omega)).2.1).symm
        have k3 : (320 + i).toNat = 320 + i.toNat := by omega
        have k4 : (384 + i).toNat = 384 + i.toNat := by omega
        have k5 : (448 + i).toNat = 448 + i.toNat := by omega
        have hb : f_X12_in v (u (N 8) i.toNat) 0 11 = zy_hb N u i := by
          unfold zy_hb
          rw [zz_is2, if_neg p]
        have hb01 := zy_01 (N := N) (u := u) (i := i)
        have j95 : ∀ s : Int, (s = 0 ∨ s = 1) → (kJ_X12_couldBe_95 i v b (kL_X12_couldBe_2 v a2 x m f) s = if s = zy_hb N u i then kL_X12_couldBe_2 v a2 x m f (i + 1) else 0) := fun s hs => by
          unfold kJ_X12_couldBe_95 kJ_X12_couldBe_120
          simp only [fz_lt, k5, v8, hb]
        have main : ∀ off : Int, 0 ≤ off → off < 64 → zy_F N D x u i = u (N 6) i.toNat - off → (kJ_X12_couldBe_46 m i v b (kL_X12_couldBe_2 v a2 x m f) off = 1 ∧ ∀ j : Int, i ≤ j → j < D → zy_ok N D x u m j) ∨ (kJ_X12_couldBe_46 m i v b (kL_X12_couldBe_2 v a2 x m f) off = 0 ∧ ∃ j : Int, i ≤ j ∧ j < D ∧ ¬ zy_ok N D x u m j) := fun off o0 o1 hF => by
          have s1 : fx_b_add m off = m + off := zz_wadd (zz_sml ⟨by omega, by omega⟩) (zz_sml ⟨by omega, by omega⟩) (zz_sml ⟨by omega, by omega⟩)
          have s2 : fx_b_add (u (N 6) i.toNat) (u (N 7) i.toNat) = u (N 6) i.toNat + u (N 7) i.toNat := zz_wadd (zz_sml ⟨by omega, by omega⟩) (zz_sml ⟨by omega, by omega⟩) (zz_sml ⟨by omega, by omega⟩)
          have inn : zy_in N D x u m i ↔ (u (N 6) i.toNat ≤ m + off ∧ m + off < u (N 6) i.toNat + u (N 7) i.toNat) := by
            unfold zy_in
            rw [hF]
            constructor
            · intro h
              omega
            · intro h
              omega
          have fin : ∀ s : Int, (s = 1 ↔ zy_in N D x u m i) → (s = 0 ∨ s = 1) → (kJ_X12_couldBe_95 i v b (kL_X12_couldBe_2 v a2 x m f) s = 1 ∧ ∀ j : Int, i ≤ j → j < D → zy_ok N D x u m j) ∨ (kJ_X12_couldBe_95 i v b (kL_X12_couldBe_2 v a2 x m f) s = 0 ∧ ∃ j : Int, i ≤ j ∧ j < D ∧ ¬ zy_ok N D x u m j) := fun s hs s01 => by
            rw [j95 s s01]
            by_cases e : s = zy_hb N u i
            · rw [if_pos e]
              refine go (fun _ => ?_)
              rw [← e]
              exact hs.symm
            · rw [if_neg e]
              refine Or.inr ⟨rfl, i, Int.le_refl i, c, fun ok => e ?_⟩
              have o := ok p
              rcases s01 with q | q
              · rcases hb01 with t | t
                · rw [q, t]
                · have := hs.mpr (o.mpr t)
                  omega
              · rcases hb01 with t | t
                · have := o.mp (hs.mp q)
                  omega
                · rw [q, t]
          unfold kJ_X12_couldBe_46 kJ_X12_couldBe_94
          simp only [fz_lt, k3, k4, v6, v7, s1, s2]
          by_cases d1 : m + off < u (N 6) i.toNat
          · rw [if_pos d1]
            refine fin 0 ⟨fun h => absurd h zz_n01, fun h => ?_⟩ (Or.inl rfl)
            have := inn.mp h
            omega
          · by_cases d2 : m + off < u (N 6) i.toNat + u (N 7) i.toNat
            · rw [if_neg d1, if_pos d2]
              exact fin 1 ⟨fun _ => inn.mpr ⟨by omega, d2⟩, fun _ => rfl⟩ (Or.inr rfl)
            · rw [if_neg d1, if_neg d2]
              refine fin 0 ⟨fun h => absurd h zz_n01, fun h => ?_⟩ (Or.inl rfl)
              have := inn.mp h
              omega
        by_cases d : x = 0
        · rw [if_pos d]
          exact main i i0 (by omega) (by unfold zy_F; rw [if_pos d])
        · rw [if_neg d]
          exact main (D - 1 - i) (by omega) (by omega) (by unfold zy_F; rw [if_neg d])
    · rw [if_neg c]
      exact Or.inl ⟨rfl, fun j j0 j1 => by omega⟩
/-- the class: all that were hit -/
theorem zy_rng (H : zy_H N b a2 D T u v) : ∀ (f : Nat) (lo hi i : Int), D - i < (f : Int) → 0 < f → 0 ≤ i → (0 ≤ lo ∧ lo ≤ 10000) → (-200 ≤ hi ∧ hi ≤ 10000) → ∃ lo2 hi2 : Int, kL_X0_suspectOneWay_11 u (N 0) x dr f lo hi i = kL_X0_suspectOneWay_73 hi2 (N 0) x dr (Int.toNat (129 - 0) + 1) lo2 0 u ∧ (lo ≤ lo2 ∧ lo2 ≤ 10000) ∧ (-200 ≤ hi2 ∧ hi2 ≤ hi) ∧ ∀ m : Int, (lo2 ≤ m ∧ m ≤ hi2) ↔ (lo ≤ m ∧ m ≤ hi ∧ ∀ j : Int, i ≤ j → j < D → zy_hb N u j = 1 → zy_in N D x u m j) := by
  have hD := H.2.2.2.1
  have hP := H.1
  have g1 : u (N 0) 0 = D := H.2.2.1.1.1.1
  have p7 := hP 7 (by decide) (by decide)
  intro f
  induction f with
  | zero => intro lo hi i _ h; omega
  | succ f ih =>
    intro lo hi i h1 _ i0 hl hh
    have eB : kL_X0_suspectOneWay_11 u (N 0) x dr (f + 1) lo hi i = kB_X0_suspectOneWay_11 (kL_X0_suspectOneWay_11 u (N 0) x dr f) u (N 0) x dr lo hi i := rfl
    rw [eB]
    unfold kB_X0_suspectOneWay_11 kJ_X0_suspectOneWay_64
    simp only [fz_lr, fz_lt, g1, zy_hit hP, p7, Int.toNat_natCast]
    by_cases c : i < D
    · rw [if_pos c]
      rcases (zy_01 : zy_hb N u i = 0 ∨ zy_hb N u i = 1) with t | t
      · rw [if_pos t]
        obtain ⟨lo2, hi2, k1, k2, k3, k4⟩ := ih lo hi (i + 1) (by omega) (by omega) (by omega) hl hh
        refine ⟨lo2, hi2, k1, k2, k3, fun m => (k4 m).trans ⟨fun h => ⟨h.1, h.2.1, fun j j0 j1 j2 => ?_⟩, fun h => ⟨h.1, h.2.1, fun j j0 j1 j2 => h.2.2 j (by omega) j1 j2⟩⟩⟩
        by_cases e : j = i
        · rw [e, t] at j2
          exact absurd j2 zz_n01
        · exact h.2.2 j (by omega) j1 j2
      · have p := zy_h1 t
        obtain ⟨-, ⟨b3, b4⟩, -⟩ := zy_bd H i0 c p
        have Fb := zy_Fb (x := x) H i0 c p
        have hf := zy_hf (x := x) H i0 c p
        have inn : ∀ m : Int, zy_in N D x u m i ↔ (zy_F N D x u i ≤ m ∧ m < zy_F N D x u i + u (N 7) i.toNat) := fun m => Iff.rfl
        obtain ⟨F, hF⟩ : ∃ F : Int, F = zy_F N D x u i := ⟨_, rfl⟩
        rw [← hF] at Fb hf inn
        have s1 : fx_b_add F (u (N 7) i.toNat) = F + u (N 7) i.toNat := zz_wadd (zz_sml ⟨by omega, by omega⟩) (zz_sml ⟨by omega, by omega⟩) (zz_sml ⟨by omega, by omega⟩)
        have s2 : fx_b_sub (F + u (N 7) i.toNat) 1 = F + u (N 7) i.toNat - 1 := zz_wsub (zz_sml ⟨by omega, by omega⟩) (zz_sml ⟨by decide, by decide⟩) (zz_sml ⟨by omega, by omega⟩)
        have mx : ∃ L : Int, f_J9_max_7cf53 u lo F = L ∧ lo ≤ L ∧ F ≤ L ∧ (L = lo ∨ L = F) := by
          unfold f_J9_max_7cf53
          by_cases q : lo < F
          · rw [if_pos q]
            exact ⟨F, rfl, by omega, by omega, Or.inr rfl⟩
          · rw [if_neg q]
            exact ⟨lo, rfl, by omega, by omega, Or.inl rfl⟩
        have mn : ∃ L : Int, f_J9_min_7cf53 u hi (F + u (N 7) i.toNat - 1) = L ∧ L ≤ hi ∧ L ≤ F + u (N 7) i.toNat - 1 ∧ (L = hi ∨ L = F + u (N 7) i.toNat - 1) := by
          unfold f_J9_min_7cf53
          by_cases q : F + u (N 7) i.toNat - 1 < hi
          · rw [if_pos q]
            exact ⟨_, rfl, by omega, by omega, Or.inr rfl⟩
          · rw [if_neg q]
            exact ⟨hi, rfl, by omega, by omega, Or.inl rfl⟩
        obtain ⟨L, l1, l2, l3, l4⟩ := mx
        obtain ⟨G, q1, q2, q3, q4⟩ := mn
        rw [if_neg (show ¬ zy_hb N u i = 0 by omega), hf, l1, s1, s2, q1]
        obtain ⟨lo2, hi2, k1, k2, k3, k4⟩ := ih L G (i + 1) (by omega) (by omega) (by omega) ⟨by omega, by omega⟩ ⟨by omega, by omega⟩
        refine ⟨lo2, hi2, k1, ⟨by omega, k2.2⟩, ⟨k3.1, by omega⟩, fun m => (k4 m).trans ⟨fun h => ⟨by omega, by omega, fun j j0 j1 j2 => ?_⟩, fun h => ?_⟩⟩
        · by_cases e : j = i
          · rw [e]
            exact (inn m).mpr ⟨by omega, by omega⟩
          · exact h.2.2 j (by omega) j1 j2
        · have y := (inn m).mp (h.2.2 i (Int.le_refl i) c t)
          refine ⟨?_, ?_, fun j j0 j1 j2 => h.2.2 j (by omega) j1 j2⟩
          · rcases l4 with e | e
            · omega
            · omega
          · rcases q4 with e | e
            · omega
            · omega
    · rw [if_neg c]
      exact ⟨lo, hi, rfl, ⟨Int.le_refl _, hl.2⟩, ⟨hh.1, Int.le_refl _⟩, fun m => ⟨fun h => ⟨h.1, h.2, fun j j0 j1 => by omega⟩, fun h => ⟨h.1, h.2.1⟩⟩⟩
/-- the class: behind all that hit a dot to be spared -/
theorem zy_free (H : zy_H N b a2 D T u v) (hm : 0 ≤ m ∧ m ≤ 10200) : ∀ (f : Nat) (r i : Int), D - i < (f : Int) → 0 < f → 0 ≤ i → (0 ≤ r ∧ r ≤ 10200) → ∃ q : Int, kL_X0_freeFrom_5 u (N 0) x m f r i = q ∧ (r ≤ q ∧ q ≤ 10200) ∧ (q = r ∨ ∃ j : Int, i ≤ j ∧ j < D ∧ zy_sb N u j = 1 ∧ zy_in N D x u m j ∧ q = zy_F N D x u j + u (N 7) j.toNat) ∧ ∀ j : Int, i ≤ j → j < D → zy_sb N u j = 1 → zy_in N D x u m j → zy_F N D x u j + u (N 7) j.toNat ≤ q := by
  have hD := H.2.2.2.1
  have hP := H.1
  have g1 : u (N 0) 0 = D := H.2.2.1.1.1.1
  have p7 := hP 7 (by decide) (by decide)
  intro f
  induction f with
  | zero => intro r i _ h; omega
  | succ f ih =>
    intro r i h1 _ i0 hr
    have eB : kL_X0_freeFrom_5 u (N 0) x m (f + 1) r i = kB_X0_freeFrom_5 (kL_X0_freeFrom_5 u (N 0) x m f) u (N 0) x m r i := rfl
    rw [eB]
    unfold kB_X0_freeFrom_5 kJ_X0_freeFrom_68
    simp only [fz_lr, fz_lt, g1, zy_spare hP, p7, Int.toNat_natCast, zz_is]
    by_cases c : i < D
    · rw [if_pos c]
      rcases (zy_s01 : zy_sb N u i = 0 ∨ zy_sb N u i = 1) with t | t
      · rw [if_pos t]
        obtain ⟨q, k1, k2, k3, k4⟩ := ih r (i + 1) (by omega) (by omega) (by omega) hr
        refine ⟨q, k1, k2, ?_, fun j j0 j1 j2 j3 => ?_⟩
        · rcases k3 with e | ⟨j, e1, e2⟩
          · exact Or.inl e
          · exact Or.inr ⟨j, by omega, e2⟩
        · by_cases e : j = i
          · rw [e, t] at j2
            exact absurd j2 zz_n01
          · exact k4 j (by omega) j1 j2 j3
      · obtain ⟨p, -, d0⟩ := zy_s1 t
        obtain ⟨-, ⟨b3, b4⟩, -⟩ := zy_bd H i0 c p
        have Fb := zy_Fb (x := x) H i0 c p
        have hf := zy_hf (x := x) H i0 c p
        have inn : zy_in N D x u m i ↔ (zy_F N D x u i ≤ m ∧ m < zy_F N D x u i + u (N 7) i.toNat) := Iff.rfl
        obtain ⟨F, hF⟩ : ∃ F : Int, F = zy_F N D x u i := ⟨_, rfl⟩
        rw [← hF] at Fb hf inn
        have s1 : fx_b_add F (u (N 7) i.toNat) = F + u (N 7) i.toNat := zz_wadd (zz_sml ⟨by omega, by omega⟩) (zz_sml ⟨by omega, by omega⟩) (zz_sml ⟨by omega, by omega⟩)
        have s2 : fx_b_sub (F + u (N 7) i.toNat) 1 = F + u (N 7) i.toNat - 1 := zz_wsub (zz_sml ⟨by omega, by omega⟩) (zz_sml ⟨by decide, by decide⟩) (zz_sml ⟨by omega, by omega⟩)
        simp only [if_neg (show ¬ zy_sb N u i = 0 by omega), hf, s1, s2]
        by_cases e : F ≤ m ∧ m ≤ F + u (N 7) i.toNat - 1
        · simp only [if_pos e, if_neg zz_n10]
          have mx : ∃ L : Int, f_J9_max_7cf53 u r (F + u (N 7) i.toNat) = L ∧ r ≤ L ∧ F + u (N 7) i.toNat ≤ L ∧ (L = r ∨ L = F + u (N 7) i.toNat) := by
            unfold f_J9_max_7cf53
            by_cases g : r < F + u (N 7) i.toNat
            · rw [if_pos g]
              exact ⟨_, rfl, by omega, by omega, Or.inr rfl⟩
            · rw [if_neg g]
              exact ⟨r, rfl, by omega, by omega, Or.inl rfl⟩
          obtain ⟨L, l1, l2, l3, l4⟩ := mx
          rw [l1]
          obtain ⟨q, k1, k2, k3, k4⟩ := ih L (i + 1) (by omega) (by omega) (by omega) ⟨by omega, by omega⟩
          have me : zy_in N D x u m i := inn.mpr ⟨by omega, by omega⟩
          refine ⟨q, k1, ⟨by omega, k2.2⟩, ?_, fun j j0 j1 j2 j3 => ?_⟩
          · rcases k3 with e | ⟨j, e1, e2⟩
            · rcases l4 with g | g
              · exact Or.inl (by omega)
              · exact Or.inr ⟨i, Int.le_refl i, c, t, me, by rw [← hF]; omega⟩
            · exact Or.inr ⟨j, by omega, e2⟩
          · by_cases e : j = i
            · rw [e, ← hF]
              omega
            · exact k4 j (by omega) j1 j2 j3
        · simp only [if_neg e, if_true]
          obtain ⟨q, k1, k2, k3, k4⟩ := ih r (i + 1) (by omega) (by omega) (by omega) hr
          refine ⟨q, k1, k2, ?_, fun j j0 j1 j2 j3 => ?_⟩
          · rcases k3 with e | ⟨j, e1, e2⟩
            · exact Or.inl e
            · exact Or.inr ⟨j, by omega, e2⟩
          · by_cases g : j = i
            · rw [g] at j3
              have := inn.mp j3
              omega
            · exact k4 j (by omega) j1 j2 j3
    · rw [if_neg c]
      exact ⟨r, rfl, ⟨Int.le_refl _, hr.2⟩, Or.inl rfl, fun j j0 j1 => by omega⟩
/-- the class: the next that hits a dot to be spared -/
theorem zy_next (H : zy_H N b a2 D T u v) (hm : 0 ≤ m ∧ m ≤ 10200) : ∀ (f : Nat) (r i : Int), D - i < (f : Int) → 0 < f → 0 ≤ i → (-200 ≤ r ∧ r ≤ 10200) → ∃ q : Int, kL_X0_nextHit_8 u (N 0) x m f r i = q ∧ (-200 ≤ q ∧ q ≤ r) ∧ (q = r ∨ ∃ j : Int, i ≤ j ∧ j < D ∧ zy_sb N u j = 1 ∧ m < zy_F N D x u j + u (N 7) j.toNat ∧ ((q = m ∧ zy_F N D x u j ≤ m) ∨ (q = zy_F N D x u j ∧ m ≤ zy_F N D x u j))) ∧ ∀ j : Int, i ≤ j → j < D → zy_sb N u j = 1 → m < zy_F N D x u j + u (N 7) j.toNat → q ≤ m ∨ q ≤ zy_F N D x u j := by
  have hD := H.2.2.2.1
  have hP := H.1
  have g1 : u (N 0) 0 = D := H.2.2.1.1.1.1
  have p7 := hP 7 (by decide) (by decide)
  intro f
  induction f with
  | zero => intro r i _ h; omega
  | succ f ih =>
    intro r i h1 _ i0 hr
    have eB : kL_X0_nextHit_8 u (N 0) x m (f + 1) r i = kB_X0_nextHit_8 (kL_X0_nextHit_8 u (N 0) x m f) u (N 0) x m r i := rfl
    rw [eB]
    unfold kB_X0_nextHit_8 kJ_X0_nextHit_62
    simp only [fz_lr, fz_lt, g1, zy_spare hP, p7, Int.toNat_natCast]
    by_cases c : i < D
    · rw [if_pos c]
      rcases (zy_s01 : zy_sb N u i = 0 ∨ zy_sb N u i = 1) with t | t
      · rw [if_pos t]
        obtain ⟨q, k1, k2, k3, k4⟩ := ih r (i + 1) (by omega) (by omega) (by omega) hr
        refine ⟨q, k1, k2, ?_, fun j j0 j1 j2 j3 => ?_⟩
        · rcases k3 with e | ⟨j, e1, e2⟩
          · exact Or.inl e
          · exact Or.inr ⟨j, by omega, e2⟩
        · by_cases e : j = i
          · rw [e, t] at j2
            exact absurd j2 zz_n01
          · exact k4 j (by omega) j1 j2 j3
      · obtain ⟨p, -, d0⟩ := zy_s1 t
        obtain ⟨-, ⟨b3, b4⟩, -⟩ := zy_bd H i0 c p
        have Fb := zy_Fb (x := x) H i0 c p
        have hf := zy_hf (x := x) H i0 c p
        obtain ⟨F, hF⟩ : ∃ F : Int, F = zy_F N D x u i := ⟨_, rfl⟩
        rw [← hF] at Fb hf
        have s1 : fx_b_add F (u (N 7) i.toNat) = F + u (N 7) i.toNat := zz_wadd (zz_sml ⟨by omega, by omega⟩) (zz_sml ⟨by omega, by omega⟩) (zz_sml ⟨by omega, by omega⟩)
        simp only [if_neg (show ¬ zy_sb N u i = 0 by omega), hf, s1]
        by_cases e : m < F + u (N 7) i.toNat
        · rw [if_pos e]
          have mx : ∃ L : Int, f_J9_max_7cf53 u m F = L ∧ m ≤ L ∧ F ≤ L ∧ ((L = m ∧ F ≤ m) ∨ (L = F ∧ m ≤ F)) := by
            unfold f_J9_max_7cf53
            by_cases g : m < F
            · rw [if_pos g]
              exact ⟨_, rfl, by omega, by omega, Or.inr ⟨rfl, by omega⟩⟩
            · rw [if_neg g]
              exact ⟨m, rfl, by omega, by omega, Or.inl ⟨rfl, by omega⟩⟩
          obtain ⟨L, l1, l2, l3, l4⟩ := mx
          have mn : ∃ G : Int, f_J9_min_7cf53 u r L = G ∧ G ≤ r ∧ G ≤ L ∧ (G = r ∨ G = L) := by
            unfold f_J9_min_7cf53
            by_cases g : L < r
            · rw [if_pos g]
              exact ⟨_, rfl, by omega, by omega, Or.inr rfl⟩
            · rw [if_neg g]
              exact ⟨r, rfl, by omega, by omega, Or.inl rfl⟩
          obtain ⟨G, q1, q2, q3, q4⟩ := mn
          rw [l1, q1]
          obtain ⟨q, k1, k2, k3, k4⟩ := ih G (i + 1) (by omega) (by omega) (by omega) ⟨by omega, by omega⟩
          refine ⟨q, k1, ⟨k2.1, by omega⟩, ?_, fun j j0 j1 j2 j3 => ?_⟩
          · rcases k3 with y | ⟨j, e1, e2⟩
            · rcases q4 with g | g
              · exact Or.inl (by omega)
              · refine Or.inr ⟨i, Int.le_refl i, c, t, by rw [← hF]; exact e, ?_⟩
                rw [← hF]
                rcases l4 with ⟨y1, y2⟩ | ⟨y1, y2⟩
                · exact Or.inl ⟨by omega, y2⟩
                · exact Or.inr ⟨by omega, y2⟩
            · exact Or.inr ⟨j, by omega, e2⟩
          · by_cases g : j = i
            · rw [g, ← hF]
              rcases l4 with ⟨y1, y2⟩ | ⟨y1, y2⟩
              · exact Or.inl (by omega)
              · exact Or.inr (by omega)
            · exact k4 j (by omega) j1 j2 j3
        · rw [if_neg e]
          obtain ⟨q, k1, k2, k3, k4⟩ := ih r (i + 1) (by omega) (by omega) (by omega) hr
          refine ⟨q, k1, k2, ?_, fun j j0 j1 j2 j3 => ?_⟩
          · rcases k3 with y | ⟨j, e1, e2⟩
            · exact Or.inl y
            · exact Or.inr ⟨j, by omega, e2⟩
          · by_cases g : j = i
            · rw [g, ← hF] at j3
              exact absurd j3 e
            · exact k4 j (by omega) j1 j2 j3
    · rw [if_neg c]
      exact ⟨r, rfl, ⟨hr.1, Int.le_refl _⟩, Or.inl rfl, fun j j0 j1 => by omega⟩
end Who
