/-! THE NIGHT: a dot is made bare; burns, a party, an old line -/
section Bare
variable {N : Nat → Nat} {la bk a2 b bq bf : Nat} {D i p x : Int} {u v w z : fx_U}
/-- both parties stop painting the dot -/
def zn_st (c k : Nat) (i : Int) (w : fx_U) : fx_U := if w c k = i then fx_pt w c k (-2) else w
theorem zn_st.o {c k c2 j : Nat} (h : c2 ≠ c ∨ j ≠ k) : zn_st c k i w c2 j = w c2 j := by
  unfold zn_st
  by_cases q : w c k = i
  · rw [if_pos q]
    rcases h with h | h
    · exact zz_pa h
    · exact zz_pj h
  · rw [if_neg q]
theorem zn_st.s {c k : Nat} : zn_st c k i w c k = if w c k = i then -2 else w c k := by
  unfold zn_st
  by_cases q : w c k = i
  · rw [if_pos q, if_pos q]
    exact zz_ps
  · rw [if_neg q, if_neg q]
def zn_W (N : Nat → Nat) (i : Int) (u w : fx_U) : Prop := (∀ k j : Nat, k ≤ 14 → ((k ≠ 5 ∧ k ≠ 6 ∧ k ≠ 7 ∧ k ≠ 8) ∨ j ≠ i.toNat) → (k ≠ 10 ∨ 2 ≤ j) → w (N k) j = u (N k) j) ∧ (w (N 5) i.toNat = -100 ∧ w (N 8) i.toNat = -2) ∧ ∀ a : Nat, a < 2 → w (N 10) a = if u (N 10) a = i then -2 else u (N 10) a
theorem zn_mb (X : zn_X N la bk) (hP : zn_P N u) : zn_cs N la bk u (f_X7_makeBare u (N 0) i) ∧ zn_W N i u (f_X7_makeBare u (N 0) i) := by
  have nk : ∀ r k : Nat, 5 ≤ r → r ≤ 11 → k ≤ 14 → k ≠ r → N k ≠ N r := fun r k r1 r2 k1 k2 => X.1 r k (by omega) k1 (Or.inr ⟨r1, r2⟩) (fun h => k2 h.symm)
  have p5 := hP 5 (by decide) (by decide)
  have p6 := hP 6 (by decide) (by decide)
  have p7 := hP 7 (by decide) (by decide)
  have p8 := hP 8 (by decide) (by decide)
  have p10 := hP 10 (by decide) (by decide)
  obtain ⟨u1, h1⟩ : ∃ q : fx_U, q = fx_pt u (N 5) i.toNat (-100) := ⟨_, rfl⟩
  obtain ⟨u2, h2⟩ : ∃ q : fx_U, q = fx_pt u1 (N 6) i.toNat (-2) := ⟨_, rfl⟩
  obtain ⟨u3, h3⟩ : ∃ q : fx_U, q = fx_pt u2 (N 7) i.toNat 0 := ⟨_, rfl⟩
  obtain ⟨u4, h4⟩ : ∃ q : fx_U, q = fx_pt u3 (N 8) i.toNat (-2) := ⟨_, rfl⟩
  have F1 : zn_cs N la bk u u1 := by
    rw [h1]
    exact zn_cs.pt X ⟨by decide, by decide⟩
  have F2 : zn_cs N la bk u u2 := by
    rw [h2]
    exact F1.tr (zn_cs.pt X ⟨by decide, by decide⟩)
  have F3 : zn_cs N la bk u u3 := by
    rw [h3]
    exact F2.tr (zn_cs.pt X ⟨by decide, by decide⟩)
  have F4 : zn_cs N la bk u u4 := by
    rw [h4]
    exact F3.tr (zn_cs.pt X ⟨by decide, by decide⟩)
  have st : ∀ (k : Nat) (w : fx_U), zn_cs N la bk w (zn_st (N 10) k i w) := fun k w => by
    unfold zn_st
    by_cases q : w (N 10) k = i
    · rw [if_pos q]
      exact zn_cs.pt X ⟨by decide, by decide⟩
    · rw [if_neg q]
      exact zn_cs.rf
  have stp : ∀ (k : Nat) (w : fx_U) (rc : Int → fx_U → fx_U), w (N 0) 10 = (N 10 : Int) → k < 2 → kB_X7_makeBare_33 rc (N 0) i (k : Int) w = rc ((k : Int) + 1) (zn_st (N 10) k i w) := fun k w rc hw hk => by
    unfold kB_X7_makeBare_33 kJ_X7_makeBare_56 zn_st
    simp only [fz_lr, fz_lt, fz_ls, hw, Int.toNat_natCast]
    rw [if_pos (by omega)]
    by_cases q : w (N 10) k = i
    · simp only [if_pos q]
    · simp only [if_neg q]
  have e : f_X7_makeBare u (N 0) i = zn_st (N 10) 1 i (zn_st (N 10) 0 i u4) := by
    unfold f_X7_makeBare
    simp only [fz_lr, fz_ls, p5, Int.toNat_natCast, ← h1, (F1.N0 X 6).trans p6, ← h2, (F2.N0 X 7).trans p7, ← h3, (F3.N0 X 8).trans p8, ← h4, show Int.toNat (2 - 0) + 1 = 3 from rfl]
    show kB_X7_makeBare_33 (kL_X7_makeBare_33 (N 0) i 2) (N 0) i ((0 : Nat) : Int) u4 = _
    rw [stp 0 u4 _ ((F4.N0 X 10).trans p10) (by decide)]
    show kB_X7_makeBare_33 (kL_X7_makeBare_33 (N 0) i 1) (N 0) i ((1 : Nat) : Int) (zn_st (N 10) 0 i u4) = _
    rw [stp 1 _ _ (((F4.tr (st 0 u4)).N0 X 10).trans p10) (by decide)]
    show kB_X7_makeBare_33 (kL_X7_makeBare_33 (N 0) i 0) (N 0) i 2 (zn_st (N 10) 1 i (zn_st (N 10) 0 i u4)) = _
    unfold kB_X7_makeBare_33
    rw [if_neg (by decide)]
  rw [e]
  have U4 : ∀ k j : Nat, k ≤ 14 → ((k ≠ 5 ∧ k ≠ 6 ∧ k ≠ 7 ∧ k ≠ 8) ∨ j ≠ i.toNat) → u4 (N k) j = u (N k) j := fun k j k1 k2 => by
    rw [h4, h3, h2, h1]
    rcases k2 with ⟨a5, a6, a7, a8⟩ | h
    · exact (zz_pa (nk 8 k (by decide) (by decide) k1 a8)).trans ((zz_pa (nk 7 k (by decide) (by decide) k1 a7)).trans ((zz_pa (nk 6 k (by decide) (by decide) k1 a6)).trans (zz_pa (nk 5 k (by decide) (by decide) k1 a5))))
    · exact (zz_pj h).trans ((zz_pj h).trans ((zz_pj h).trans (zz_pj h)))
  have U10 : ∀ j : Nat, u4 (N 10) j = u (N 10) j := fun j => U4 10 j (by decide) (Or.inl (by decide))
  refine ⟨(F4.tr (st 0 u4)).tr (st 1 _), fun k j k1 k2 k3 => ?_, ⟨?_, ?_⟩, fun a ha => ?_⟩
  · have o : ∀ m : Nat, m < 2 → N k ≠ N 10 ∨ j ≠ m := fun m hm => by
      rcases k3 with h | h
      · exact Or.inl (nk 10 k (by decide) (by decide) k1 h)
      · exact Or.inr (by omega)
    rw [zn_st.o (o 1 (by decide)), zn_st.o (o 0 (by decide))]
    exact U4 k j k1 k2
  · rw [zn_st.o (Or.inl (nk 10 5 (by decide) (by decide) (by decide) (by decide))), zn_st.o (Or.inl (nk 10 5 (by decide) (by decide) (by decide) (by decide))), h4, h3, h2, h1]
    exact (zz_pa (nk 8 5 (by decide) (by decide) (by decide) (by decide))).trans ((zz_pa (nk 7 5 (by decide) (by decide) (by decide) (by decide))).trans ((zz_pa (nk 6 5 (by decide) (by decide) (by decide) (by decide))).trans zz_ps))
  · rw [zn_st.o (Or.inl (nk 10 8 (by decide) (by decide) (by decide) (by decide))), zn_st.o (Or.inl (nk 10 8 (by decide) (by decide) (by decide) (by decide))), h4]
    exact zz_ps
  · rcases (show a = 0 ∨ a = 1 by omega) with rfl | rfl
    · rw [zn_st.o (Or.inr (by decide)), zn_st.s, U10 0]
    · rw [zn_st.s, zn_st.o (Or.inr (by decide)), U10 1]
def zn_Z (b : Nat) (i : Int) (v z : fx_U) : Prop := (∀ j : Nat, j < 549 → j ≠ 256 + i.toNat → j ≠ 320 + i.toNat → j ≠ 448 + i.toNat → j ≠ 520 → j ≠ 521 → z b j = v b j) ∧ (z b (320 + i.toNat) = -2 ∧ z b (448 + i.toNat) = -2) ∧ ∀ a : Nat, a < 2 → z b (520 + a) = if v b (520 + a) = i then -2 else v b (520 + a)
theorem zn_Rbare (hR : zn_R N b D u v) (hi : 0 ≤ i ∧ i < 64) (W : zn_W N i u w) (Z : zn_Z b i v z) : zn_R N b D w z := by
  obtain ⟨W1, ⟨W2, W3⟩, W4⟩ := W
  obtain ⟨Z1, ⟨Z2, Z3⟩, Z4⟩ := Z
  obtain ⟨hG, hd, ⟨hA0, hA1⟩, hne, hC⟩ := hR
  have am : ∀ a : Nat, a < 2 → zn_A N b D u v a → zn_A N b D w z a := fun a ha h => by
    have w9 := W1 9 a (by decide) (Or.inl (by decide)) (Or.inl (by decide))
    have w11 := W1 11 a (by decide) (Or.inl (by decide)) (Or.inl (by decide))
    have w12 := W1 12 a (by decide) (Or.inl (by decide)) (Or.inl (by decide))
    have z1 := Z1 (516 + a) (by omega) (by omega) (by omega) (by omega) (by omega) (by omega)
    have z2 := Z1 (518 + a) (by omega) (by omega) (by omega) (by omega) (by omega) (by omega)
    have z4 := Z1 (522 + a) (by omega) (by omega) (by omega) (by omega) (by omega) (by omega)
    have w10 := W4 a ha
    have z3 := Z4 a ha
    obtain ⟨e1, e2, e3, e4⟩ := h
    by_cases q : u (N 10) a = i
    · rw [if_pos q] at w10
      rw [← e3, if_pos q] at z3
      unfold zn_A
      rw [w9, w12, z1, z2, w10, z3]
      exact ⟨e1, e2, rfl, Or.inl rfl⟩
    · rw [if_neg q] at w10
      rw [← e3, if_neg q, e3] at z3
      refine zn_Am ⟨e1, e2, e3, e4⟩ ⟨w9, w10, w11, w12⟩ (fun hq => W1 5 _ (by decide) (Or.inr ?_) (Or.inl (by decide))) ⟨z1, z2, z3, z4⟩
      rcases e4 with h | ⟨h, -⟩
      · exact absurd h hq
      · omega
  refine ⟨zn_Gm hG (fun j => W1 0 j (by decide) (Or.inl (by decide)) (Or.inl (by decide))) ⟨Z1 _ (by omega) (by omega) (by omega) (by omega) (by omega) (by omega), Z1 _ (by omega) (by omega) (by omega) (by omega) (by omega) (by omega), Z1 _ (by omega) (by omega) (by omega) (by omega) (by omega) (by omega), Z1 _ (by omega) (by omega) (by omega) (by omega) (by omega) (by omega)⟩, fun j hj => ?_, ⟨am 0 (by decide) hA0, am 1 (by decide) hA1⟩, ?_, fun c hc => zn_Cm (hC c hc) ⟨W1 13 c (by decide) (Or.inl (by decide)) (Or.inl (by decide)), W1 14 c (by decide) (Or.inl (by decide)) (Or.inl (by decide))⟩ ⟨Z1 _ (by omega) (by omega) (by omega) (by omega) (by omega) (by omega), Z1 _ (by omega) (by omega) (by omega) (by omega) (by omega) (by omega), Z1 _ (by omega) (by omega) (by omega) (by omega) (by omega) (by omega)⟩⟩
  · by_cases e : j = i.toNat
    · obtain ⟨d1, -, -⟩ := hd j hj
      rw [e] at d1 ⊢
      unfold zn_D
      rw [W2, W3, Z2, Z3, W1 4 _ (by decide) (Or.inl (by decide)) (Or.inl (by decide)), Z1 (192 + i.toNat) (by omega) (by omega) (by omega) (by omega) (by omega) (by omega)]
      exact ⟨d1, rfl, Or.inl ⟨rfl, rfl⟩⟩
    · exact zn_Dm (hd j hj) ⟨W1 4 j (by decide) (Or.inr e) (Or.inl (by decide)), W1 5 j (by decide) (Or.inr e) (Or.inl (by decide)), W1 6 j (by decide) (Or.inr e) (Or.inl (by decide)), W1 7 j (by decide) (Or.inr e) (Or.inl (by decide)), W1 8 j (by decide) (Or.inr e) (Or.inl (by decide))⟩ ⟨Z1 _ (by omega) (by omega) (by omega) (by omega) (by omega) (by omega), Z1 _ (by omega) (by omega) (by omega) (by omega) (by omega) (by omega), Z1 _ (by omega) (by omega) (by omega) (by omega) (by omega) (by omega), Z1 _ (by omega) (by omega) (by omega) (by omega) (by omega) (by omega), Z1 _ (by omega) (by omega) (by omega) (by omega) (by omega) (by omega)⟩
  · rw [W4 0 (by decide), W4 1 (by decide)]
    by_cases q0 : u (N 10) 0 = i
    · rw [if_pos q0]
      exact fun _ => rfl
    · rw [if_neg q0]
      by_cases q1 : u (N 10) 1 = i
      · rw [if_pos q1]
        exact fun h => h
      · rw [if_neg q1]
        exact hne
/-- the reference makes a dot bare, and both parties stop painting it -/
theorem zn_rb (Y : zn_Y a2 b bq bf) (h0 : v a2 0 = (b : Int)) (hi : 0 ≤ i ∧ i < 64) : ∃ z : fx_U, (∀ (rc : Int → Int → fx_U → Int × fx_U) (n m : Int), kJ_X12_burns_49 n v a2 i b rc m = rc (fx_b_add n m) (i + 1) z) ∧ zn_ra a2 b bq bf v z ∧ z a2 29 = v a2 29 ∧ zn_Z b i v z := by
  have k1 : (256 + i).toNat = 256 + i.toNat := by omega
  have k2 : (320 + i).toNat = 320 + i.toNat := by omega
  have k3 : (448 + i).toNat = 448 + i.toNat := by omega
  obtain ⟨v1, h1⟩ : ∃ q : fx_U, q = fx_pt v b (256 + i.toNat) (-100) := ⟨_, rfl⟩
  obtain ⟨v2, h2⟩ : ∃ q : fx_U, q = fx_pt v1 b (320 + i.toNat) (-2) := ⟨_, rfl⟩
  obtain ⟨v3, h3⟩ : ∃ q : fx_U, q = fx_pt v2 b (448 + i.toNat) (-2) := ⟨_, rfl⟩
  have eb : f_X12_bares v a2 i = v3 := by
    unfold f_X12_bares
    simp only [fz_lr, fz_lt, fz_ls, h0, Int.toNat_natCast, k1, k2, k3, ← h1, ← h2, ← h3]
  have G3 : zn_ra a2 b bq bf v v3 := by
    rw [h3, h2, h1]
    exact ((zn_ra.pt Y (by omega) (by omega)).tr (zn_ra.pt Y (by omega) (by omega))).tr (zn_ra.pt Y (by omega) (by omega))
  have st : ∀ (k : Nat) (w : fx_U), k < 2 → zn_ra a2 b bq bf w (zn_st b (520 + k) i w) := fun k w hk => by
    unfold zn_st
    by_cases q : w b (520 + k) = i
    · rw [if_pos q]
      exact zn_ra.pt Y (by omega) (by omega)
    · rw [if_neg q]
      exact zn_ra.rf
  have stp : ∀ (k : Nat) (w : fx_U) (rc : Int → fx_U → Int × fx_U) (rc2 : Int → Int → fx_U → Int × fx_U) (n : Int), k < 2 → kB_X12_burns_60 rc b i rc2 n (k : Int) w = rc ((k : Int) + 1) (zn_st b (520 + k) i w) := fun k w rc rc2 n hk => by
    have e : (520 + (k : Int)).toNat = 520 + k := by omega
    unfold kB_X12_burns_60 kJ_X12_burns_95 zn_st
    simp only [fz_lt, fz_ls, e]
    rw [if_pos (by omega)]
    by_cases q : w b (520 + k) = i
    · simp only [if_pos q]
    · simp only [if_neg q]
  have V3 : ∀ j : Nat, j ≠ 256 + i.toNat → j ≠ 320 + i.toNat → j ≠ 448 + i.toNat → v3 b j = v b j := fun j j1 j2 j3 => by
    rw [h3, h2, h1]
    exact (zz_pj j3).trans ((zz_pj j2).trans (zz_pj j1))
  refine ⟨zn_st b 521 i (zn_st b 520 i v3), fun rc n m => ?_, (G3.tr (st 0 _ (by decide))).tr (st 1 _ (by decide)), ?_, fun j _ j1 j2 j3 j4 j5 => ?_, ⟨?_, ?_⟩, fun a ha => ?_⟩
  · unfold kJ_X12_burns_49
    simp only [fz_lt, fz_ls, eb, show Int.toNat (2 - 0) + 1 = 3 from rfl]
    show kB_X12_burns_60 (kL_X12_burns_60 b i rc (fx_b_add n m) 2) b i rc (fx_b_add n m) ((0 : Nat) : Int) v3 = _
    rw [stp 0 v3 _ _ _ (by decide)]
    show kB_X12_burns_60 (kL_X12_burns_60 b i rc (fx_b_add n m) 1) b i rc (fx_b_add n m) ((1 : Nat) : Int) (zn_st b 520 i v3) = _
    rw [stp 1 _ _ _ _ (by decide)]
    show kB_X12_burns_60 (kL_X12_burns_60 b i rc (fx_b_add n m) 0) b i rc (fx_b_add n m) 2 (zn_st b 521 i (zn_st b 520 i v3)) = _
    unfold kB_X12_burns_60
    simp only [fz_lt]
    rw [if_neg (by decide)]
  · rw [zn_st.o (Or.inl Y.1.2), zn_st.o (Or.inl Y.1.2), h3, h2, h1]
    exact (zz_pa Y.1.2).trans ((zz_pa Y.1.2).trans (zz_pa Y.1.2))
  · rw [zn_st.o (Or.inr j5), zn_st.o (Or.inr j4)]
    exact V3 j j1 j2 j3
  · rw [zn_st.o (Or.inr (by omega)), zn_st.o (Or.inr (by omega)), h3, h2]
    exact (zz_pj (by omega)).trans zz_ps
  · rw [zn_st.o (Or.inr (by omega)), zn_st.o (Or.inr (by omega)), h3]
    exact zz_ps
  · rcases (show a = 0 ∨ a = 1 by omega) with rfl | rfl
    · show zn_st b 521 i (zn_st b 520 i v3) b 520 = if v b 520 = i then -2 else v b 520
      rw [zn_st.o (Or.inr (by decide)), zn_st.s, V3 520 (by omega) (by omega) (by omega)]
    · show zn_st b 521 i (zn_st b 520 i v3) b 521 = if v b 521 = i then -2 else v b 521
      rw [zn_st.s, zn_st.o (Or.inr (by decide)), V3 521 (by omega) (by omega) (by omega)]
theorem zn_burns (X : zn_X N la bk) (Y : zn_Y a2 b bq bf) (hx : x < 64) : ∀ (f : Nat) (n i : Int) (u v : fx_U), 64 - i < (f : Int) → 0 ≤ i → (0 ≤ n ∧ n ≤ i) → i ≤ 64 → zn_P N u → v a2 0 = (b : Int) → zn_R N b D u v → ∃ (w z : fx_U) (m : Int), kL_X11_burns_19 x (N 0) f n i u = (m, w) ∧ kL_X12_burns_28 x a2 b f n i v = (m, z) ∧ zn_S N la bk a2 b bq bf D u v w z := by
  intro f
  induction f with
  | zero => intro n i u v h1 h2 h3 h4; omega
  | succ f ih =>
    intro n i u v h1 h2 h3 h4 hP h0 hR
    by_cases c : x < i
    · refine ⟨u, v, n, ?_, ?_, zn_S.rf hR⟩
      · show kB_X11_burns_19 (kL_X11_burns_19 x (N 0) f) x (N 0) n i u = _
        unfold kB_X11_burns_19
        rw [if_pos c]
      · show kB_X12_burns_28 (kL_X12_burns_28 x a2 b f) x a2 b n i v = _
        unfold kB_X12_burns_28
        rw [if_pos c]
    · obtain ⟨a1, a3⟩ := zn_pd (i := i) hP h0 (hR.2.1 i.toNat (by omega)) h2
      obtain ⟨F, W⟩ := zn_mb (i := i) X hP
      obtain ⟨z, e, G, g29, Z⟩ := zn_rb (i := i) Y h0 ⟨h2, by omega⟩
      have R1 := zn_Rbare hR ⟨h2, by omega⟩ W Z
      have S1 : zn_S N la bk a2 b bq bf D u v (f_X7_makeBare u (N 0) i) z := ⟨F, G, g29, R1⟩
      have s0 : fx_b_add n 0 = n := (zz_wadd (zz_sml ⟨by omega, by omega⟩) (zz_sml ⟨by decide, by decide⟩) (zz_sml ⟨by omega, by omega⟩)).trans (Int.add_zero n)
      have s1 : fx_b_add n 1 = n + 1 := zz_wadd (zz_sml ⟨by omega, by omega⟩) (zz_sml ⟨by decide, by decide⟩) (zz_sml ⟨by omega, by omega⟩)
      obtain ⟨q, hq, q01⟩ : ∃ q : Int, q = (if u (N 5) i.toNat = -100 then 0 else 1) ∧ (q = 0 ∨ q = 1) := by
        by_cases t : u (N 5) i.toNat = -100
        · exact ⟨0, (if_pos t).symm, Or.inl rfl⟩
        · exact ⟨1, (if_neg t).symm, Or.inr rfl⟩
      rw [← hq] at a1 a3
      obtain ⟨w2, z2, m, e1, e2, S2⟩ := ih (n + q) (i + 1) _ z (by omega) (by omega) ⟨by omega, by omega⟩ (by omega) (hP.cs X F) ((G.2.1 0 (by decide)).trans h0) R1
      refine ⟨w2, z2, m, ?_, ?_, S1.tr S2⟩
      · show kB_X11_burns_19 (kL_X11_burns_19 x (N 0) f) x (N 0) n i u = _
        unfold kB_X11_burns_19 kJ_X11_burns_40
        simp only [fz_lt, fz_ls, a1, s1]
        rw [if_neg c]
        rcases q01 with t | t
        · rw [if_pos t]
          rw [t, Int.add_zero] at e1
          exact e1
        · rw [if_neg (show ¬ q = 0 by omega)]
          rw [t] at e1
          exact e1
      · show kB_X12_burns_28 (kL_X12_burns_28 x a2 b f) x a2 b n i v = _
        unfold kB_X12_burns_28
        simp only [fz_lt, a3, e, s0, s1]
        rw [if_neg c]
        rcases q01 with t | t
        · rw [if_pos t]
          rw [t, Int.add_zero] at e2
          exact e2
        · rw [if_neg (show ¬ q = 0 by omega)]
          rw [t] at e2
          exact e2
end Bare
