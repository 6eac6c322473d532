/-! THE NIGHT: a road is laid anew -/
section Lay
variable {N : Nat → Nat} {la bk a2 b bq bf : Nat} {D x : Int} {u v w z : fx_U}
def zn_lo (k : Nat) : Prop := k = 0 ∨ k = 9 ∨ k = 11 ∨ k = 12 ∨ k = 13 ∨ k = 14
theorem zn_lay (X : zn_X N la bk) (X2 : zn_X2 N) : ∀ (f : Nat) (i : Int) (u : fx_U), 64 - i < (f : Int) → 0 ≤ i → i ≤ 64 → zn_P N u → ∃ w : fx_U, kL_X7_layAnew_7 (N 1) (N 2) (N 3) (N 0) f i u = kL_X7_layAnew_55 (N 0) 3 0 w ∧ zn_P N w ∧ zn_fr N la bk u w ∧ (∀ k : Nat, zn_lo k → ∀ j : Nat, w (N k) j = u (N k) j) ∧ (∀ j : Nat, j < 64 → i ≤ (j : Int) → w (N 4) j = -100 ∧ w (N 5) j = -100 ∧ w (N 8) j = -2) ∧ ∀ j : Nat, (j : Int) < i → w (N 4) j = u (N 4) j ∧ w (N 5) j = u (N 5) j ∧ w (N 8) j = u (N 8) j := by
  intro f
  induction f with
  | zero => intro i u h1 h2 h3; omega
  | succ f ih =>
    intro i u h1 h2 h3 hP
    by_cases c : i < 64
    · have n0 : ∀ k : Nat, 1 ≤ k → k ≤ 14 → N 0 ≠ N k := fun k k1 k2 => (X.1 0 k (by decide) k2 (Or.inl rfl) (by omega)).symm
      obtain ⟨u4, h4⟩ : ∃ q : fx_U, q = fx_pt (fx_pt (fx_pt (fx_pt u (N 1) i.toNat 0) (N 2) i.toNat 0) (N 3) i.toNat 0) (N 4) i.toNat (-100) := ⟨_, rfl⟩
      have z0 : ∀ j : Nat, u4 (N 0) j = u (N 0) j := fun j => by
        rw [h4]
        exact (zz_pa (n0 4 (by decide) (by decide))).trans ((zz_pa (n0 3 (by decide) (by decide))).trans ((zz_pa (n0 2 (by decide) (by decide))).trans (zz_pa (n0 1 (by decide) (by decide)))))
      have P4 : zn_P N u4 := fun j k1 k2 => (z0 j).trans (hP j k1 k2)
      have U4 : ∀ k j : Nat, 5 ≤ k → k ≤ 14 → u4 (N k) j = u (N k) j := fun k j k1 k2 => by
        have o : ∀ r : Nat, 1 ≤ r → r ≤ 3 → N k ≠ N r := fun r r1 r2 => by
          by_cases t : k ≤ 11
          · exact (X.1 k r (by omega) (by omega) (Or.inr ⟨k1, t⟩) (by omega)).symm
          · rcases (show k = 12 ∨ k = 13 ∨ k = 14 by omega) with e | e | e
            · rw [e]
              exact (X2.2.2.1 r (by omega) (by omega)).symm
            · rw [e]
              exact (X2.1 r (by omega) (by omega)).symm
            · rw [e]
              exact (X2.2.1 r (by omega) (by omega)).symm
        rw [h4]
        exact (zz_pa (X2.2.2.2 k k2 (by omega))).trans ((zz_pa (o 3 (by decide) (by decide))).trans ((zz_pa (o 2 (by decide) (by decide))).trans (zz_pa (o 1 (by decide) (by decide)))))
      have U44 : ∀ j : Nat, j ≠ i.toNat → u4 (N 4) j = u (N 4) j := fun j hj => by
        rw [h4]
        exact (zz_pj hj).trans ((zz_pj hj).trans ((zz_pj hj).trans (zz_pj hj)))
      have U4i : u4 (N 4) i.toNat = -100 := by
        rw [h4]
        exact zz_ps
      obtain ⟨F, W1, ⟨W2, W3⟩, W4⟩ := zn_mb (i := i) X P4
      obtain ⟨w1, hw1⟩ : ∃ q : fx_U, q = f_X7_makeBare u4 (N 0) i := ⟨_, rfl⟩
      rw [← hw1] at F W1 W2 W3 W4
      obtain ⟨w, e1, e2, fr, e3, e4, e5⟩ := ih (i + 1) w1 (by omega) (by omega) (by omega) (P4.cs X F)
      have f4 : zn_fr N la bk u u4 := by
        rw [h4]
        exact zn_fr.tr (zn_fr.tr (zn_fr.tr (zn_fr.pt (by decide)) (zn_fr.pt (by decide))) (zn_fr.pt (by decide))) (zn_fr.pt (by decide))
      refine ⟨w, ?_, e2, (f4.tr F.fr).tr fr, fun k hk j => ?_, fun j j1 j2 => ?_, fun j j1 => ?_⟩
      · rw [← e1]
        show kB_X7_layAnew_7 (kL_X7_layAnew_7 (N 1) (N 2) (N 3) (N 0) f) (N 1) (N 2) (N 3) (N 0) i u = _
        have p1 := hP 1 (by decide) (by decide)
        have p2 : fx_pt u (N 1) i.toNat 0 (N 0) 2 = (N 2 : Int) := (zz_pa (n0 1 (by decide) (by decide))).trans (hP 2 (by decide) (by decide))
        have p3 : fx_pt (fx_pt u (N 1) i.toNat 0) (N 2) i.toNat 0 (N 0) 3 = (N 3 : Int) := (zz_pa (n0 2 (by decide) (by decide))).trans ((zz_pa (n0 1 (by decide) (by decide))).trans (hP 3 (by decide) (by decide)))
        have p4 : fx_pt (fx_pt (fx_pt u (N 1) i.toNat 0) (N 2) i.toNat 0) (N 3) i.toNat 0 (N 0) 4 = (N 4 : Int) := (zz_pa (n0 3 (by decide) (by decide))).trans ((zz_pa (n0 2 (by decide) (by decide))).trans ((zz_pa (n0 1 (by decide) (by decide))).trans (hP 4 (by decide) (by decide))))
        unfold kB_X7_layAnew_7
        simp only [fz_lr, fz_lt, fz_ls, p1, p2, p3, p4, Int.toNat_natCast, ← h4, ← hw1]
        rw [if_pos c]
      · have k14 : k ≤ 14 := by
          unfold zn_lo at hk
          omega
        rw [e3 k hk j]
        by_cases t : k = 0
        · rw [t]
          exact (F.N0 X j).trans (z0 j)
        · have k5 : 5 ≤ k := by
            unfold zn_lo at hk
            omega
          refine (W1 k j k14 (Or.inl ?_) (Or.inl ?_)).trans (U4 k j k5 k14)
          · unfold zn_lo at hk
            omega
          · unfold zn_lo at hk
            omega
      · by_cases t : j = i.toNat
        · obtain ⟨f1, f2, f3⟩ := e5 j (by omega)
          rw [f1, f2, f3, t]
          exact ⟨(W1 4 _ (by decide) (Or.inl (by decide)) (Or.inl (by decide))).trans U4i, W2, W3⟩
        · exact e4 j j1 (by omega)
      · obtain ⟨f1, f2, f3⟩ := e5 j (by omega)
        have t : j ≠ i.toNat := by omega
        rw [f1, f2, f3]
        exact ⟨(W1 4 j (by decide) (Or.inr t) (Or.inl (by decide))).trans (U44 j t), (W1 5 j (by decide) (Or.inr t) (Or.inl (by decide))).trans (U4 5 j (by decide) (by decide)), (W1 8 j (by decide) (Or.inr t) (Or.inl (by decide))).trans (U4 8 j (by decide) (by decide))⟩
    · refine ⟨u, ?_, hP, zn_fr.rf, fun _ _ _ => rfl, fun j j1 j2 => by omega, fun j _ => ⟨rfl, rfl, rfl⟩⟩
      show kB_X7_layAnew_7 (kL_X7_layAnew_7 (N 1) (N 2) (N 3) (N 0) f) (N 1) (N 2) (N 3) (N 0) i u = _
      unfold kB_X7_layAnew_7
      rw [if_neg c]
      rfl
theorem zn_layp (X : zn_X N la bk) (hP : zn_P N u) : ∃ w : fx_U, kL_X7_layAnew_55 (N 0) 3 0 u = w ∧ zn_fr N la bk u w ∧ (∀ k j : Nat, k ≤ 14 → k ≠ 9 → k ≠ 10 → w (N k) j = u (N k) j) ∧ ∀ a : Nat, a < 2 → w (N 9) a = 0 ∧ w (N 10) a = -2 := by
  have nk : ∀ r k : Nat, 5 ≤ r → r ≤ 11 → k ≤ 14 → k ≠ r → N k ≠ N r := fun r k r1 r2 k1 k2 => X.1 r k (by omega) k1 (Or.inr ⟨r1, r2⟩) (fun h => k2 h.symm)
  have stp : ∀ (k : Nat) (w : fx_U) (rc : Int → fx_U → fx_U), w (N 0) 9 = (N 9 : Int) → w (N 0) 10 = (N 10 : Int) → k < 2 → kB_X7_layAnew_55 rc (N 0) (k : Int) w = rc ((k : Int) + 1) (fx_pt (fx_pt w (N 9) k 0) (N 10) k (-2)) := fun k w rc h9 h10 hk => by
    have z : fx_pt w (N 9) k 0 (N 0) 10 = (N 10 : Int) := (zz_pa (nk 9 0 (by decide) (by decide) (by decide) (by decide))).trans h10
    unfold kB_X7_layAnew_55
    simp only [fz_lr, fz_lt, fz_ls, h9, Int.toNat_natCast, z]
    rw [if_pos (by omega)]
  have z0 : ∀ (w : fx_U) (k j : Nat), fx_pt (fx_pt w (N 9) k 0) (N 10) k (-2) (N 0) j = w (N 0) j := fun w k j => (zz_pa (nk 10 0 (by decide) (by decide) (by decide) (by decide))).trans (zz_pa (nk 9 0 (by decide) (by decide) (by decide) (by decide)))
  have p9 := hP 9 (by decide) (by decide)
  have p10 := hP 10 (by decide) (by decide)
  refine ⟨fx_pt (fx_pt (fx_pt (fx_pt u (N 9) 0 0) (N 10) 0 (-2)) (N 9) 1 0) (N 10) 1 (-2), ?_, zn_fr.tr (zn_fr.tr (zn_fr.tr (zn_fr.pt (by decide)) (zn_fr.pt (by decide))) (zn_fr.pt (by decide))) (zn_fr.pt (by decide)), fun k j k1 k2 k3 => ?_, fun a ha => ?_⟩
  · show kB_X7_layAnew_55 (kL_X7_layAnew_55 (N 0) 2) (N 0) ((0 : Nat) : Int) u = _
    rw [stp 0 u _ p9 p10 (by decide)]
    show kB_X7_layAnew_55 (kL_X7_layAnew_55 (N 0) 1) (N 0) ((1 : Nat) : Int) (fx_pt (fx_pt u (N 9) 0 0) (N 10) 0 (-2)) = _
    rw [stp 1 _ _ ((z0 u 0 9).trans p9) ((z0 u 0 10).trans p10) (by decide)]
    show kB_X7_layAnew_55 (kL_X7_layAnew_55 (N 0) 0) (N 0) 2 _ = _
    unfold kB_X7_layAnew_55
    rw [if_neg (by decide)]
  · have s9 := nk 9 k (by decide) (by decide) k1 k2
    have s10 := nk 10 k (by decide) (by decide) k1 k3
    exact (zz_pa s10).trans ((zz_pa s9).trans ((zz_pa s10).trans (zz_pa s9)))
  · have s := nk 10 9 (by decide) (by decide) (by decide) (by decide)
    have s2 := nk 9 10 (by decide) (by decide) (by decide) (by decide)
    rcases (show a = 0 ∨ a = 1 by omega) with rfl | rfl
    · exact ⟨(zz_pa s).trans ((zz_pj (by decide)).trans ((zz_pa s).trans zz_ps)), (zz_pj (by decide)).trans ((zz_pa s2).trans zz_ps)⟩
    · exact ⟨(zz_pa s).trans zz_ps, zz_ps⟩
theorem zn_rlay (Y : zn_Y a2 b bq bf) : ∀ (f : Nat) (i : Int) (v : fx_U), 64 - i < (f : Int) → 0 ≤ i → i ≤ 64 → v a2 0 = (b : Int) → ∃ z : fx_U, kL_X12_road_24 b a2 f i v = kL_X12_road_85 b 3 0 z ∧ (∀ j : Nat, 512 ≤ j → z b j = v b j) ∧ (∀ j : Nat, j < 64 → i ≤ (j : Int) → z b (192 + j) = -100 ∧ z b (320 + j) = -2 ∧ z b (448 + j) = -2) ∧ ∀ j : Nat, (j : Int) < i → z b (192 + j) = v b (192 + j) ∧ z b (320 + j) = v b (320 + j) ∧ z b (448 + j) = v b (448 + j) := by
  intro f
  induction f with
  | zero => intro i v h1 h2 h3; omega
  | succ f ih =>
    intro i v h1 h2 h3 h0
    by_cases c : i < 64
    · obtain ⟨v1, hv1⟩ : ∃ q : fx_U, q = fx_pt (fx_pt (fx_pt (fx_pt v b i.toNat 0) b (64 + i.toNat) 0) b (128 + i.toNat) 0) b (192 + i.toNat) (-100) := ⟨_, rfl⟩
      obtain ⟨v2, hv2⟩ : ∃ q : fx_U, q = fx_pt (fx_pt (fx_pt v1 b (256 + i.toNat) (-100)) b (320 + i.toNat) (-2)) b (448 + i.toNat) (-2) := ⟨_, rfl⟩
      have v10 : v1 a2 0 = (b : Int) := by
        rw [hv1]
        exact (zz_pa Y.1.2).trans ((zz_pa Y.1.2).trans ((zz_pa Y.1.2).trans ((zz_pa Y.1.2).trans h0)))
      have v20 : v2 a2 0 = (b : Int) := by
        rw [hv2]
        exact (zz_pa Y.1.2).trans ((zz_pa Y.1.2).trans ((zz_pa Y.1.2).trans v10))
      have k1 : (64 + i).toNat = 64 + i.toNat := by omega
      have k2 : (128 + i).toNat = 128 + i.toNat := by omega
      have k3 : (192 + i).toNat = 192 + i.toNat := by omega
      have k4 : (256 + i).toNat = 256 + i.toNat := by omega
      have k5 : (320 + i).toNat = 320 + i.toNat := by omega
      have k6 : (448 + i).toNat = 448 + i.toNat := by omega
      have V : ∀ j : Nat, j ≠ i.toNat → j ≠ 64 + i.toNat → j ≠ 128 + i.toNat → j ≠ 192 + i.toNat → j ≠ 256 + i.toNat → j ≠ 320 + i.toNat → j ≠ 448 + i.toNat → v2 b j = v b j := fun j j1 j2 j3 j4 j5 j6 j7 => by
        rw [hv2, hv1]
        exact (zz_pj j7).trans ((zz_pj j6).trans ((zz_pj j5).trans ((zz_pj j4).trans ((zz_pj j3).trans ((zz_pj j2).trans (zz_pj j1))))))
      have V192 : v2 b (192 + i.toNat) = -100 := by
        rw [hv2, hv1]
        exact (zz_pj (by omega)).trans ((zz_pj (by omega)).trans ((zz_pj (by omega)).trans zz_ps))
      have V320 : v2 b (320 + i.toNat) = -2 := by
        rw [hv2]
        exact (zz_pj (by omega)).trans zz_ps
      have V448 : v2 b (448 + i.toNat) = -2 := by
        rw [hv2]
        exact zz_ps
      obtain ⟨z, e1, e2, e3, e4⟩ := ih (i + 1) v2 (by omega) (by omega) (by omega) v20
      refine ⟨z, ?_, fun j hj => (e2 j hj).trans (V j (by omega) (by omega) (by omega) (by omega) (by omega) (by omega) (by omega)), fun j j1 j2 => ?_, fun j j1 => ?_⟩
      · rw [← e1]
        show kB_X12_road_24 (kL_X12_road_24 b a2 f) b a2 i v = _
        unfold kB_X12_road_24 f_X12_bares
        simp only [fz_lr, fz_lt, fz_ls, Int.zero_add, k1, k2, k3, ← hv1, v10, Int.toNat_natCast, k4, k5, k6, ← hv2]
        rw [if_pos c]
      · by_cases t : j = i.toNat
        · obtain ⟨f1, f2, f3⟩ := e4 j (by omega)
          rw [f1, f2, f3, t]
          exact ⟨V192, V320, V448⟩
        · exact e3 j j1 (by omega)
      · obtain ⟨f1, f2, f3⟩ := e4 j (by omega)
        rw [f1, f2, f3]
        exact ⟨V _ (by omega) (by omega) (by omega) (by omega) (by omega) (by omega) (by omega), V _ (by omega) (by omega) (by omega) (by omega) (by omega) (by omega) (by omega), V _ (by omega) (by omega) (by omega) (by omega) (by omega) (by omega) (by omega)⟩
    · refine ⟨v, ?_, fun _ _ => rfl, fun j j1 j2 => by omega, fun j _ => ⟨rfl, rfl, rfl⟩⟩
      show kB_X12_road_24 (kL_X12_road_24 b a2 f) b a2 i v = _
      unfold kB_X12_road_24
      rw [if_neg c]
      rfl
theorem zn_rlayp : ∃ z : fx_U, kL_X12_road_85 b 3 0 v = (1, z) ∧ (∀ j : Nat, j ≠ 516 → j ≠ 517 → j ≠ 520 → j ≠ 521 → z b j = v b j) ∧ ∀ a : Nat, a < 2 → z b (516 + a) = 0 ∧ z b (520 + a) = -2 := by
  have stp : ∀ (k : Nat) (w : fx_U) (rc : Int → fx_U → Int × fx_U), k < 2 → kB_X12_road_85 rc b (k : Int) w = rc ((k : Int) + 1) (fx_pt (fx_pt w b (516 + k) 0) b (520 + k) (-2)) := fun k w rc hk => by
    have e1 : (516 + (k : Int)).toNat = 516 + k := by omega
    have e2 : (520 + (k : Int)).toNat = 520 + k := by omega
    unfold kB_X12_road_85
    simp only [fz_lt, fz_ls, e1, e2]
    rw [if_pos (by omega)]
  refine ⟨fx_pt (fx_pt (fx_pt (fx_pt v b 516 0) b 520 (-2)) b 517 0) b 521 (-2), ?_, fun j j1 j2 j3 j4 => ?_, fun a ha => ?_⟩
  · show kB_X12_road_85 (kL_X12_road_85 b 2) b ((0 : Nat) : Int) v = _
    rw [stp 0 v _ (by decide)]
    show kB_X12_road_85 (kL_X12_road_85 b 1) b ((1 : Nat) : Int) (fx_pt (fx_pt v b 516 0) b 520 (-2)) = _
    rw [stp 1 _ _ (by decide)]
    show kB_X12_road_85 (kL_X12_road_85 b 0) b 2 _ = _
    unfold kB_X12_road_85
    rw [if_neg (by decide)]
  · exact (zz_pj j4).trans ((zz_pj j2).trans ((zz_pj j3).trans (zz_pj j1)))
  · rcases (show a = 0 ∨ a = 1 by omega) with rfl | rfl
    · exact ⟨(zz_pj (by decide)).trans ((zz_pj (by decide)).trans ((zz_pj (by decide)).trans zz_ps)), (zz_pj (by decide)).trans ((zz_pj (by decide)).trans zz_ps)⟩
    · exact ⟨(zz_pj (by decide)).trans zz_ps, zz_ps⟩
theorem zn_layA (X : zn_X N la bk) (X2 : zn_X2 N) (hP : zn_P N u) : ∃ w : fx_U, f_X7_layAnew u (N 0) x = w ∧ zn_P N w ∧ zn_fr N la bk u w ∧ (w (N 0) 0 = x ∧ ∀ j : Nat, j ≠ 0 → w (N 0) j = u (N 0) j) ∧ (∀ k j : Nat, 11 ≤ k → k ≤ 14 → w (N k) j = u (N k) j) ∧ (∀ j : Nat, j < 64 → w (N 4) j = -100 ∧ w (N 5) j = -100 ∧ w (N 8) j = -2) ∧ ∀ a : Nat, a < 2 → w (N 9) a = 0 ∧ w (N 10) a = -2 := by
  have n0 : ∀ k : Nat, 1 ≤ k → k ≤ 14 → N k ≠ N 0 := fun k k1 k2 => X.1 0 k (by decide) k2 (Or.inl rfl) (by omega)
  obtain ⟨u1, hu1⟩ : ∃ q : fx_U, q = fx_pt u (N 0) 0 x := ⟨_, rfl⟩
  have P1 : zn_P N u1 := fun j k1 k2 => by
    rw [hu1]
    exact (zz_pj (by omega)).trans (hP j k1 k2)
  obtain ⟨w1, e1, P2, fr1, e2, e3, -⟩ := zn_lay X X2 65 0 u1 (by decide) (by decide) (by decide) P1
  obtain ⟨w, f1, fr2, f2, f3⟩ := zn_layp X P2
  have fu1 : zn_fr N la bk u u1 := by
    rw [hu1]
    exact zn_fr.pt (by decide)
  have z0 : ∀ j : Nat, w (N 0) j = u1 (N 0) j := fun j => (f2 0 j (by decide) (by decide) (by decide)).trans (e2 0 (Or.inl rfl) j)
  refine ⟨w, ?_, fun j k1 k2 => (z0 j).trans (P1 j k1 k2), (fu1.tr fr1).tr fr2, ⟨?_, fun j hj => ?_⟩, fun k j k1 k2 => ?_, fun j hj => ?_, f3⟩
  · unfold f_X7_layAnew
    simp only [fz_lr, fz_lt, fz_ls, Int.toNat_natCast, hP 1 (by decide) (by decide), hP 2 (by decide) (by decide), hP 3 (by decide) (by decide), ← hu1, show Int.toNat (64 - 0) + 1 = 65 from rfl, e1]
    exact f1
  · rw [z0, hu1]
    exact zz_ps
  · rw [z0, hu1]
    exact zz_pj hj
  · rw [f2 k j k2 (by omega) (by omega), e2 k (by unfold zn_lo; omega) j, hu1]
    exact zz_pa (n0 k (by omega) k2)
  · obtain ⟨s1, s2, s3⟩ := e3 j hj (by omega)
    exact ⟨(f2 4 j (by decide) (by decide) (by decide)).trans s1, (f2 5 j (by decide) (by decide) (by decide)).trans s2, (f2 8 j (by decide) (by decide) (by decide)).trans s3⟩
/-- a road laid anew on both sides -/
theorem zn_road {a1 : Nat} (X : zn_X N la bk) (X2 : zn_X2 N) (Y : zn_Y a2 b bq bf) (hP : zn_P N u) (h5 : u a1 5 = (N 0 : Int)) (h0 : v a2 0 = (b : Int)) (hR : zn_R N b D u v) (hx : 8 ≤ x ∧ x ≤ 64) : ∃ (w z : fx_U), f_X11_road u a1 x = (1, w) ∧ f_X12_road v a2 x = (1, z) ∧ zn_fr N la bk u w ∧ zn_R N b x w z := by
  have in1 : f_X11_isIn u x 8 64 = 1 := by
    unfold f_X11_isIn
    rw [if_neg (by omega), if_neg (by omega)]
  have in2 : f_X12_in v x 8 64 = 1 := by
    unfold f_X12_in
    rw [if_neg (by omega), if_neg (by omega)]
  obtain ⟨⟨⟨g1, g2⟩, g3, g4, g5, g6, g7⟩, hd, ⟨hA0, hA1⟩, hne, hC⟩ := hR
  have n0 : ∀ k : Nat, 1 ≤ k → k ≤ 14 → N k ≠ N 0 := fun k k1 k2 => X.1 0 k (by decide) k2 (Or.inl rfl) (by omega)
  obtain ⟨u1, hu1⟩ : ∃ q : fx_U, q = fx_pt u (N 0) 0 x := ⟨_, rfl⟩
  have P1 : zn_P N u1 := fun j k1 k2 => by
    rw [hu1]
    exact (zz_pj (by omega)).trans (hP j k1 k2)
  obtain ⟨w1, e1, P2, fr1, e2, e3, -⟩ := zn_lay X X2 65 0 u1 (by decide) (by decide) (by decide) P1
  obtain ⟨w, f1, fr2, f2, f3⟩ := zn_layp X P2
  have fu1 : zn_fr N la bk u u1 := by
    rw [hu1]
    exact zn_fr.pt (by decide)
  obtain ⟨v1, hv1⟩ : ∃ q : fx_U, q = fx_pt v b 512 x := ⟨_, rfl⟩
  have v0 : v1 a2 0 = (b : Int) := by
    rw [hv1]
    exact (zz_pa Y.1.2).trans h0
  obtain ⟨z1, k1, k2, k3, -⟩ := zn_rlay Y 65 0 v1 (by decide) (by decide) (by decide) v0
  obtain ⟨z, l1, l2, l3⟩ := zn_rlayp (b := b) (v := z1)
  refine ⟨w, z, ?_, ?_, (fu1.tr fr1).tr fr2, ?_⟩
  · unfold f_X11_road f_X7_layAnew
    simp only [fz_lr, fz_lt, fz_ls, h5, Int.toNat_natCast, in1, if_neg zz_n10, hP 1 (by decide) (by decide), hP 2 (by decide) (by decide), hP 3 (by decide) (by decide), ← hu1, show Int.toNat (64 - 0) + 1 = 65 from rfl, e1, f1]
  · unfold f_X12_road
    simp only [fz_lr, fz_lt, fz_ls, h0, Int.toNat_natCast, in2, if_neg zz_n10, show Int.toNat 512 = 512 from rfl, ← hv1, show Int.toNat (64 - 0) + 1 = 65 from rfl]
    exact k1.trans l1
  · have W0 : ∀ j : Nat, j ≠ 0 → w (N 0) j = u (N 0) j := fun j hj => by
      refine (f2 0 j (by decide) (by decide) (by decide)).trans ((e2 0 (Or.inl rfl) j).trans ?_)
      rw [hu1]
      exact zz_pj hj
    have W00 : w (N 0) 0 = x := by
      refine (f2 0 0 (by decide) (by decide) (by decide)).trans ((e2 0 (Or.inl rfl) 0).trans ?_)
      rw [hu1]
      exact zz_ps
    have Wk : ∀ k j : Nat, k ≤ 14 → zn_lo k → k ≠ 0 → k ≠ 9 → w (N k) j = u (N k) j := fun k j h1 h2 h3 h4 => by
      refine (f2 k j h1 h4 (fun e => ?_)).trans ((e2 k h2 j).trans ?_)
      · rw [e] at h2
        unfold zn_lo at h2
        omega
      · rw [hu1]
        exact zz_pa (n0 k (by omega) h1)
    have Z : ∀ j : Nat, 512 < j → j ≠ 516 → j ≠ 517 → j ≠ 520 → j ≠ 521 → z b j = v b j := fun j h1 h2 h3 h4 h5 => by
      refine (l2 j h2 h3 h4 h5).trans ((k2 j (by omega)).trans ?_)
      rw [hv1]
      exact zz_pj (by omega)
    have Z0 : z b 512 = x := by
      refine (l2 512 (by decide) (by decide) (by decide) (by decide)).trans ((k2 512 (by decide)).trans ?_)
      rw [hv1]
      exact zz_ps
    have am : ∀ a : Nat, a < 2 → zn_A N b D u v a → zn_A N b x w z a := fun a ha h => by
      obtain ⟨s1, s2⟩ := f3 a ha
      obtain ⟨s3, s4⟩ := l3 a ha
      unfold zn_A
      rw [s1, s2, s3, s4, Wk 12 a (by decide) (by unfold zn_lo; decide) (by decide) (by decide), Z (518 + a) (by omega) (by omega) (by omega) (by omega) (by omega)]
      exact ⟨rfl, h.2.1, rfl, Or.inl rfl⟩
    refine ⟨?_, fun j hj => ?_, ⟨am 0 (by decide) hA0, am 1 (by decide) hA1⟩, fun _ => (f3 0 (by decide)).2, fun c hc => zn_Cm (hC c hc) ⟨Wk 13 c (by decide) (by unfold zn_lo; decide) (by decide) (by decide), Wk 14 c (by decide) (by unfold zn_lo; decide) (by decide) (by decide)⟩ ⟨Z _ (by omega) (by omega) (by omega) (by omega) (by omega), Z _ (by omega) (by omega) (by omega) (by omega) (by omega), Z _ (by omega) (by omega) (by omega) (by omega) (by omega)⟩⟩
    · unfold zn_G
      rw [W00, Z0, W0 15 (by decide), W0 16 (by decide), W0 17 (by decide), Z 513 (by omega) (by omega) (by omega) (by omega) (by omega), Z 514 (by omega) (by omega) (by omega) (by omega) (by omega), Z 515 (by omega) (by omega) (by omega) (by omega) (by omega)]
      exact ⟨⟨rfl, rfl⟩, g3, g4, g5, g6, g7⟩
    · obtain ⟨s1, s2, s3⟩ := e3 j hj (by omega)
      obtain ⟨t1, t2, t3⟩ := k3 j hj (by omega)
      unfold zn_D
      rw [f2 4 j (by decide) (by decide) (by decide), f2 5 j (by decide) (by decide) (by decide), f2 8 j (by decide) (by decide) (by decide), s1, s2, s3, l2 (192 + j) (by omega) (by omega) (by omega) (by omega), l2 (320 + j) (by omega) (by omega) (by omega) (by omega), l2 (448 + j) (by omega) (by omega) (by omega) (by omega), t1, t2, t3]
      exact ⟨rfl, rfl, Or.inl ⟨rfl, rfl⟩⟩
end Lay
