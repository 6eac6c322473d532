/-! THE NIGHT: a party, an old line -/
section Party
variable {N : Nat → Nat} {la bk a2 b bq bf : Nat} {D p x y : Int} {u v w z : fx_U}
theorem zn_Rparty (X : zn_X N la bk) (X2 : zn_X2 N) (hR : zn_R N b D u v) (hp : p = 0 ∨ p = 1) (hy : -20 ≤ y ∧ y ≤ 20) : zn_R N b D (fx_pt (fx_pt u (N 9) p.toNat x) (N 12) p.toNat y) (fx_pt (fx_pt v b (516 + p.toNat) x) b (518 + p.toNat) y) := by
  obtain ⟨w, hw⟩ : ∃ w : fx_U, w = fx_pt (fx_pt u (N 9) p.toNat x) (N 12) p.toNat y := ⟨_, rfl⟩
  obtain ⟨z, hz⟩ : ∃ z : fx_U, z = fx_pt (fx_pt v b (516 + p.toNat) x) b (518 + p.toNat) y := ⟨_, rfl⟩
  rw [← hw, ← hz]
  have nk : ∀ k : Nat, k ≤ 14 → k ≠ 9 → N k ≠ N 9 := fun k k1 k2 => X.1 9 k (by decide) k1 (Or.inr ⟨by decide, by decide⟩) (fun h => k2 h.symm)
  have U : ∀ k j : Nat, k ≤ 14 → (k ≠ 9 ∨ j ≠ p.toNat) → (k ≠ 12 ∨ j ≠ p.toNat) → w (N k) j = u (N k) j := fun k j k1 k2 k3 => by
    have s1 : fx_pt u (N 9) p.toNat x (N k) j = u (N k) j := by
      rcases k2 with h | h
      · exact zz_pa (nk k k1 h)
      · exact zz_pj h
    rw [hw]
    rcases k3 with h | h
    · exact (zz_pa (X2.2.2.1 k k1 h)).trans s1
    · exact (zz_pj h).trans s1
  have V : ∀ j : Nat, j ≠ 516 + p.toNat → j ≠ 518 + p.toNat → z b j = v b j := fun j j1 j2 => by
    rw [hz]
    exact (zz_pj j2).trans (zz_pj j1)
  have V1 : z b (516 + p.toNat) = x := by
    rw [hz]
    exact (zz_pj (by omega)).trans zz_ps
  have V2 : z b (518 + p.toNat) = y := by
    rw [hz]
    exact zz_ps
  have U1 : w (N 9) p.toNat = x := by
    rw [hw]
    exact (zz_pa (X2.2.2.1 9 (by decide) (by decide))).trans zz_ps
  have U2 : w (N 12) p.toNat = y := by
    rw [hw]
    exact zz_ps
  obtain ⟨hG, hd, hAA, hne, hC⟩ := hR
  obtain ⟨hA, hO⟩ := zn_Aa hp hAA
  obtain ⟨e1, e2, e3, e4⟩ := hA
  refine ⟨zn_Gm hG (fun j => U 0 j (by decide) (Or.inl (by decide)) (Or.inl (by decide))) ⟨V _ (by omega) (by omega), V _ (by omega) (by omega), V _ (by omega) (by omega), V _ (by omega) (by omega)⟩, fun j hj => zn_Dm (hd j hj) ⟨U 4 j (by decide) (Or.inl (by decide)) (Or.inl (by decide)), U 5 j (by decide) (Or.inl (by decide)) (Or.inl (by decide)), U 6 j (by decide) (Or.inl (by decide)) (Or.inl (by decide)), U 7 j (by decide) (Or.inl (by decide)) (Or.inl (by decide)), U 8 j (by decide) (Or.inl (by decide)) (Or.inl (by decide))⟩ ⟨V _ (by omega) (by omega), V _ (by omega) (by omega), V _ (by omega) (by omega), V _ (by omega) (by omega), V _ (by omega) (by omega)⟩, zn_AA hp ?_ ?_, ?_, fun c hc => zn_Cm (hC c hc) ⟨U 13 c (by decide) (Or.inl (by decide)) (Or.inl (by decide)), U 14 c (by decide) (Or.inl (by decide)) (Or.inl (by decide))⟩ ⟨V _ (by omega) (by omega), V _ (by omega) (by omega), V _ (by omega) (by omega)⟩⟩
  · unfold zn_A
    rw [U1, U2, V1, V2, U 10 _ (by decide) (Or.inl (by decide)) (Or.inl (by decide)), U 11 _ (by decide) (Or.inl (by decide)) (Or.inl (by decide)), U 5 _ (by decide) (Or.inl (by decide)) (Or.inl (by decide)), V (520 + p.toNat) (by omega) (by omega), V (522 + p.toNat) (by omega) (by omega)]
    exact ⟨rfl, ⟨rfl, hy.1, hy.2⟩, e3, e4⟩
  · exact zn_Am hO ⟨U 9 _ (by decide) (Or.inr (by omega)) (Or.inl (by decide)), U 10 _ (by decide) (Or.inl (by decide)) (Or.inl (by decide)), U 11 _ (by decide) (Or.inl (by decide)) (Or.inl (by decide)), U 12 _ (by decide) (Or.inl (by decide)) (Or.inr (by omega))⟩ (fun _ => U 5 _ (by decide) (Or.inl (by decide)) (Or.inl (by decide))) ⟨V _ (by omega) (by omega), V _ (by omega) (by omega), V _ (by omega) (by omega), V _ (by omega) (by omega)⟩
  · rw [U 10 0 (by decide) (Or.inl (by decide)) (Or.inl (by decide)), U 10 1 (by decide) (Or.inl (by decide)) (Or.inl (by decide))]
    exact hne
/-- the whole of a party, once it is let in -/
theorem zn_party {a1 : Nat} (X : zn_X N la bk) (X2 : zn_X2 N) (Y : zn_Y a2 b bq bf) (hP : zn_P N u) (h5 : u a1 5 = (N 0 : Int)) (n5 : a1 ≠ la ∧ a1 ≠ bk ∧ ∀ j : Nat, j ≤ 14 → a1 ≠ N j) (h0 : v a2 0 = (b : Int)) (hR : zn_R N b D u v) (hD : 8 ≤ D ∧ D ≤ 64) (hp : p = 0 ∨ p = 1) (hx : x = 0 ∨ x = 1) (hy : -20 ≤ y ∧ y ≤ 20) : ∃ (w z : fx_U), f_X11_party u a1 p x y = (1, w) ∧ f_X12_party v a2 p x y = (1, z) ∧ zn_fr N la bk u w ∧ zn_R N b D w z := by
  have in1 : f_X11_isIn u p 0 1 = 1 := by
    unfold f_X11_isIn
    rw [if_neg (by omega), if_neg (by omega)]
  have in2 : f_X11_isIn u y (-20) 20 = 1 := by
    unfold f_X11_isIn
    rw [if_neg (by omega), if_neg (by omega)]
  have in3 : f_X12_in v p 0 1 = 1 := by
    unfold f_X12_in
    rw [if_neg (by omega), if_neg (by omega)]
  have in4 : f_X12_in v y (-20) 20 = 1 := by
    unfold f_X12_in
    rw [if_neg (by omega), if_neg (by omega)]
  have q1 : (516 + p).toNat = 516 + p.toNat := by omega
  have q2 : (518 + p).toNat = 518 + p.toNat := by omega
  have q3 : (520 + p).toNat = 520 + p.toNat := by omega
  have p9 := hP 9 (by decide) (by decide)
  have p10 := hP 10 (by decide) (by decide)
  have p12 := hP 12 (by decide) (by decide)
  have n09 : N 0 ≠ N 9 := X.1 9 0 (by decide) (by decide) (Or.inr ⟨by decide, by decide⟩) (by decide)
  have R1 := zn_Rparty (x := x) X X2 hR hp hy
  obtain ⟨v1, hv1⟩ : ∃ q : fx_U, q = fx_pt (fx_pt v b (516 + p.toNat) x) b (518 + p.toNat) y := ⟨_, rfl⟩
  obtain ⟨u1, hu1⟩ : ∃ q : fx_U, q = fx_pt (fx_pt u (N 9) p.toNat x) (N 12) p.toNat y := ⟨_, rfl⟩
  rw [← hv1, ← hu1] at R1
  have fu1 : zn_fr N la bk u u1 := by
    rw [hu1]
    exact zn_fr.tr (zn_fr.pt (by decide)) (zn_fr.pt (by decide))
  have eB : f_X12_party v a2 p x y = if x = 0 then (1, f_X12_leaves v1 a2 p) else (1, v1) := by
    unfold f_X12_party kJ_X12_party_40
    simp only [fz_lr, fz_lt, fz_ls, h0, Int.toNat_natCast, in3, in4, q1, q2, if_neg zz_n10]
    rcases hx with e | e
    · rw [e] at hv1
      simp only [e, if_true, ← hv1]
    · rw [e] at hv1
      simp only [e, if_neg zz_n10, ← hv1]
  have eP : ∀ w : fx_U, w a1 5 = (N 0 : Int) → w (N 0) 9 = (N 9 : Int) → w (N 0) 12 = (N 12 : Int) → kJ_X11_party_54 a1 p x y w = (1, fx_pt (fx_pt w (N 9) p.toNat x) (N 12) p.toNat y) := fun w k5 k9 k12 => by
    unfold kJ_X11_party_54
    have z : fx_pt w (N 9) p.toNat x (N 0) 12 = (N 12 : Int) := (zz_pa n09).trans k12
    simp only [fz_lr, fz_ls, k5, k9, Int.toNat_natCast, z]
  have eA : f_X11_party u a1 p x y = if x = 0 then (if u (N 10) p.toNat < 0 then kJ_X11_party_54 a1 p x y u else kJ_X11_party_54 a1 p x y (f_X7_makeBare u (N 0) (u (N 10) p.toNat))) else kJ_X11_party_54 a1 p x y u := by
    unfold f_X11_party
    simp only [fz_lr, fz_lt, fz_ls, h5, Int.toNat_natCast, in1, in2, p10, if_neg zz_n10]
  have eP0 := eP u h5 p9 p12
  rw [← hu1] at eP0
  have v0 : v1 a2 0 = (b : Int) := by
    rw [hv1]
    exact (zz_pa Y.1.2).trans ((zz_pa Y.1.2).trans h0)
  have v520 : ∀ a : Nat, a < 2 → v1 b (520 + a) = v b (520 + a) := fun a ha => by
    rw [hv1]
    exact (zz_pj (by omega)).trans (zz_pj (by omega))
  obtain ⟨hG, hd, hAA, hne, hC⟩ := hR
  obtain ⟨hA, hO⟩ := zn_Aa hp hAA
  obtain ⟨e1, e2, e3, e4⟩ := hA
  rw [eA, eB]
  rcases hx with e | e
  · rw [if_pos e, if_pos e]
    by_cases c : u (N 10) p.toNat < 0
    · rw [if_pos c, eP0]
      have c2 : v1 b (520 + p.toNat) = -2 := by
        rw [v520 p.toNat (by omega), ← e3]
        omega
      have eL : f_X12_leaves v1 a2 p = fx_pt v1 b (520 + p.toNat) (-2) := by
        unfold f_X12_leaves kJ_X12_leaves_36
        simp only [fz_lr, fz_lt, fz_ls, v0, Int.toNat_natCast, q3]
        rw [if_pos c2]
      refine ⟨u1, _, rfl, rfl, fu1, ?_⟩
      rw [eL]
      have zb : ∀ j : Nat, fx_pt v1 b (520 + p.toNat) (-2) b j = v1 b j := fun j => by
        by_cases t : j = 520 + p.toNat
        · rw [t, c2]
          exact zz_ps
        · exact zz_pj t
      obtain ⟨hG, hd, ⟨hA0, hA1⟩, hne, hC⟩ := R1
      exact ⟨zn_Gm hG (fun _ => rfl) ⟨zb _, zb _, zb _, zb _⟩, fun j hj => zn_Dm (hd j hj) ⟨rfl, rfl, rfl, rfl, rfl⟩ ⟨zb _, zb _, zb _, zb _, zb _⟩, ⟨zn_Am hA0 ⟨rfl, rfl, rfl, rfl⟩ (fun _ => rfl) ⟨zb _, zb _, zb _, zb _⟩, zn_Am hA1 ⟨rfl, rfl, rfl, rfl⟩ (fun _ => rfl) ⟨zb _, zb _, zb _, zb _⟩⟩, hne, fun c hc => zn_Cm (hC c hc) ⟨rfl, rfl⟩ ⟨zb _, zb _, zb _⟩⟩
    · rw [if_neg c]
      obtain ⟨i, hi⟩ : ∃ i : Int, i = u (N 10) p.toNat := ⟨_, rfl⟩
      rw [← hi] at c e3 e4 ⊢
      have ib : 0 ≤ i ∧ i < D := by
        rcases e4 with h | ⟨h, -⟩
        · omega
        · exact h
      have ibare : u (N 5) i.toNat = -100 := by
        rcases e4 with h | ⟨-, h, -⟩
        · omega
        · exact h
      have vbare : v b (320 + i.toNat) = -2 := by
        rcases (hd i.toNat (by omega)).2.2 with ⟨-, h⟩ | ⟨h, -⟩
        · exact h
        · omega
      clear e4
      have iother : u (N 10) (1 - p.toNat) ≠ i := fun h => by
        have t := (zn_ne hp).1 hne (hi.symm.trans h.symm)
        omega
      obtain ⟨F, W1, ⟨W2, W3⟩, W4⟩ := zn_mb (i := i) X hP
      have a5 : f_X7_makeBare u (N 0) i a1 5 = (N 0 : Int) := (F.1 a1 n5.1 n5.2.1 (fun j _ h2 => n5.2.2 j (by omega)) 5).trans h5
      have eP1 := eP _ a5 ((F.N0 X 9).trans p9) ((F.N0 X 12).trans p12)
      obtain ⟨w0, hw0⟩ : ∃ q : fx_U, q = f_X7_makeBare u (N 0) i := ⟨_, rfl⟩
      rw [← hw0] at eP1 W1 W2 W3 W4 ⊢
      have k448 : (448 + i).toNat = 448 + i.toNat := by omega
      have c2 : v1 b (520 + p.toNat) = i := by
        rw [v520 p.toNat (by omega)]
        exact e3.symm
      have ni : ¬ i = -2 := by omega
      have eL : f_X12_leaves v1 a2 p = fx_pt (fx_pt v1 b (448 + i.toNat) (-2)) b (520 + p.toNat) (-2) := by
        unfold f_X12_leaves kJ_X12_leaves_36
        simp only [fz_lr, fz_lt, fz_ls, v0, Int.toNat_natCast, q3, c2, k448]
        rw [if_neg ni]
      refine ⟨_, _, eP1, rfl, (by rw [hw0]; exact F.fr : zn_fr N la bk u w0).tr (zn_fr.tr (zn_fr.pt (by decide)) (zn_fr.pt (by decide))), ?_⟩
      rw [eL]
      have nk : ∀ k : Nat, k ≤ 14 → k ≠ 9 → N k ≠ N 9 := fun k k1 k2 => X.1 9 k (by decide) k1 (Or.inr ⟨by decide, by decide⟩) (fun h => k2 h.symm)
      have pq : ∀ (q r : fx_U) (k j : Nat), k ≤ 14 → q (N k) j = r (N k) j → fx_pt (fx_pt q (N 9) p.toNat x) (N 12) p.toNat y (N k) j = fx_pt (fx_pt r (N 9) p.toNat x) (N 12) p.toNat y (N k) j := fun q r k j hk h => by
        by_cases t1 : k = 12
        · rw [t1] at h ⊢
          by_cases t2 : j = p.toNat
          · rw [t2]
            exact zz_ps.trans zz_ps.symm
          · exact (zz_pj t2).trans (((zz_pj t2).trans (h.trans (zz_pj t2).symm)).trans (zz_pj t2).symm)
        · have s := X2.2.2.1 k hk t1
          by_cases t2 : k = 9
          · rw [t2] at h s ⊢
            by_cases t3 : j = p.toNat
            · rw [t3]
              exact (zz_pa s).trans (zz_ps.trans (zz_ps.symm.trans (zz_pa s).symm))
            · exact (zz_pa s).trans ((zz_pj t3).trans (h.trans ((zz_pj t3).symm.trans (zz_pa s).symm)))
          · have s2 := nk k hk t2
            exact (zz_pa s).trans ((zz_pa s2).trans (h.trans ((zz_pa s2).symm.trans (zz_pa s).symm)))
      have po : ∀ (q : fx_U) (k j : Nat), k ≤ 14 → k ≠ 9 → k ≠ 12 → fx_pt (fx_pt q (N 9) p.toNat x) (N 12) p.toNat y (N k) j = q (N k) j := fun q k j hk h1 h2 => (zz_pa (X2.2.2.1 k hk h2)).trans (zz_pa (nk k hk h1))
      refine zn_Rbare (i := i) R1 ⟨ib.1, by omega⟩ ⟨fun k j k1 k2 k3 => ?_, ⟨?_, ?_⟩, fun a ha => ?_⟩ ⟨fun j j0 j1 j2 j3 j4 j5 => ?_, ⟨?_, ?_⟩, fun a ha => ?_⟩
      · rw [hu1]
        exact pq w0 u k j k1 (W1 k j k1 k2 k3)
      · rw [po w0 5 _ (by decide) (by decide) (by decide)]
        exact W2
      · rw [po w0 8 _ (by decide) (by decide) (by decide)]
        exact W3
      · rw [po w0 10 _ (by decide) (by decide) (by decide), hu1, po u 10 _ (by decide) (by decide) (by decide)]
        exact W4 a ha
      · exact (zz_pj (by omega)).trans (zz_pj j3)
      · refine (zz_pj (by omega)).trans ((zz_pj (by omega)).trans ?_)
        rw [hv1]
        exact (zz_pj (by omega)).trans ((zz_pj (by omega)).trans vbare)
      · exact (zz_pj (by omega)).trans zz_ps
      · by_cases t : a = p.toNat
        · rw [t, c2, if_pos rfl]
          exact zz_ps
        · have ta : a = 1 - p.toNat := by omega
          have o : v b (520 + a) = u (N 10) a := by
            rw [ta]
            exact hO.2.2.1.symm
          rw [v520 a ha, o, if_neg (by rw [ta]; exact iother)]
          exact (zz_pj (by omega)).trans ((zz_pj (by omega)).trans ((v520 a ha).trans o))
  · have ne : ¬ x = 0 := by omega
    rw [if_neg ne, if_neg ne, eP0]
    exact ⟨u1, v1, rfl, rfl, fu1, R1⟩
/-- an old line -/
theorem zn_old (X2 : zn_X2 N) (hx : x < 64) : ∀ (f : Nat) (i : Int) (u v : fx_U), 64 - i < (f : Int) → 0 ≤ i → i ≤ 64 → u (N 0) 4 = (N 4 : Int) → zn_R N b D u v → ∃ (w z : fx_U), kL_X11_old_28 x (N 0) y f i u = (1, w) ∧ kL_X12_old_37 x b y f i v = (1, z) ∧ zn_fr N la bk u w ∧ zn_R N b D w z := by
  intro f
  induction f with
  | zero => intro i u v h1 h2 h3; omega
  | succ f ih =>
    intro i u v h1 h2 h3 p4 hR
    by_cases c : x < i
    · refine ⟨u, v, ?_, ?_, zn_fr.rf, hR⟩
      · show kB_X11_old_28 (kL_X11_old_28 x (N 0) y f) x (N 0) y i u = _
        unfold kB_X11_old_28
        rw [if_pos c]
      · show kB_X12_old_37 (kL_X12_old_37 x b y f) x b y i v = _
        unfold kB_X12_old_37
        rw [if_pos c]
    · have k : (192 + i).toNat = 192 + i.toNat := by omega
      have nk : ∀ k : Nat, k ≤ 14 → k ≠ 4 → N k ≠ N 4 := X2.2.2.2
      have R1 : zn_R N b D (fx_pt u (N 4) i.toNat y) (fx_pt v b (192 + i.toNat) y) := by
        obtain ⟨hG, hd, ⟨hA0, hA1⟩, hne, hC⟩ := hR
        have am : ∀ a : Nat, a < 2 → zn_A N b D u v a → zn_A N b D (fx_pt u (N 4) i.toNat y) (fx_pt v b (192 + i.toNat) y) a := fun a ha h => zn_Am h ⟨zz_pa (nk 9 (by decide) (by decide)), zz_pa (nk 10 (by decide) (by decide)), zz_pa (nk 11 (by decide) (by decide)), zz_pa (nk 12 (by decide) (by decide))⟩ (fun _ => zz_pa (nk 5 (by decide) (by decide))) ⟨zz_pj (by omega), zz_pj (by omega), zz_pj (by omega), zz_pj (by omega)⟩
        refine ⟨zn_Gm hG (fun _ => zz_pa (nk 0 (by decide) (by decide))) ⟨zz_pj (by omega), zz_pj (by omega), zz_pj (by omega), zz_pj (by omega)⟩, fun j hj => ?_, ⟨am 0 (by decide) hA0, am 1 (by decide) hA1⟩, ?_, fun c hc => zn_Cm (hC c hc) ⟨zz_pa (nk 13 (by decide) (by decide)), zz_pa (nk 14 (by decide) (by decide))⟩ ⟨zz_pj (by omega), zz_pj (by omega), zz_pj (by omega)⟩⟩
        · by_cases e : j = i.toNat
          · obtain ⟨-, d2, d3⟩ := hd j hj
            rw [e] at d2 d3 ⊢
            have k5 : fx_pt u (N 4) i.toNat y (N 5) i.toNat = u (N 5) i.toNat := zz_pa (nk 5 (by decide) (by decide))
            have k6 : fx_pt u (N 4) i.toNat y (N 6) i.toNat = u (N 6) i.toNat := zz_pa (nk 6 (by decide) (by decide))
            have k7 : fx_pt u (N 4) i.toNat y (N 7) i.toNat = u (N 7) i.toNat := zz_pa (nk 7 (by decide) (by decide))
            have k8 : fx_pt u (N 4) i.toNat y (N 8) i.toNat = u (N 8) i.toNat := zz_pa (nk 8 (by decide) (by decide))
            have r2 : fx_pt v b (192 + i.toNat) y b (256 + i.toNat) = v b (256 + i.toNat) := zz_pj (by omega)
            have r3 : fx_pt v b (192 + i.toNat) y b (320 + i.toNat) = v b (320 + i.toNat) := zz_pj (by omega)
            have r4 : fx_pt v b (192 + i.toNat) y b (384 + i.toNat) = v b (384 + i.toNat) := zz_pj (by omega)
            have r5 : fx_pt v b (192 + i.toNat) y b (448 + i.toNat) = v b (448 + i.toNat) := zz_pj (by omega)
            unfold zn_D
            rw [k5, k6, k7, k8, r2, r3, r4, r5]
            exact ⟨zz_ps.trans zz_ps.symm, d2, d3⟩
          · exact zn_Dm (hd j hj) ⟨zz_pj e, zz_pa (nk 5 (by decide) (by decide)), zz_pa (nk 6 (by decide) (by decide)), zz_pa (nk 7 (by decide) (by decide)), zz_pa (nk 8 (by decide) (by decide))⟩ ⟨zz_pj (by omega), zz_pj (by omega), zz_pj (by omega), zz_pj (by omega), zz_pj (by omega)⟩
        · have k0 : fx_pt u (N 4) i.toNat y (N 10) 0 = u (N 10) 0 := zz_pa (nk 10 (by decide) (by decide))
          have k1 : fx_pt u (N 4) i.toNat y (N 10) 1 = u (N 10) 1 := zz_pa (nk 10 (by decide) (by decide))
          rw [k0, k1]
          exact hne
      obtain ⟨w, z, e1, e2, fr, R2⟩ := ih (i + 1) _ _ (by omega) (by omega) (by omega) ((zz_pa (nk 0 (by decide) (by decide))).trans p4) R1
      refine ⟨w, z, ?_, ?_, zn_fr.tr (zn_fr.pt (by decide)) fr, R2⟩
      · show kB_X11_old_28 (kL_X11_old_28 x (N 0) y f) x (N 0) y i u = _
        unfold kB_X11_old_28
        simp only [fz_lr, fz_lt, fz_ls, p4, Int.toNat_natCast]
        rw [if_neg c]
        exact e1
      · show kB_X12_old_37 (kL_X12_old_37 x b y f) x b y i v = _
        unfold kB_X12_old_37
        simp only [fz_lt, fz_ls, k]
        rw [if_neg c]
        exact e2
end Party
