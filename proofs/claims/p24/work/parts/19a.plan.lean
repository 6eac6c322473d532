/-! ALL IS PAINTED BY BOTH: one dot in the class, a start and an end in the reference. K: the law, its stack, the road, the plan and its three rows; J: the reference, its stack, its facts, its rows -/
def zp_dis (n : Nat) (K : Nat → Nat) : Prop := ∀ i j : Nat, i < n → j < n → i ≠ j → K i ≠ K j
def zp_ca (K : Nat → Nat) (u w : fx_U) : Prop := (∀ b : Nat, b ≠ K 0 → b ≠ K 1 → b ≠ K 3 → b ≠ K 4 → b ≠ K 5 → b ≠ K 6 → ∀ i : Nat, w b i = u b i) ∧ (∀ j : Nat, j < 9 → w (K 0) j = u (K 0) j) ∧ ∀ j : Nat, j < 3 → w (K 3) j = u (K 3) j
def zp_ra (J : Nat → Nat) (v z : fx_U) : Prop := (∀ b : Nat, b ≠ J 0 → b ≠ J 1 → b ≠ J 2 → b ≠ J 3 → b ≠ J 4 → b ≠ J 5 → b ≠ J 6 → b ≠ J 7 → b ≠ J 8 → ∀ i : Nat, z b i = v b i) ∧ ∀ j : Nat, (j ≠ 4 ∧ (j < 39 ∨ 42 < j)) → z (J 0) j = v (J 0) j
def zp_qc (K : Nat → Nat) (A B : Int → Int → Int → Int) (D : Int) (u : fx_U) : Prop := ∀ w : fx_U, zp_ca K u w → ∀ i t p : Int, 0 ≤ i → i < D → (p = 0 ∨ p = 1) → (∃ y : fx_U, f_X3_ask w (K 0) 112 (K 2) i t p 0 = (A i t p, y) ∧ zv_fa (K 0) (K 1) w y) ∧ ∃ y : fx_U, f_X3_ask w (K 0) 100 (K 2) i t p 0 = (B i t p, y) ∧ zv_fa (K 0) (K 1) w y
def zp_qr (J : Nat → Nat) (A B : Int → Int → Int → Int) (D : Int) (v : fx_U) : Prop := ∀ z : fx_U, zp_ra J v z → ∀ i t p : Int, 0 ≤ i → i < D → (p = 0 ∨ p = 1) → (∃ y : fx_U, f_X12_paintsFor z (J 0) i t p = (A i t p, y) ∧ zv_fb (J 1) (J 2) z y) ∧ ∃ y : fx_U, f_X12_driesFor z (J 0) i t p = (B i t p, y) ∧ zv_fb (J 1) (J 2) z y
def zp_bd (A B : Int → Int → Int → Int) (D : Int) : Prop := ∀ i t p : Int, 0 ≤ i → i < D → (p = 0 ∨ p = 1) → (1 ≤ A i t p ∧ A i t p ≤ 9) ∧ 0 ≤ B i t p ∧ B i t p ≤ 99
def zp_pc (K : Nat → Nat) (u : fx_U) : Prop := u (K 3) 0 = (K 4 : Int) ∧ u (K 3) 1 = (K 5 : Int) ∧ u (K 3) 2 = (K 6 : Int)
def zp_pr (J : Nat → Nat) (v : fx_U) : Prop := (v (J 0) 33 = (J 3 : Int) ∧ v (J 0) 34 = (J 4 : Int) ∧ v (J 0) 35 = (J 5 : Int) ∧ v (J 0) 36 = (J 6 : Int)) ∧ v (J 0) 37 = (J 7 : Int) ∧ v (J 0) 38 = (J 8 : Int)
section Plan
variable {K J : Nat → Nat} {A B : Int → Int → Int → Int} {D f i p t : Int} {u v w y z : fx_U}
theorem zp_ca.rf : zp_ca K u u := ⟨fun _ _ _ _ _ _ _ _ => rfl, fun _ _ => rfl, fun _ _ => rfl⟩
theorem zp_ca.fa (hK : zp_dis 7 K) (h : zp_ca K u w) (k : zv_fa (K 0) (K 1) w y) : zp_ca K u y := ⟨fun b h0 h1 h3 h4 h5 h6 i => (k.1 b h0 h1 i).trans (h.1 b h0 h1 h3 h4 h5 h6 i), fun j hj => (k.2 j hj).trans (h.2.1 j hj), fun j hj => (k.1 (K 3) (hK 3 0 (by decide) (by decide) (by decide)) (hK 3 1 (by decide) (by decide) (by decide)) j).trans (h.2.2 j hj)⟩
theorem zp_ca.rw (hK : zp_dis 7 K) {r j : Nat} {x : Int} (hr : r = 4 ∨ r = 5 ∨ r = 6) (h : zp_ca K u w) : zp_ca K u (fx_pt w (K r) j x) := by
  refine ⟨fun b h0 h1 h3 h4 h5 h6 i => (zz_pa ?_).trans (h.1 b h0 h1 h3 h4 h5 h6 i), fun j hj => (zz_pa (hK 0 r (by decide) (by omega) (by omega))).trans (h.2.1 j hj), fun j hj => (zz_pa (hK 3 r (by decide) (by omega) (by omega))).trans (h.2.2 j hj)⟩
  rcases hr with e | e | e <;> rw [e] <;> assumption
theorem zp_ca.pl (hK : zp_dis 7 K) {j : Nat} {x : Int} (hj : 3 ≤ j) (h : zp_ca K u w) : zp_ca K u (fx_pt w (K 3) j x) := ⟨fun b h0 h1 h3 h4 h5 h6 i => (zz_pa h3).trans (h.1 b h0 h1 h3 h4 h5 h6 i), fun j hj => (zz_pa (hK 0 3 (by decide) (by decide) (by decide))).trans (h.2.1 j hj), fun i hi => (zz_pj (by omega)).trans (h.2.2 i hi)⟩
/-- one dot in the class -/
theorem zp_one (hK : zp_dis 7 K) (hq : zp_qc K A B D u) (hb : zp_bd A B D) (hp : zp_pc K u) (hw : zp_ca K u w) (hi : 0 ≤ i ∧ i < D) (p01 : p = 0 ∨ p = 1) (hf : w (K 6) p.toNat = f) (fb : 0 ≤ f ∧ f ≤ 2000) : ∃ y : fx_U, f_X6_paintOne w (K 3) (K 2) (K 0) p i = y ∧ zp_ca K u y ∧ (y (K 6) p.toNat = f + A i f p ∧ ∀ j : Nat, j ≠ p.toNat → y (K 6) j = w (K 6) j) ∧ (y (K 4) i.toNat = f ∧ ∀ j : Nat, j ≠ i.toNat → y (K 4) j = w (K 4) j) ∧ (y (K 5) i.toNat = f + A i f p + B i (f + A i f p) p ∧ ∀ j : Nat, j ≠ i.toNat → y (K 5) j = w (K 5) j) ∧ y (K 3) 3 = (if w (K 3) 3 < f + A i f p + B i (f + A i f p) p then f + A i f p + B i (f + A i f p) p else w (K 3) 3) ∧ ((w (K 3) 4 < f + A i f p ∨ (f + A i f p = w (K 3) 4 ∧ p = 1)) → y (K 3) 4 = f + A i f p ∧ y (K 3) 5 = i) ∧ (¬ (w (K 3) 4 < f + A i f p ∨ (f + A i f p = w (K 3) 4 ∧ p = 1)) → y (K 3) 4 = w (K 3) 4 ∧ y (K 3) 5 = w (K 3) 5) := by
  have h64 : K 6 ≠ K 4 := hK 6 4 (by decide) (by decide) (by decide)
  have h65 : K 6 ≠ K 5 := hK 6 5 (by decide) (by decide) (by decide)
  have h63 : K 6 ≠ K 3 := hK 6 3 (by decide) (by decide) (by decide)
  have h60 : K 6 ≠ K 0 := hK 6 0 (by decide) (by decide) (by decide)
  have h61 : K 6 ≠ K 1 := hK 6 1 (by decide) (by decide) (by decide)
  have h54 : K 5 ≠ K 4 := hK 5 4 (by decide) (by decide) (by decide)
  have h56 : K 5 ≠ K 6 := hK 5 6 (by decide) (by decide) (by decide)
  have h53 : K 5 ≠ K 3 := hK 5 3 (by decide) (by decide) (by decide)
  have h50 : K 5 ≠ K 0 := hK 5 0 (by decide) (by decide) (by decide)
  have h51 : K 5 ≠ K 1 := hK 5 1 (by decide) (by decide) (by decide)
  have h45 : K 4 ≠ K 5 := hK 4 5 (by decide) (by decide) (by decide)
  have h46 : K 4 ≠ K 6 := hK 4 6 (by decide) (by decide) (by decide)
  have h43 : K 4 ≠ K 3 := hK 4 3 (by decide) (by decide) (by decide)
  have h40 : K 4 ≠ K 0 := hK 4 0 (by decide) (by decide) (by decide)
  have h41 : K 4 ≠ K 1 := hK 4 1 (by decide) (by decide) (by decide)
  have h34 : K 3 ≠ K 4 := hK 3 4 (by decide) (by decide) (by decide)
  have h35 : K 3 ≠ K 5 := hK 3 5 (by decide) (by decide) (by decide)
  have h36 : K 3 ≠ K 6 := hK 3 6 (by decide) (by decide) (by decide)
  have h30 : K 3 ≠ K 0 := hK 3 0 (by decide) (by decide) (by decide)
  have h31 : K 3 ≠ K 1 := hK 3 1 (by decide) (by decide) (by decide)
  obtain ⟨⟨y1, e1, g1⟩, -⟩ := hq w hw i f p hi.1 hi.2 p01
  obtain ⟨⟨ba1, ba2⟩, -⟩ := hb i f p hi.1 hi.2 p01
  obtain ⟨E, hE⟩ : ∃ E : Int, E = f + A i f p := ⟨_, rfl⟩
  obtain ⟨-, bb1, bb2⟩ := hb i E p hi.1 hi.2 p01
  rw [← hE]
  have k1 := hw.fa hK g1
  obtain ⟨w2, hw2⟩ : ∃ x : fx_U, x = fx_pt (fx_pt y1 (K 6) p.toNat E) (K 4) i.toNat f := ⟨_, rfl⟩
  have k2 : zp_ca K u w2 := by
    rw [hw2]
    exact zp_ca.rw hK (Or.inl rfl) (zp_ca.rw hK (Or.inr (Or.inr rfl)) k1)
  obtain ⟨-, y2, e2, g2⟩ := hq w2 k2 i E p hi.1 hi.2 p01
  have k3 := k2.fa hK g2
  obtain ⟨X, hX⟩ : ∃ X : Int, X = E + B i E p := ⟨_, rfl⟩
  obtain ⟨w3, hw3⟩ : ∃ x : fx_U, x = fx_pt y2 (K 5) i.toNat X := ⟨_, rfl⟩
  have a1 : fx_b_add f (A i f p) = E := by
    rw [hE]
    exact zz_wadd (zz_sml ⟨by omega, by omega⟩) (zz_sml ⟨by omega, by omega⟩) (zz_sml ⟨by omega, by omega⟩)
  have a2 : fx_b_add E (B i E p) = X := by
    rw [hX]
    exact zz_wadd (zz_sml ⟨by omega, by omega⟩) (zz_sml ⟨by omega, by omega⟩) (zz_sml ⟨by omega, by omega⟩)
  have p2 : w (K 3) 2 = (K 6 : Int) := (hw.2.2 2 (by decide)).trans hp.2.2
  have p0 : fx_pt y1 (K 6) p.toNat E (K 3) 0 = (K 4 : Int) := (zz_pa h36).trans ((k1.2.2 0 (by decide)).trans hp.1)
  have p1 : w2 (K 3) 1 = (K 5 : Int) := (k2.2.2 1 (by decide)).trans hp.2.1
  have s3 : w3 (K 3) 3 = w (K 3) 3 := by
    rw [hw3, zz_pa h35, g2.1 (K 3) h30 h31, hw2, zz_pa h34, zz_pa h36]
    exact g1.1 (K 3) h30 h31 3
  have s4 : w3 (K 3) 4 = w (K 3) 4 := by
    rw [hw3, zz_pa h35, g2.1 (K 3) h30 h31, hw2, zz_pa h34, zz_pa h36]
    exact g1.1 (K 3) h30 h31 4
  have s5 : w3 (K 3) 5 = w (K 3) 5 := by
    rw [hw3, zz_pa h35, g2.1 (K 3) h30 h31, hw2, zz_pa h34, zz_pa h36]
    exact g1.1 (K 3) h30 h31 5
  have t6 : ∀ j : Nat, w3 (K 6) j = fx_pt y1 (K 6) p.toNat E (K 6) j := fun j => by
    rw [hw3, zz_pa h65, g2.1 (K 6) h60 h61, hw2, zz_pa h64]
  have t4 : ∀ j : Nat, w3 (K 4) j = fx_pt (fx_pt y1 (K 6) p.toNat E) (K 4) i.toNat f (K 4) j := fun j => by
    rw [hw3, zz_pa h45, g2.1 (K 4) h40 h41, hw2]
  have t5 : ∀ j : Nat, j ≠ i.toNat → w3 (K 5) j = w (K 5) j := fun j hj => by
    rw [hw3, zz_pj hj, g2.1 (K 5) h50 h51, hw2, zz_pa h54, zz_pa h56]
    exact g1.1 (K 5) h50 h51 j
  have t55 : w3 (K 5) i.toNat = X := by
    rw [hw3]
    exact zz_ps
  have k4 : zp_ca K u w3 := by
    rw [hw3]
    exact zp_ca.rw hK (Or.inr (Or.inl rfl)) k3
  obtain ⟨M, hM⟩ : ∃ M : Int, M = if w (K 3) 3 < X then X else w (K 3) 3 := ⟨_, rfl⟩
  obtain ⟨w4, hw4⟩ : ∃ x : fx_U, x = fx_pt w3 (K 3) 3 M := ⟨_, rfl⟩
  have mx : ∀ q : fx_U, f_J9_max_7cf53 q (w (K 3) 3) X = M := fun q => by
    rw [hM]
    rfl
  have q4 : w4 (K 3) 4 = w (K 3) 4 := by
    rw [hw4]
    exact (zz_pj (by decide)).trans s4
  have k5 : zp_ca K u w4 := by
    rw [hw4]
    exact zp_ca.pl hK (by decide) k4
  have eP : f_X6_paintOne w (K 3) (K 2) (K 0) p i = if w (K 3) 4 < E then kJ_X6_paintOne_107 w4 (K 3) E i else (if E = w (K 3) 4 then (if p = 1 then kJ_X6_paintOne_107 w4 (K 3) E i else w4) else w4) := by
    unfold f_X6_paintOne
    simp only [fz_lt, fz_lr, fz_lc, fz_ls, p2, Int.toNat_natCast, hf, e1, a1, p0, ← hw2, p1, e2, a2, ← hw3, s3, mx, ← hw4, q4]
  have fin : ∀ x : fx_U, (x = w4 ∨ x = fx_pt (fx_pt w4 (K 3) 4 E) (K 3) 5 i) → zp_ca K u x ∧ (x (K 6) p.toNat = E ∧ ∀ j : Nat, j ≠ p.toNat → x (K 6) j = w (K 6) j) ∧ (x (K 4) i.toNat = f ∧ ∀ j : Nat, j ≠ i.toNat → x (K 4) j = w (K 4) j) ∧ (x (K 5) i.toNat = X ∧ ∀ j : Nat, j ≠ i.toNat → x (K 5) j = w (K 5) j) ∧ x (K 3) 3 = M := by
    intro x hx
    have xb : ∀ b j : Nat, b ≠ K 3 → x b j = w3 b j := fun b j h => by
      rcases hx with e | e
      · rw [e, hw4]
        exact zz_pa h
      · rw [e, hw4]
        exact (zz_pa h).trans ((zz_pa h).trans (zz_pa h))
    have x3 : x (K 3) 3 = M := by
      rcases hx with e | e
      · rw [e, hw4]
        exact zz_ps
      · rw [e, hw4]
        exact (zz_pj (by decide)).trans ((zz_pj (by decide)).trans zz_ps)
    have xc : zp_ca K u x := by
      rcases hx with e | e
      · rw [e]
        exact k5
      · rw [e]
        exact zp_ca.pl hK (by decide) (zp_ca.pl hK (by decide) k5)
    refine ⟨xc, ⟨?_, fun j hj => ?_⟩, ⟨?_, fun j hj => ?_⟩, ⟨?_, fun j hj => ?_⟩, x3⟩
    · rw [xb _ _ h63, t6]
      exact zz_ps
    · rw [xb _ _ h63, t6, zz_pj hj]
      exact g1.1 (K 6) h60 h61 j
    · rw [xb _ _ h43, t4]
      exact zz_ps
    · rw [xb _ _ h43, t4, zz_pj hj, zz_pa h46]
      exact g1.1 (K 4) h40 h41 j
    · rw [xb _ _ h53]
      exact t55
    · rw [xb _ _ h53]
      exact t5 j hj
  have J1 : kJ_X6_paintOne_107 w4 (K 3) E i = fx_pt (fx_pt w4 (K 3) 4 E) (K 3) 5 i := by
    unfold kJ_X6_paintOne_107
    simp only [fz_ls]
  rw [eP, ← hX, ← hM]
  by_cases g : w (K 3) 4 < E ∨ (E = w (K 3) 4 ∧ p = 1)
  · have e : (if w (K 3) 4 < E then kJ_X6_paintOne_107 w4 (K 3) E i else (if E = w (K 3) 4 then (if p = 1 then kJ_X6_paintOne_107 w4 (K 3) E i else w4) else w4)) = fx_pt (fx_pt w4 (K 3) 4 E) (K 3) 5 i := by
      rcases g with g | ⟨g, g2⟩
      · rw [if_pos g, J1]
      · rw [if_neg (by omega), if_pos g, if_pos g2, J1]
    obtain ⟨r1, r2, r3, r4, r5⟩ := fin _ (Or.inr rfl)
    exact ⟨_, e, r1, r2, r3, r4, r5, fun _ => ⟨(zz_pj (by decide)).trans zz_ps, zz_ps⟩, fun h => absurd g h⟩
  · have e : (if w (K 3) 4 < E then kJ_X6_paintOne_107 w4 (K 3) E i else (if E = w (K 3) 4 then (if p = 1 then kJ_X6_paintOne_107 w4 (K 3) E i else w4) else w4)) = w4 := by
      rw [if_neg (fun h => g (Or.inl h))]
      by_cases g2 : E = w (K 3) 4
      · rw [if_pos g2, if_neg (fun h => g (Or.inr ⟨g2, h⟩))]
      · rw [if_neg g2]
    obtain ⟨r1, r2, r3, r4, r5⟩ := fin _ (Or.inl rfl)
    refine ⟨_, e, r1, r2, r3, r4, r5, fun h => absurd h g, fun _ => ⟨q4, ?_⟩⟩
    rw [hw4]
    exact (zz_pj (by decide)).trans s5
end Plan
