/-! WHAT IS ASKED WHILE ALL IS PAINTED is the same all along -/
def zp_A (v : fx_U) (a2 : Nat) (x lo hi i t p : Int) : Int := (f_X12_byLaw (f_X12_feels v a2 i t p 0) a2 x lo hi).1
section Base
variable {K J : Nat → Nat} {la bk sg vl l5 l6 l7 ar c0 c1 c2 a2 bn bq bc bf bcl bcf bch bct : Nat} {D : Int} {R : zl_L} {u v w z : fx_U}
theorem zv_hc.mv2 (h : zv_hc la bk sg vl l5 l6 l7 ar c0 c1 c2 D R u) (k1 : ∀ j : Nat, j < 9 → w la j = u la j) (k2 : ∀ b : Nat, (b = sg ∨ b = vl ∨ b = l5 ∨ b = l6 ∨ b = l7 ∨ b = ar) → ∀ i : Nat, w b i = u b i) : zv_hc la bk sg vl l5 l6 l7 ar c0 c1 c2 D R w := by
  obtain ⟨⟨⟨h0, h1⟩, ⟨h3, h4, h5, h6, h7, h8⟩, hL⟩, d0, d1, d2, d3⟩ := h
  have e1 : w la 1 = u la 1 := k1 1 (by decide)
  have kr := k2 ar (Or.inr (Or.inr (Or.inr (Or.inr (Or.inr rfl)))))
  refine ⟨⟨⟨(k1 0 (by decide)).trans h0, by omega⟩, ⟨(k1 3 (by decide)).trans h3, (k1 4 (by decide)).trans h4, (k1 5 (by decide)).trans h5, (k1 6 (by decide)).trans h6, (k1 7 (by decide)).trans h7, (k1 8 (by decide)).trans h8⟩, ?_⟩, (kr 0).trans d0, (kr 1).trans d1, (kr 2).trans d2, (kr 3).trans d3⟩
  rw [e1]
  exact zv_Lc_mv (Int.le_refl _) (fun i _ => ⟨k2 sg (Or.inl rfl) i, k2 vl (Or.inr (Or.inl rfl)) i⟩) R 0 (fun i _ _ => ⟨k2 l5 (Or.inr (Or.inr (Or.inl rfl))) i, k2 l6 (Or.inr (Or.inr (Or.inr (Or.inl rfl)))) i, k2 l7 (Or.inr (Or.inr (Or.inr (Or.inr (Or.inl rfl))))) i⟩) hL
theorem zv_hr.mv2 (h : zv_hr a2 bn bq bc bf bcl bcf bch bct D R v) (k1 : ∀ j : Nat, j ≠ 4 → j < 39 → w a2 j = v a2 j) (k2 : ∀ b : Nat, (b = bn ∨ b = bc ∨ b = bcl ∨ b = bcf ∨ b = bch ∨ b = bct) → ∀ i : Nat, w b i = v b i) : zv_hr a2 bn bq bc bf bcl bcf bch bct D R w := by
  obtain ⟨⟨h1, h2, h3, h4, h5, h6, h7, h8⟩, ⟨d0, d1⟩, hL⟩ := h
  exact ⟨⟨(k1 13 (by decide) (by decide)).trans h1, (k1 21 (by decide) (by decide)).trans h2, (k1 22 (by decide) (by decide)).trans h3, (k1 23 (by decide) (by decide)).trans h4, (k1 24 (by decide) (by decide)).trans h5, (k1 25 (by decide) (by decide)).trans h6, (k1 27 (by decide) (by decide)).trans h7, (k1 28 (by decide) (by decide)).trans h8⟩, ⟨(k1 0 (by decide) (by decide)).trans d0, (k2 bn (Or.inl rfl) 512).trans d1⟩, zv_Lr_mv (fun b hb i => k2 b (Or.inr hb) i) R 0 hL⟩
theorem zp_base (ha : zv_ap (K 0) (K 1) sg vl l5 l6 l7 (K 2) c0 c1 c2) (hq : zv_aq (J 0) (J 9) (J 1) bc (J 2) bcl bcf bch bct) (hc : zv_hc (K 0) (K 1) sg vl l5 l6 l7 (K 2) c0 c1 c2 D R u) (hr : zv_hr (J 0) (J 9) (J 1) bc (J 2) bcl bcf bch bct D R v) (hE : zv_LE R) (hR : R.length ≤ 16) (hD : D ≤ 64) (hrow : ∀ k : Nat, k < 64 → v (J 9) k = u c0 k ∧ v (J 9) (64 + k) = u c1 k ∧ v (J 9) (128 + k) = u c2 k) (nK : ∀ b : Nat, (b = sg ∨ b = vl ∨ b = l5 ∨ b = l6 ∨ b = l7 ∨ b = K 2 ∨ b = c0 ∨ b = c1 ∨ b = c2) → b ≠ K 0 ∧ b ≠ K 1 ∧ b ≠ K 3 ∧ b ≠ K 4 ∧ b ≠ K 5 ∧ b ≠ K 6) (nJ : ∀ b : Nat, (b = J 9 ∨ b = bc ∨ b = bcl ∨ b = bcf ∨ b = bch ∨ b = bct) → ∀ i : Nat, i < 9 → b ≠ J i) : zp_qc K (zp_A v (J 0) 112 1 9) (zp_A v (J 0) 100 0 99) D u ∧ zp_qr J (zp_A v (J 0) 112 1 9) (zp_A v (J 0) 100 0 99) D v ∧ zp_bd (zp_A v (J 0) 112 1 9) (zp_A v (J 0) 100 0 99) D := by
  have cb : ∀ w : fx_U, zp_ca K u w → ∀ b : Nat, (b = sg ∨ b = vl ∨ b = l5 ∨ b = l6 ∨ b = l7 ∨ b = K 2 ∨ b = c0 ∨ b = c1 ∨ b = c2) → ∀ i : Nat, w b i = u b i := fun w hw b hb i => by
    obtain ⟨n0, n1, n3, n4, n5, n6⟩ := nK b hb
    exact hw.1 b n0 n1 n3 n4 n5 n6 i
  have rb : ∀ z : fx_U, zp_ra J v z → ∀ b : Nat, (b = J 9 ∨ b = bc ∨ b = bcl ∨ b = bcf ∨ b = bch ∨ b = bct) → ∀ i : Nat, z b i = v b i := fun z hz b hb i => by
    have n := nJ b hb
    exact hz.1 b (n 0 (by decide)) (n 1 (by decide)) (n 2 (by decide)) (n 3 (by decide)) (n 4 (by decide)) (n 5 (by decide)) (n 6 (by decide)) (n 7 (by decide)) (n 8 (by decide)) i
  have key : ∀ w z : fx_U, zp_ca K u w → zp_ra J v z → ∀ i t p x lo hi : Int, 0 ≤ i → i < D → lo = (if x = 112 then 1 else 0) → hi = (if x = 112 then 9 else if x = 115 then 63 else 99) → (f_X3_ask w (K 0) x (K 2) i t p 0).1 = (f_X12_byLaw (f_X12_feels z (J 0) i t p 0) (J 0) x lo hi).1 ∧ zv_fa (K 0) (K 1) w (f_X3_ask w (K 0) x (K 2) i t p 0).2 ∧ zv_fb (J 1) (J 2) z (f_X12_byLaw (f_X12_feels z (J 0) i t p 0) (J 0) x lo hi).2 := by
    intro w z hw hz i t p x lo hi i0 i1 hlo hhi
    have hc2 : zv_hc (K 0) (K 1) sg vl l5 l6 l7 (K 2) c0 c1 c2 D R w := hc.mv2 hw.2.1 (fun b hb i => cb w hw b (by omega) i)
    have hr2 : zv_hr (J 0) (J 9) (J 1) bc (J 2) bcl bcf bch bct D R z := hr.mv2 (fun j h4 hj => hz.2 j ⟨h4, Or.inl hj⟩) (fun b hb i => rb z hz b hb i)
    refine zv_askW ha hq hc2 hr2 hE hR hD ⟨i0, i1⟩ (Or.inl rfl) (fun k hk => ?_) hlo hhi
    obtain ⟨g1, g2, g3⟩ := hrow k hk
    rw [rb z hz (J 9) (Or.inl rfl), rb z hz (J 9) (Or.inl rfl), rb z hz (J 9) (Or.inl rfl), cb w hw c0 (by omega), cb w hw c1 (by omega), cb w hw c2 (by omega)]
    exact ⟨g1, g2, g3⟩
  refine ⟨fun w hw i t p i0 i1 _ => ⟨?_, ?_⟩, fun z hz i t p i0 i1 _ => ⟨?_, ?_⟩, fun i t p i0 i1 _ => ⟨?_, ?_⟩⟩
  · obtain ⟨k1, k2, -⟩ := key w v hw zp_ra.rf i t p 112 1 9 i0 i1 rfl rfl
    have k1' : (f_X3_ask w (K 0) 112 (K 2) i t p 0).1 = zp_A v (J 0) 112 1 9 i t p := k1
    refine ⟨(f_X3_ask w (K 0) 112 (K 2) i t p 0).2, ?_, k2⟩
    rw [← k1']
  · obtain ⟨k1, k2, -⟩ := key w v hw zp_ra.rf i t p 100 0 99 i0 i1 rfl rfl
    have k1' : (f_X3_ask w (K 0) 100 (K 2) i t p 0).1 = zp_A v (J 0) 100 0 99 i t p := k1
    refine ⟨(f_X3_ask w (K 0) 100 (K 2) i t p 0).2, ?_, k2⟩
    rw [← k1']
  · obtain ⟨k1, -, -⟩ := key u v zp_ca.rf zp_ra.rf i t p 112 1 9 i0 i1 rfl rfl
    obtain ⟨k3, -, k4⟩ := key u z zp_ca.rf hz i t p 112 1 9 i0 i1 rfl rfl
    refine ⟨_, ?_, k4⟩
    unfold f_X12_paintsFor
    simp only [fz_ls, fz_lc]
    exact Prod.ext (k3.symm.trans k1) rfl
  · obtain ⟨k1, -, -⟩ := key u v zp_ca.rf zp_ra.rf i t p 100 0 99 i0 i1 rfl rfl
    obtain ⟨k3, -, k4⟩ := key u z zp_ca.rf hz i t p 100 0 99 i0 i1 rfl rfl
    refine ⟨_, ?_, k4⟩
    unfold f_X12_driesFor
    simp only [fz_ls, fz_lc]
    exact Prod.ext (k3.symm.trans k1) rfl
  · obtain ⟨y, f1, f2, -⟩ := zv_feel (t := t) (a := p) (r := 0) ⟨hq.2.1.2, hq.2.2.1.2⟩ hr.1.2.2.2.2.2.2.2 hr.2.1.1 hr.2.1.2 (Or.inl rfl) i0
    have e13 : y (J 0) 13 = (R.length : Int) := (f2 (J 0) hq.2.1.2 13).trans hr.1.1
    have z := zp_rng (n := y (J 0) 13) (a2 := J 0) (x := 112) (b3 := (y (J 0) 23).toNat) (b4 := (y (J 0) 24).toNat) (b5 := (y (J 0) 25).toNat) (lo := 1) (hi := 9) (by decide) 17 0 y (by omega) (by decide)
    unfold zp_A
    rw [f1]
    unfold f_X12_byLaw
    simp only [fz_lt, fz_lr, show Int.toNat (16 - 0) + 1 = 17 from rfl]
    exact z
  · obtain ⟨y, f1, f2, -⟩ := zv_feel (t := t) (a := p) (r := 0) ⟨hq.2.1.2, hq.2.2.1.2⟩ hr.1.2.2.2.2.2.2.2 hr.2.1.1 hr.2.1.2 (Or.inl rfl) i0
    have e13 : y (J 0) 13 = (R.length : Int) := (f2 (J 0) hq.2.1.2 13).trans hr.1.1
    have z := zp_rng (n := y (J 0) 13) (a2 := J 0) (x := 100) (b3 := (y (J 0) 23).toNat) (b4 := (y (J 0) 24).toNat) (b5 := (y (J 0) 25).toNat) (lo := 0) (hi := 99) (by decide) 17 0 y (by omega) (by decide)
    unfold zp_A
    rw [f1]
    unfold f_X12_byLaw
    simp only [fz_lt, fz_lr, show Int.toNat (16 - 0) + 1 = 17 from rfl]
    exact z
end Base
theorem zp_ra.tr {J : Nat → Nat} {v w z : fx_U} (h : zp_ra J v w) (k : zp_ra J w z) : zp_ra J v z := ⟨fun b h0 h1 h2 h3 h4 h5 h6 h7 h8 i => (k.1 b h0 h1 h2 h3 h4 h5 h6 h7 h8 i).trans (h.1 b h0 h1 h2 h3 h4 h5 h6 h7 h8 i), fun j hj => (k.2 j hj).trans (h.2 j hj)⟩
theorem zp_qr.mv {J : Nat → Nat} {A B : Int → Int → Int → Int} {D : Int} {v w : fx_U} (h : zp_qr J A B D v) (k : zp_ra J v w) : zp_qr J A B D w := fun z hz i t p i0 i1 p01 => h z (k.tr hz) i t p i0 i1 p01
