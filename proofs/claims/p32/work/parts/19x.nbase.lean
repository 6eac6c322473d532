/-! THE NIGHT: both are asked the same in every minute -/
section Nbase
variable {N : Nat → Nat} {la bk sg vl l5 l6 l7 c0 c1 c2 a2 b bq bc bf bcl bcf bch bct : Nat} {D : Int} {R : zl_L} {u v w z : fx_U}
theorem zv_hc.mv3 {ar : Nat} (h : zv_hc la bk sg vl l5 l6 l7 ar c0 c1 c2 D R u) (k1 : ∀ j : Nat, j < 9 → w la j = u la j) (k2 : ∀ d : Nat, (d = sg ∨ d = vl ∨ d = l5 ∨ d = l6 ∨ d = l7) → ∀ i : Nat, w d i = u d i) (kr : ∀ j : Nat, j < 4 → w ar j = u ar j) : zv_hc la bk sg vl l5 l6 l7 ar c0 c1 c2 D R w := by
  obtain ⟨⟨⟨h0, h1⟩, ⟨h3, h4, h5, h6, h7, h8⟩, hL⟩, d0, d1, d2, d3⟩ := h
  have e1 : w la 1 = u la 1 := k1 1 (by decide)
  refine ⟨⟨⟨(k1 0 (by decide)).trans h0, by omega⟩, ⟨(k1 3 (by decide)).trans h3, (k1 4 (by decide)).trans h4, (k1 5 (by decide)).trans h5, (k1 6 (by decide)).trans h6, (k1 7 (by decide)).trans h7, (k1 8 (by decide)).trans h8⟩, ?_⟩, (kr 0 (by decide)).trans d0, (kr 1 (by decide)).trans d1, (kr 2 (by decide)).trans d2, (kr 3 (by decide)).trans d3⟩
  rw [e1]
  exact zv_Lc_mv (Int.le_refl _) (fun i _ => ⟨k2 sg (Or.inl rfl) i, k2 vl (Or.inr (Or.inl rfl)) i⟩) R 0 (fun i _ _ => ⟨k2 l5 (Or.inr (Or.inr (Or.inl rfl))) i, k2 l6 (Or.inr (Or.inr (Or.inr (Or.inl rfl)))) i, k2 l7 (Or.inr (Or.inr (Or.inr (Or.inr rfl)))) i⟩) hL
theorem zv_hr.mv3 (h : zv_hr a2 b bq bc bf bcl bcf bch bct D R v) (k1 : ∀ j : Nat, j ≠ 29 → w a2 j = v a2 j) (k2 : ∀ d : Nat, (d = bc ∨ d = bcl ∨ d = bcf ∨ d = bch ∨ d = bct) → ∀ i : Nat, w d i = v d i) (k3 : w b 512 = v b 512) : zv_hr a2 b bq bc bf bcl bcf bch bct D R w := by
  obtain ⟨⟨h1, h2, h3, h4, h5, h6, h7, h8⟩, ⟨d0, d1⟩, hL⟩ := h
  exact ⟨⟨(k1 13 (by decide)).trans h1, (k1 21 (by decide)).trans h2, (k1 22 (by decide)).trans h3, (k1 23 (by decide)).trans h4, (k1 24 (by decide)).trans h5, (k1 25 (by decide)).trans h6, (k1 27 (by decide)).trans h7, (k1 28 (by decide)).trans h8⟩, ⟨(k1 0 (by decide)).trans d0, k3.trans d1⟩, zv_Lr_mv (fun d hd i => k2 d hd i) R 0 hL⟩
theorem zn_base (ha : zv_ap la bk sg vl l5 l6 l7 (N 0) c0 c1 c2) (hq : zv_aq a2 b bq bc bf bcl bcf bch bct) (hc : zv_hc la bk sg vl l5 l6 l7 (N 0) c0 c1 c2 D R u) (hr : zv_hr a2 b bq bc bf bcl bcf bch bct D R v) (hE : zv_LE R) (hR : R.length ≤ 16) (hD : D ≤ 64) (hrow : ∀ k : Nat, k < 64 → v b k = u c0 k ∧ v b (64 + k) = u c1 k ∧ v b (128 + k) = u c2 k) (nK : ∀ d : Nat, (d = sg ∨ d = vl ∨ d = l5 ∨ d = l6 ∨ d = l7 ∨ d = c0 ∨ d = c1 ∨ d = c2) → d ≠ la ∧ d ≠ bk ∧ d ≠ N 0 ∧ ∀ j : Nat, 5 ≤ j → j ≤ 11 → d ≠ N j) (nJ : ∀ d : Nat, (d = bc ∨ d = bcl ∨ d = bcf ∨ d = bch ∨ d = bct) → d ≠ a2 ∧ d ≠ b ∧ d ≠ bq ∧ d ≠ bf) : zn_qc N la bk (zp_A v a2 112 1 9) (zp_A v a2 100 0 99) D u ∧ zn_qr a2 b bq bf (zp_A v a2 112 1 9) (zp_A v a2 100 0 99) D v ∧ zp_bd (zp_A v a2 112 1 9) (zp_A v a2 100 0 99) D := by
  have cb : ∀ w : fx_U, zn_ca N la bk u w → ∀ d : Nat, (d = sg ∨ d = vl ∨ d = l5 ∨ d = l6 ∨ d = l7 ∨ d = c0 ∨ d = c1 ∨ d = c2) → ∀ i : Nat, w d i = u d i := fun w hw d hd i => by
    obtain ⟨n0, n1, n3, n4⟩ := nK d hd
    exact hw.1 d n0 n1 n3 n4 i
  have rb : ∀ z : fx_U, zn_ra a2 b bq bf v z → ∀ d : Nat, (d = bc ∨ d = bcl ∨ d = bcf ∨ d = bch ∨ d = bct) → ∀ i : Nat, z d i = v d i := fun z hz d hd i => by
    obtain ⟨n0, n1, n2, n3⟩ := nJ d hd
    exact hz.1 d n0 n1 n2 n3 i
  have key : ∀ w z : fx_U, zn_ca N la bk u w → zn_ra a2 b bq bf v z → ∀ i t p x lo hi : Int, 0 ≤ i → i < D → lo = (if x = 112 then 1 else 0) → hi = (if x = 112 then 9 else if x = 115 then 63 else 99) → (f_X3_ask w la x (N 0) i t p 0).1 = (f_X12_byLaw (f_X12_feels z a2 i t p 0) a2 x lo hi).1 ∧ zv_fa la bk w (f_X3_ask w la x (N 0) i t p 0).2 ∧ zv_fb bq bf z (f_X12_byLaw (f_X12_feels z a2 i t p 0) a2 x lo hi).2 := by
    intro w z hw hz i t p x lo hi i0 i1 hlo hhi
    have hc2 : zv_hc la bk sg vl l5 l6 l7 (N 0) c0 c1 c2 D R w := hc.mv3 hw.2.1 (fun d hd i => cb w hw d (by omega) i) (fun j hj => hw.2.2 j (by omega))
    have hr2 : zv_hr a2 b bq bc bf bcl bcf bch bct D R z := hr.mv3 hz.2.1 (fun d hd i => rb z hz d hd i) (hz.2.2 512 (Or.inr rfl))
    refine zv_askW ha hq hc2 hr2 hE hR hD ⟨i0, i1⟩ (Or.inl rfl) (fun k hk => ?_) hlo hhi
    obtain ⟨g1, g2, g3⟩ := hrow k hk
    rw [hz.2.2 k (Or.inl (by omega)), hz.2.2 (64 + k) (Or.inl (by omega)), hz.2.2 (128 + k) (Or.inl (by omega)), cb w hw c0 (by omega), cb w hw c1 (by omega), cb w hw c2 (by omega)]
    exact ⟨g1, g2, g3⟩
  refine ⟨fun w hw i t p i0 i1 _ => ⟨?_, ?_⟩, fun z hz i t p i0 i1 _ => ⟨?_, ?_⟩, fun i t p i0 i1 _ => ⟨?_, ?_⟩⟩
  · obtain ⟨k1, k2, -⟩ := key w v hw zn_ra.rf i t p 112 1 9 i0 i1 rfl rfl
    have k1' : (f_X3_ask w la 112 (N 0) i t p 0).1 = zp_A v a2 112 1 9 i t p := k1
    refine ⟨(f_X3_ask w la 112 (N 0) i t p 0).2, ?_, k2⟩
    rw [← k1']
  · obtain ⟨k1, k2, -⟩ := key w v hw zn_ra.rf i t p 100 0 99 i0 i1 rfl rfl
    have k1' : (f_X3_ask w la 100 (N 0) i t p 0).1 = zp_A v a2 100 0 99 i t p := k1
    refine ⟨(f_X3_ask w la 100 (N 0) i t p 0).2, ?_, k2⟩
    rw [← k1']
  · obtain ⟨k1, -, -⟩ := key u v zn_ca.rf zn_ra.rf i t p 112 1 9 i0 i1 rfl rfl
    obtain ⟨k3, -, k4⟩ := key u z zn_ca.rf hz i t p 112 1 9 i0 i1 rfl rfl
    refine ⟨_, ?_, k4⟩
    unfold f_X12_paintsFor
    simp only [fz_ls, fz_lc]
    exact Prod.ext (k3.symm.trans k1) rfl
  · obtain ⟨k1, -, -⟩ := key u v zn_ca.rf zn_ra.rf i t p 100 0 99 i0 i1 rfl rfl
    obtain ⟨k3, -, k4⟩ := key u z zn_ca.rf hz i t p 100 0 99 i0 i1 rfl rfl
    refine ⟨_, ?_, k4⟩
    unfold f_X12_driesFor
    simp only [fz_ls, fz_lc]
    exact Prod.ext (k3.symm.trans k1) rfl
  · obtain ⟨y, f1, f2, -⟩ := zv_feel (t := t) (a := p) (r := 0) ⟨hq.2.1.2, hq.2.2.1.2⟩ hr.1.2.2.2.2.2.2.2 hr.2.1.1 hr.2.1.2 (Or.inl rfl) i0
    have e13 : y a2 13 = (R.length : Int) := (f2 a2 hq.2.1.2 13).trans hr.1.1
    have z := zp_rng (n := y a2 13) (a2 := a2) (x := 112) (b3 := (y a2 23).toNat) (b4 := (y a2 24).toNat) (b5 := (y a2 25).toNat) (lo := 1) (hi := 9) (by decide) 17 0 y (by omega) (by decide)
    unfold zp_A
    rw [f1]
    unfold f_X12_byLaw
    simp only [fz_lt, fz_lr, show Int.toNat (16 - 0) + 1 = 17 from rfl]
    exact z
  · obtain ⟨y, f1, f2, -⟩ := zv_feel (t := t) (a := p) (r := 0) ⟨hq.2.1.2, hq.2.2.1.2⟩ hr.1.2.2.2.2.2.2.2 hr.2.1.1 hr.2.1.2 (Or.inl rfl) i0
    have e13 : y a2 13 = (R.length : Int) := (f2 a2 hq.2.1.2 13).trans hr.1.1
    have z := zp_rng (n := y a2 13) (a2 := a2) (x := 100) (b3 := (y a2 23).toNat) (b4 := (y a2 24).toNat) (b5 := (y a2 25).toNat) (lo := 0) (hi := 99) (by decide) 17 0 y (by omega) (by decide)
    unfold zp_A
    rw [f1]
    unfold f_X12_byLaw
    simp only [fz_lt, fz_lr, show Int.toNat (16 - 0) + 1 = 17 from rfl]
    exact z
end Nbase
