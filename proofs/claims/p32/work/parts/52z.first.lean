/-! THE NIGHT: the road of the class and the row of the reference, as they are made -/
section First
variable {τ : q_T} {σ σ1 : q_V} {N : Nat → Nat} {a2 b : Nat} {u v w : fx_U}
theorem zw_bares (u : fx_U) (a : Nat) (x : Int) : f_X12_bares_raw u a x = f_X12_bares u a x := rfl
theorem zw_r85 (bn : Nat) : ∀ (f : Nat) (i : Int) (u : fx_U), kL_X12_road_raw_85 bn f i u = kL_X12_road_85 bn f i u := by
  intro f
  induction f with
  | zero => intro i u; rfl
  | succ f ih =>
    intro i u
    show kB_X12_road_raw_85 (kL_X12_road_raw_85 bn f) bn i u = kB_X12_road_85 (kL_X12_road_85 bn f) bn i u
    unfold kB_X12_road_raw_85 kB_X12_road_85
    simp only [fz_lt, fz_ls, ih]
theorem zw_r24 (bn a : Nat) : ∀ (f : Nat) (i : Int) (u : fx_U), kL_X12_road_raw_24 bn a f i u = kL_X12_road_24 bn a f i u := by
  intro f
  induction f with
  | zero => intro i u; rfl
  | succ f ih =>
    intro i u
    show kB_X12_road_raw_24 (kL_X12_road_raw_24 bn a f) bn a i u = kB_X12_road_24 (kL_X12_road_24 bn a f) bn a i u
    unfold kB_X12_road_raw_24 kB_X12_road_24
    simp only [fz_lt, fz_ls, ih, zw_bares, zw_r85]
theorem zw_f85 {bn c : Nat} (hc : c ≠ bn) : ∀ (f : Nat) (i : Int) (u : fx_U), 2 - i < (f : Int) → 0 < f → ∀ j : Nat, (kL_X12_road_85 bn f i u).2 c j = u c j := by
  intro f
  induction f with
  | zero => intro i u _ h; omega
  | succ f ih =>
    intro i u h1 _ j
    show (kB_X12_road_85 (kL_X12_road_85 bn f) bn i u).2 c j = _
    unfold kB_X12_road_85
    simp only [fz_lt, fz_ls]
    by_cases g : i < 2
    · rw [if_pos g]
      exact (ih _ _ (by omega) (by omega) j).trans ((zz_pa hc).trans (zz_pa hc))
    · rw [if_neg g]
theorem zw_f24 {bn a c : Nat} (hc : c ≠ bn) (ha : a ≠ bn) : ∀ (f : Nat) (i : Int) (u : fx_U), 64 - i < (f : Int) → 0 < f → u a 0 = (bn : Int) → ∀ j : Nat, (kL_X12_road_24 bn a f i u).2 c j = u c j := by
  intro f
  induction f with
  | zero => intro i u _ h; omega
  | succ f ih =>
    intro i u h1 _ h0 j
    show (kB_X12_road_24 (kL_X12_road_24 bn a f) bn a i u).2 c j = _
    unfold kB_X12_road_24 f_X12_bares
    simp only [fz_lt, fz_ls, fz_lr]
    by_cases g : i < 64
    · rw [if_pos g]
      have e4 : ∀ (q : Nat) (k : Nat) (x : Int) (y : fx_U), q ≠ bn → fx_pt y bn k x q = y q := fun q k x y hq => funext fun _ => zz_pa hq
      have t : (fx_pt (fx_pt (fx_pt (fx_pt u bn (0 + i).toNat 0) bn (64 + i).toNat 0) bn (128 + i).toNat 0) bn (192 + i).toNat (-100) a 0).toNat = bn := by
        rw [e4 a _ _ _ ha, e4 a _ _ _ ha, e4 a _ _ _ ha, e4 a _ _ _ ha, h0]
        exact Int.toNat_natCast bn
      rw [t]
      refine (ih _ _ (by omega) (by omega) ?_ j).trans ?_
      · rw [e4 a _ _ _ ha, e4 a _ _ _ ha, e4 a _ _ _ ha, e4 a _ _ _ ha, e4 a _ _ _ ha, e4 a _ _ _ ha, e4 a _ _ _ ha, h0]
      · rw [e4 c _ _ _ hc, e4 c _ _ _ hc, e4 c _ _ _ hc, e4 c _ _ _ hc, e4 c _ _ _ hc, e4 c _ _ _ hc, e4 c _ _ _ hc]
    · rw [if_neg g]
      exact zw_f85 hc 3 0 u (by decide) (by decide) j
/-- the first road of the reference -/
theorem zw_first {r : Int} (h0 : v a2 0 = (b : Int)) (ne : a2 ≠ b) (hv : v b 513 = 0 ∧ v b 514 = 64 ∧ v b 515 = -2) (ho : v b 518 = 0 ∧ v b 519 = 0) (hc : v b 524 = 0) (F : (r, w) = f_X12_road_raw v a2 16) : zw_1 b w ∧ ∀ c : Nat, c ≠ b → ∀ i : Nat, w c i = v c i := by
  have in2 : f_X12_in v 16 8 64 = 1 := by
    unfold f_X12_in
    rw [if_neg (by omega), if_neg (by omega)]
  obtain ⟨v1, hv1⟩ : ∃ q : fx_U, q = fx_pt v b 512 16 := ⟨_, rfl⟩
  have v0 : v1 a2 0 = (b : Int) := by
    rw [hv1]
    exact (zz_pa ne).trans h0
  have Y : zn_Y a2 b (a2 + b + 1) (a2 + b + 1) := ⟨⟨Ne.symm ne, ne⟩, ⟨by omega, by omega⟩, by omega, by omega⟩
  obtain ⟨z1, k1, k2, k3, -⟩ := zn_rlay Y 65 0 v1 (by decide) (by decide) (by decide) v0
  obtain ⟨z, l1, l2, l3⟩ := zn_rlayp (b := b) (v := z1)
  have e : f_X12_road_raw v a2 16 = kL_X12_road_24 b a2 65 0 v1 := by
    unfold f_X12_road_raw
    simp only [fz_lr, fz_lt, fz_ls, h0, Int.toNat_natCast, in2, if_neg zz_n10, show Int.toNat 512 = 512 from rfl, ← hv1, show Int.toNat (64 - 0) + 1 = 65 from rfl]
    exact zw_r24 b a2 65 0 v1
  have ew : w = z := by
    rw [e, k1, l1] at F
    exact (Prod.mk.inj F).2
  have fr : ∀ c : Nat, c ≠ b → ∀ i : Nat, w c i = v c i := fun c hc i => by
    have t := zw_f24 (a := a2) hc ne 65 0 v1 (by decide) (by decide) v0 i
    rw [← e, ← F] at t
    refine t.trans ?_
    rw [hv1]
    exact zz_pa hc
  refine ⟨?_, fr⟩
  rw [ew]
  have Z : ∀ j : Nat, 512 < j → j ≠ 516 → j ≠ 517 → j ≠ 520 → j ≠ 521 → z b j = v b j := fun j h1 h2 h3 h4 h5 => by
    refine (l2 j h2 h3 h4 h5).trans ((k2 j (by omega)).trans ?_)
    rw [hv1]
    exact zz_pj (by omega)
  have Z0 : z b 512 = 16 := by
    refine (l2 512 (by decide) (by decide) (by decide) (by decide)).trans ((k2 512 (by decide)).trans ?_)
    rw [hv1]
    exact zz_ps
  refine ⟨⟨Z0, (Z 513 (by decide) (by decide) (by decide) (by decide) (by decide)).trans hv.1, (Z 514 (by decide) (by decide) (by decide) (by decide) (by decide)).trans hv.2.1, (Z 515 (by decide) (by decide) (by decide) (by decide) (by decide)).trans hv.2.2⟩, fun j hj => ?_, fun a ha => ⟨(l3 a ha).1, ?_, (l3 a ha).2⟩, (Z 524 (by decide) (by decide) (by decide) (by decide) (by decide)).trans hc⟩
  · obtain ⟨t1, t2, t3⟩ := k3 j hj (by omega)
    exact ⟨(l2 _ (by omega) (by omega) (by omega) (by omega)).trans t1, (l2 _ (by omega) (by omega) (by omega) (by omega)).trans t2, (l2 _ (by omega) (by omega) (by omega) (by omega)).trans t3⟩
  · rcases (show a = 0 ∨ a = 1 by omega) with rfl | rfl
    · exact (Z 518 (by decide) (by decide) (by decide) (by decide) (by decide)).trans ho.1
    · exact (Z 519 (by decide) (by decide) (by decide) (by decide) (by decide)).trans ho.2
end First
