/-! THE TEXT OF A ROW: a value, all values, the answer -/
section RowB
variable {T : Nat → Int} {q V1 ta a2 tb NV bn : Nat} {sk n d p m : Int} {u v B1 B2 : fx_U}
/-- both behind a value: a fault, the same; or both go on alike -/
def zz_E (sk a b : Int) : Prop := a = b ∧ (-99 ≤ a ∧ a ≤ 99) ∧ (sk = 0 → 0 ≤ a)
def zz_V (T : Nat → Int) (q V1 ta a2 tb NV bn : Nat) (B1 B2 : fx_U) (sk n d p m : Int) (u0 : fx_U) (x y : Int × fx_U) : Prop :=
  (x.1 = 0 ∧ y.1 = 0 ∧ x.2 q 5 = y.2 a2 7 ∧ x.2 q 5 < 0 ∧ zz_fm q V1 B1 x.2 ∧ zz_fm a2 NV B2 y.2) ∨
  ∃ (p2 m2 : Int), x.1 = 1 ∧ y.1 = 1 ∧ (p < p2 ∧ p2 ≤ n) ∧ (m < m2 ∧ m2 ≤ d) ∧ zz_C T q V1 ta B1 n p2 m2 x.2 ∧ zz_D T a2 tb NV bn B2 n d p2 m2 y.2 ∧ x.2 q 5 = u0 q 5 ∧ ∀ j : Nat, (j : Int) < m2 → zz_E sk (x.2 V1 j) (y.2 NV j)
theorem zz_ft_neg {k p : Int} (hk : 1 ≤ k ∧ k ≤ 6) (hp : 0 ≤ p ∧ p ≤ 1000) : zz_ft k p < 0 := by
  unfold zz_ft
  rw [zz_wmul ⟨by omega, by omega⟩ ⟨by omega, by omega⟩ ⟨by omega, by omega⟩, zz_wsub ⟨by omega, by omega⟩ ⟨by omega, by omega⟩ ⟨by omega, by omega⟩]
  omega
theorem zz_fail {u : fx_U} {q : Nat} {k p : Int} : f_X8_fail u q k p = (0, fx_pt u q 5 (zz_ft k p)) := rfl
theorem zz_wrong {u : fx_U} {a : Nat} {k p : Int} : f_X12_wrongAt u a k p = (0, fx_pt u a 7 (zz_ft k p)) := rfl
theorem zz_V.bad {k s : Int} {u0 w z : fx_U} (f1 : zz_fm q V1 B1 w) (f2 : zz_fm a2 NV B2 z) (hk : 1 ≤ k ∧ k ≤ 6) (hs : 0 ≤ s ∧ s ≤ 1000) : zz_V T q V1 ta a2 tb NV bn B1 B2 sk n d p m u0 (0, fx_pt w q 5 (zz_ft k s)) (0, fx_pt z a2 7 (zz_ft k s)) :=
  Or.inl ⟨rfl, rfl, zz_ps.trans zz_ps.symm, by
    show fx_pt w q 5 (zz_ft k s) q 5 < 0
    rw [zz_ps]
    exact zz_ft_neg hk hs, f1.p1, f2.p1⟩
/-- times and value are known: they are laid, or are too many -/
theorem zz_lay {p0 p2 sg num t y F : Int} {u0 w z : fx_U} (c1 : ta ≠ q) (c2 : V1 ≠ q) (c3 : ta ≠ V1) (k1 : tb ≠ a2) (k2 : bn ≠ a2) (k3 : NV ≠ a2) (k4 : tb ≠ NV) (k5 : bn ≠ NV) (hd : 8 ≤ d ∧ d ≤ 64) (hm : 0 ≤ m ∧ m ≤ d) (hp : 0 ≤ p0 ∧ p0 ≤ 260) (ht : 1 ≤ t ∧ t ≤ 64) (hpp : p0 < p2 ∧ p2 ≤ n) (hC : zz_C T q V1 ta B1 n p2 m w) (hD : zz_D T a2 tb NV bn B2 n d p2 m z) (hy : y = if sg = 0 then num else -num) (hE : zz_E sk y y) (h5 : w q 5 = u0 q 5) (hj : ∀ j : Nat, (j : Int) < m → zz_E sk (w V1 j) (z NV j)) :
    zz_V T q V1 ta a2 tb NV bn B1 B2 sk n d p0 m u0 (kJ_X8_readValue_157 q d p0 sg num t w) (kJ_X12_readsValue_154 a2 p0 y t z F) := by
  unfold kJ_X8_readValue_157 kJ_X12_readsValue_154 kJ_X8_readValue_180
  have e5 : z bn (Int.toNat 512) = d := hD.1.2.2.2.2
  simp only [fz_lt, fz_lr, fz_lc, zz_fail, zz_wrong, hC.2.2.1, hD.2.2.1, hD.1.1, Int.toNat_natCast, e5]
  by_cases g : d < m + t
  · rw [if_pos g, if_pos g]
    exact zz_V.bad hC.2.2.2.2 hD.2.2.2.2 (by decide) (by omega)
  · rw [if_neg g, if_neg g, if_neg (by omega)]
    obtain ⟨w2, g1, g2, g3, g4⟩ := zz_fillC (sg := sg) (num := num) (t := t) (x1 := 0) c1 c2 c3 ht.2 65 0 m w (by decide) (by omega) (by decide) hm.1 hC
    obtain ⟨z2, f1, f2, f4⟩ := zz_fillD (x := y) (t := t) (F := F) k1 k2 k3 k4 k5 ht.2 hm.1 65 0 z (by decide) (by omega) (by decide) hD
    rw [show Int.toNat (64 - 0) + 1 = 65 from rfl, g1, f1]
    refine Or.inr ⟨p2, m + t, rfl, rfl, hpp, by omega, ?_, f2, g3.trans h5, fun j hj2 => ?_⟩
    · rw [show m + t = m + (t - 0) by omega]; exact g2
    · show zz_E sk (w2 V1 j) (z2 NV j)
      rw [g4 j, f4 j, show m + (t - 0) = m + t by omega, show m + 0 = m by omega]
      by_cases e : m ≤ (j : Int) ∧ (j : Int) < m + t
      · rw [if_pos e, if_pos e, ← hy]
        exact hE
      · rw [if_neg e, if_neg e]
        exact hj j (by omega)
/-- behind the number: a star and how many times, or not -/
theorem zz_star {p0 p2 sg num y : Int} {u0 w z : fx_U} (c1 : ta ≠ q) (c2 : V1 ≠ q) (c3 : ta ≠ V1) (k1 : tb ≠ a2) (k2 : bn ≠ a2) (k3 : NV ≠ a2) (k4 : tb ≠ NV) (k5 : bn ≠ NV) (hn : n ≤ 240) (hd : 8 ≤ d ∧ d ≤ 64) (hm : 0 ≤ m ∧ m ≤ d) (hp : 0 ≤ p0 ∧ p0 ≤ 260) (hpp : p0 < p2 ∧ p2 ≤ n) (hC : zz_C T q V1 ta B1 n p2 m w) (hD : zz_D T a2 tb NV bn B2 n d p2 m z) (hy : y = if sg = 0 then num else -num) (hE : zz_E sk y y) (h5 : w q 5 = u0 q 5) (hj : ∀ j : Nat, (j : Int) < m → zz_E sk (w V1 j) (z NV j)) :
    zz_V T q V1 ta a2 tb NV bn B1 B2 sk n d p0 m u0 (kJ_X8_readValue_89 w q d p0 sg num) (kJ_X12_readsValue_88 z a2 p0 y p2) := by
  unfold kJ_X8_readValue_89 kJ_X12_readsValue_88
  simp only [fz_lt, fz_ls, zz_peek hC (show 0 ≤ p2 by omega), zz_here hD (show 0 ≤ p2 by omega)]
  by_cases g : zz_pk T n p2 = 42
  · have hpn := zz_pk_lt (T := T) (n := n) (p := p2) (by omega)
    rw [if_pos g, if_pos g, hC.2.1, zz_wadd ⟨by omega, by omega⟩ ⟨by omega, by omega⟩ ⟨by omega, by omega⟩]
    rcases zz_RN (hC.at (p2 := p2 + 1) c1) (hD.at (p2 := p2 + 1) k1 k2) (by omega) hn c1 c2 k1 k2 k3 with ⟨e1, e2⟩ | ⟨t, p4, u2, v2, e1, e2, e3, e4, e5, e6, e7, e8, e9, e10⟩
    · rw [e1, e2]
      simp only [fz_lc, fz_lt, if_pos (show (-1 : Int) < 0 by decide), if_pos zz_00, if_true, zz_ps, zz_fail]
      exact zz_V.bad (hC.at (p2 := p2 + 1) c1).2.2.2.2 (hD.at (p2 := p2 + 1) k1 k2).2.2.2.2 (by decide) (by omega)
    · rw [e1, e2]
      simp only [fz_lc, fz_lt, if_neg (show ¬ t < 0 by omega), if_neg zz_n10, e7, zz_is, zz_is2]
      by_cases g2 : 2 ≤ t ∧ t ≤ 64
      · simp only [if_pos g2, if_neg zz_n10]
        rw [e6.2.1]
        exact zz_lay c1 c2 c3 k1 k2 k3 k4 k5 hd hm hp (by omega) (by omega) e5 e6 hy hE (by rw [e9, zz_pj (by decide)]; exact h5) (fun j hj2 => by rw [e8, e10, zz_pa c2, zz_pa k3]; exact hj j hj2)
      · simp only [if_neg g2, if_pos zz_00, if_true, zz_fail, zz_wrong]
        exact zz_V.bad e5.2.2.2.2 e6.2.2.2.2 (by decide) (by omega)
  · rw [if_neg g, if_neg g]
    exact zz_lay c1 c2 c3 k1 k2 k3 k4 k5 hd hm hp (by decide) hpp hC hD hy hE h5 hj
/-- a value -/
theorem zz_RV (c1 : ta ≠ q) (c2 : V1 ≠ q) (c3 : ta ≠ V1) (k1 : tb ≠ a2) (k2 : bn ≠ a2) (k3 : NV ≠ a2) (k4 : tb ≠ NV) (k5 : bn ≠ NV) (hn : n ≤ 240) (hd : 8 ≤ d ∧ d ≤ 64) (hm : 0 ≤ m ∧ m ≤ d) (hp : 0 ≤ p ∧ p ≤ n) (hC : zz_C T q V1 ta B1 n p m u) (hD : zz_D T a2 tb NV bn B2 n d p m v) (hj : ∀ j : Nat, (j : Int) < m → zz_E sk (u V1 j) (v NV j)) :
    zz_V T q V1 ta a2 tb NV bn B1 B2 sk n d p m u (f_X8_readValue u q d sk) (f_X12_readsValue v a2 sk) := by
  have both : ∀ sg : Int, (sg = 0 ∨ (sg = 1 ∧ p < n ∧ sk ≠ 0)) → zz_V T q V1 ta a2 tb NV bn B1 B2 sk n d p m u (kJ_X8_readValue_23 p u q d sg) (kJ_X12_readsValue_23 a2 p v sg) := by
    intro sg hsg
    have hns : ¬ sg = 0 → ¬ sk = 0 := fun z => by
      rcases hsg with r | r
      · exact absurd r z
      · exact r.2.2
    have main : ∀ (p1 : Int) (z : fx_U), (0 ≤ p1 ∧ p ≤ p1 ∧ p1 ≤ n) → zz_D T a2 tb NV bn B2 n d p1 m z → (∀ j, z NV j = v NV j) → fx_b_add p (if sg = 0 then 0 else 1) = p1 → zz_V T q V1 ta a2 tb NV bn B1 B2 sk n d p m u (kJ_X8_readValue_40 p u q sg d (if sg = 0 then 0 else 1)) (kJ_X12_readsValue_38 a2 sg p z p1) := by
      intro p1 z hp1 hDz hzj hadd
      unfold kJ_X8_readValue_40 kJ_X12_readsValue_38 kJ_X12_readsValue_72
      simp only [fz_lt, fz_ls]
      rw [hadd]
      rcases zz_RN (hC.at (p2 := p1) c1) hDz hp1.1 hn c1 c2 k1 k2 k3 with ⟨e1, e2⟩ | ⟨x, p2, u2, v2, e1, e2, e3, e4, e5, e6, e7, e8, e9, e10⟩
      · rw [e1, e2]
        simp only [fz_lc, fz_lt, if_pos (show (-1 : Int) < 0 by decide), if_pos zz_00, if_true, zz_ps, zz_fail]
        exact zz_V.bad (hC.at (p2 := p1) c1).2.2.2.2 hDz.2.2.2.2 (by decide) (by omega)
      · rw [e1, e2]
        simp only [fz_lc, fz_lt, if_neg (show ¬ x < 0 by omega), if_neg zz_n10, e7]
        rw [e6.2.1]
        have h5 : u2 q 5 = u q 5 := by rw [e9, zz_pj (by decide)]
        have hjj : ∀ j : Nat, (j : Int) < m → zz_E sk (u2 V1 j) (v2 NV j) := fun j hj2 => by rw [e8, e10, zz_pa c2, hzj]; exact hj j hj2
        by_cases s0 : sg = 0
        · simp only [if_pos s0]
          exact zz_star c1 c2 c3 k1 k2 k3 k4 k5 hn hd hm (by omega) (by omega) e5 e6 (by rw [if_pos s0]) ⟨rfl, by omega, fun _ => by omega⟩ h5 hjj
        · by_cases x0 : x = 0
          · simp only [if_neg s0, if_pos x0, zz_fail, zz_wrong]
            exact zz_V.bad e5.2.2.2.2 e6.2.2.2.2 (by decide) (by omega)
          · simp only [if_neg s0, if_neg x0]
            exact zz_star c1 c2 c3 k1 k2 k3 k4 k5 hn hd hm (by omega) (by omega) e5 e6 (by rw [if_neg s0]) ⟨rfl, by omega, fun q => absurd q (hns s0)⟩ h5 hjj
    unfold kJ_X8_readValue_23 kJ_X12_readsValue_23
    rcases hsg with rfl | ⟨rfl, hlt, -⟩
    · rw [if_pos rfl, if_pos rfl]
      have := main p v ⟨hp.1, Int.le_refl _, hp.2⟩ hD (fun _ => rfl) (by rw [if_pos rfl, zz_wadd ⟨by omega, by omega⟩ ⟨by omega, by omega⟩ ⟨by omega, by omega⟩]; omega)
      rw [if_pos rfl] at this
      exact this
    · rw [if_neg (by decide), if_neg (by decide)]
      simp only [fz_lt, fz_ls]
      have := main (p + 1) (fx_pt v a2 5 (p + 1)) (by omega) (hD.at k1 k2) (fun j => by rw [zz_pa k3]) (by rw [if_neg (by decide), zz_wadd ⟨by omega, by omega⟩ ⟨by omega, by omega⟩ ⟨by omega, by omega⟩])
      rw [if_neg (by decide)] at this
      exact this
  unfold f_X8_readValue f_X12_readsValue kJ_X8_readValue_22 kJ_X12_readsValue_22
  simp only [fz_lt, fz_lr, hC.2.1, hD.2.1, zz_peek hC hp.1, zz_here hD hp.1]
  by_cases s : sk = 0
  · simp only [if_pos s]
    exact both 0 (Or.inl rfl)
  · by_cases g : zz_pk T n p = 45
    · simp only [if_neg s, if_pos g]
      exact both 1 (Or.inr ⟨rfl, zz_pk_lt (T := T) (by omega), s⟩)
    · simp only [if_neg s, if_neg g]
      exact both 0 (Or.inl rfl)
theorem zz_absE {u v : fx_U} {x : Int} : f_J9_abs_0f7a4 u x = f_X12_size v x := rfl
theorem zz_wneg {x : Int} (hx : zz_in x) (h : zz_in (-x)) : fx_b_neg x = -x := by
  have e : fx_b_neg x = fx_b_sub 0 x := by
    unfold fx_b_neg fx_b_sub
    rw [show Int32.ofInt 0 = 0 by decide]
  rw [e, zz_wsub ⟨by omega, by omega⟩ hx (by rw [show (0 : Int) - x = -x by omega]; exact h)]
  omega
theorem zz_size {u : fx_U} {x : Int} (h : -99 ≤ x ∧ x ≤ 99) : 0 ≤ f_X12_size u x ∧ f_X12_size u x ≤ 99 := by
  unfold f_X12_size
  by_cases k : x < 0
  · rw [if_pos k]
    simp only [fz_lt]
    rw [zz_wneg ⟨by omega, by omega⟩ ⟨by omega, by omega⟩]
    omega
  · rw [if_neg k]
    omega
/-- the sums, and what the reference writes -/
theorem zz_sums {kd : Int} (k3 : NV ≠ a2) (k2 : bn ≠ a2) (k5 : bn ≠ NV) (hk : 0 ≤ kd ∧ kd ≤ 2) (hd : 8 ≤ d ∧ d ≤ 64) (h4 : u q 4 = d) (h0 : u q 0 = (V1 : Int)) (hj : ∀ j : Nat, (j : Int) < d → zz_E sk (u V1 j) (v NV j)) :
    ∀ (f : Nat) (s k : Int) (w : fx_U), 0 ≤ k → k ≤ d → (64 - k).toNat < f → (0 ≤ s ∧ s ≤ 99 * k) → w a2 26 = (NV : Int) → (∀ j, w NV j = v NV j) → ∃ (S : Int) (w2 : fx_U), kL_X8_sumOfAmounts_4 u q f s k = S ∧ kL_X12_row_142 d kd a2 bn f s k w = (S, w2) ∧ 0 ≤ S ∧ (∀ b : Nat, b ≠ bn → ∀ i : Nat, w2 b i = w b i) ∧ ∀ i : Nat, w2 bn i = if 64 * kd + k ≤ (i : Int) ∧ (i : Int) < 64 * kd + d then v NV (i - (64 * kd).toNat) else w bn i := by
  intro f
  induction f with
  | zero => intro s k w _ _ h; omega
  | succ f ih =>
    intro s k w g0 g1 gf gs w26 wj
    have eA : kL_X8_sumOfAmounts_4 u q (f + 1) s k = kB_X8_sumOfAmounts_4 (kL_X8_sumOfAmounts_4 u q f) u q s k := rfl
    have eB : kL_X12_row_142 d kd a2 bn (f + 1) s k w = kB_X12_row_142 (kL_X12_row_142 d kd a2 bn f) d kd a2 bn s k w := rfl
    by_cases h : k < d
    · obtain ⟨hx1, hx2, hx3⟩ := hj k.toNat (by omega)
      have sz := zz_size (u := fx_pt w bn (64 * kd + k).toNat (v NV k.toNat)) (x := v NV k.toNat) (by rw [← hx1]; exact hx2)
      have ea : fx_b_add s (f_X12_size (fx_pt w bn (64 * kd + k).toNat (v NV k.toNat)) (v NV k.toNat)) = s + f_X12_size (fx_pt w bn (64 * kd + k).toNat (v NV k.toNat)) (v NV k.toNat) := zz_wadd ⟨by omega, by omega⟩ ⟨by omega, by omega⟩ ⟨by omega, by omega⟩
      obtain ⟨S, w2, q1, q2, q3, q4, q5⟩ := ih (fx_b_add s (f_X12_size (fx_pt w bn (64 * kd + k).toNat (v NV k.toNat)) (v NV k.toNat))) (k + 1) (fx_pt w bn (64 * kd + k).toNat (v NV k.toNat)) (by omega) (by omega) (by omega) (by rw [ea]; omega) (by rw [zz_pa (Ne.symm k2)]; exact w26) (fun j => by rw [zz_pa (Ne.symm k5)]; exact wj j)
      refine ⟨S, w2, ?_, ?_, q3, fun b hb i => ?_, fun i => ?_⟩
      · rw [eA]
        unfold kB_X8_sumOfAmounts_4
        simp only [fz_lt, fz_lr, h4, h0, Int.toNat_natCast]
        rw [if_pos h, hx1, zz_absE (v := fx_pt w bn (64 * kd + k).toNat (v NV k.toNat))]
        exact q1
      · rw [eB]
        unfold kB_X12_row_142
        simp only [fz_lt, fz_lr, fz_ls, w26, Int.toNat_natCast]
        rw [if_pos h, wj]
        exact q2
      · rw [q4 b hb i, zz_pa hb]
      · rw [q5 i]
        by_cases e : i = (64 * kd + k).toNat
        · rw [if_neg (by omega), if_pos (by omega), e, zz_ps, show (64 * kd + k).toNat - (64 * kd).toNat = k.toNat by omega]
        · rw [zz_pj e]
          by_cases e2 : 64 * kd + (k + 1) ≤ (i : Int) ∧ (i : Int) < 64 * kd + d
          · rw [if_pos e2, if_pos (by omega)]
          · rw [if_neg e2, if_neg (by omega)]
    · refine ⟨s, w, ?_, ?_, gs.1, fun _ _ _ => rfl, fun i => ?_⟩
      · rw [eA]
        unfold kB_X8_sumOfAmounts_4
        simp only [fz_lt, h4]
        rw [if_neg h]
      · rw [eB]
        unfold kB_X12_row_142
        rw [if_neg h]
      · rw [if_neg (by omega)]
end RowB
