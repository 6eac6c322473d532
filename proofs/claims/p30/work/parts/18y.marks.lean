/-! WHERE THE LINE IS BROKEN: both say alike -/
/-- a run of both, side by side: what holds all along -/
def zm_I (a1 la bk sg vl l5 l6 l7 ar c0 c1 c2 a2 bn bq bc bf bcl bcf bch bct : Nat) (D M : Int) (R : zl_L) (u v : fx_U) : Prop := (zv_hc la bk sg vl l5 l6 l7 ar c0 c1 c2 D R u ∧ u ar 17 = M ∧ u a1 5 = (ar : Int) ∧ u a1 4 = (la : Int)) ∧ (zv_hr a2 bn bq bc bf bcl bcf bch bct D R v ∧ v bn 513 = M) ∧ ∀ k : Nat, k < 64 → (v bn k = u c0 k ∧ v bn (64 + k) = u c1 k ∧ v bn (128 + k) = u c2 k) ∧ -99 ≤ u c1 k ∧ u c1 k ≤ 99
def zm_A (a1 la bk sg vl l5 l6 l7 ar c0 c1 c2 a2 bn bq bc bf bcl bcf bch bct : Nat) (D : Int) (R : zl_L) : Prop := zv_ap la bk sg vl l5 l6 l7 ar c0 c1 c2 ∧ zv_aq a2 bn bq bc bf bcl bcf bch bct ∧ (a1 ≠ la ∧ a1 ≠ bk) ∧ (zv_LE R ∧ R.length ≤ 16) ∧ 8 ≤ D ∧ D ≤ 64
section Marks
variable {a1 la bk sg vl l5 l6 l7 ar c0 c1 c2 a2 bn bq bc bf bcl bcf bch bct : Nat} {D M i e w8 s x1 x2 x3 : Int} {R : zl_L} {u v w z : fx_U}
theorem zm_I.mv (hA : zm_A a1 la bk sg vl l5 l6 l7 ar c0 c1 c2 a2 bn bq bc bf bcl bcf bch bct D R) (h : zm_I a1 la bk sg vl l5 l6 l7 ar c0 c1 c2 a2 bn bq bc bf bcl bcf bch bct D M R u v) (k1 : zv_fa la bk u w) (k2 : zv_fb bq bf v z) : zm_I a1 la bk sg vl l5 l6 l7 ar c0 c1 c2 a2 bn bq bc bf bcl bcf bch bct D M R w z := by
  have hA0 := hA
  obtain ⟨ha, hq, ⟨n1, n2⟩, -, -⟩ := hA
  obtain ⟨⟨b1, b2, b3, b4⟩, ⟨d1, d2⟩, d3⟩ := h
  obtain ⟨-, -, -, -, -, -, ⟨r1, r2⟩, ⟨o1, o2⟩, ⟨o3, o4⟩, o5, o6⟩ := ha
  have hq0 := hq
  obtain ⟨-, -, ⟨m3, m4⟩, -⟩ := hq
  refine ⟨⟨b1.mv hA0.1 k1, (k1.1 ar r1 r2 17).trans b2, (k1.1 a1 n1 n2 5).trans b3, (k1.1 a1 n1 n2 4).trans b4⟩, ⟨d1.mv hq0 k2, (k2 bn m3 m4 513).trans d2⟩, fun k hk => ?_⟩
  obtain ⟨⟨e1, e2, e3⟩, e4, e5⟩ := d3 k hk
  have x0 := k1.1 c0 o1 o2 k
  have y1 := k1.1 c1 o3 o4 k
  have y2 := k1.1 c2 o5 o6 k
  have z0 := k2 bn m3 m4 k
  have z1 := k2 bn m3 m4 (64 + k)
  have z2 := k2 bn m3 m4 (128 + k)
  exact ⟨⟨by omega, by omega, by omega⟩, by omega, by omega⟩
/-- the law's s is the same -/
theorem zm_s (hA : zm_A a1 la bk sg vl l5 l6 l7 ar c0 c1 c2 a2 bn bq bc bf bcl bcf bch bct D R) (h : zm_I a1 la bk sg vl l5 l6 l7 ar c0 c1 c2 a2 bn bq bc bf bcl bcf bch bct D M R u v) (hi : 0 ≤ i ∧ i < D) : (f_X3_ask u la 115 ar i M 0 0).1 = (f_X12_mustSee v a2 i).1 ∧ zv_fa la bk u (f_X3_ask u la 115 ar i M 0 0).2 ∧ zv_fb bq bf v (f_X12_mustSee v a2 i).2 := by
  obtain ⟨ha, hq, -, ⟨hE, hR⟩, -, hD⟩ := hA
  obtain ⟨⟨b1, -⟩, ⟨d1, d2⟩, d3⟩ := h
  have e513 : Int.toNat 513 = 513 := rfl
  have e : f_X12_mustSee v a2 i = f_X12_byLaw (f_X12_feels v a2 i M 0 0) a2 115 0 63 := by
    unfold f_X12_mustSee
    simp only [fz_lt, fz_lr, fz_ls, fz_lc, d1.2.1.1, Int.toNat_natCast, e513, d2]
  rw [e]
  exact zv_askW ha hq b1 d1 hE hR hD hi (Or.inl rfl) (fun k hk => (d3 k hk).1) (by decide) (by decide)
/-- whether one sees enough -/
theorem zm_suf (hA : zm_A a1 la bk sg vl l5 l6 l7 ar c0 c1 c2 a2 bn bq bc bf bcl bcf bch bct D R) (h : zm_I a1 la bk sg vl l5 l6 l7 ar c0 c1 c2 a2 bn bq bc bf bcl bcf bch bct D M R u v) (hi : 0 ≤ i ∧ i < D) (hw : 0 ≤ w8 ∧ w8 ≤ 1) (he : 1 ≤ e ∧ e ≤ 9) : f_X9_suffices u ar i w8 e s = f_X12_isEnough v a2 i w8 e s := by
  obtain ⟨-, -, -, -, hD⟩ := hA
  obtain ⟨⟨⟨-, d0, -, k2, -⟩, -⟩, ⟨⟨-, ⟨g0, g1⟩, -⟩, -⟩, d3⟩ := h
  have e512 : Int.toNat 512 = 512 := rfl
  have z := zz_ahead (x1 := i) (x2 := w8) (x3 := e) k2 d0 hD hi hw he g0 g1 (fun k hk => ⟨(d3 k hk).1.2.1, (d3 k hk).2⟩)
  unfold f_X9_suffices kJ_X9_suffices_16 f_X12_isEnough f_X12_ahead
  simp only [fz_lt, fz_lr, d0, g0, g1, e512, Int.toNat_natCast, z]
  by_cases g : w8 = 0
  · simp only [if_pos g]
  · simp only [if_neg g]
theorem zm_br (hA : zm_A a1 la bk sg vl l5 l6 l7 ar c0 c1 c2 a2 bn bq bc bf bcl bcf bch bct D R) (h : zm_I a1 la bk sg vl l5 l6 l7 ar c0 c1 c2 a2 bn bq bc bf bcl bcf bch bct D M R u v) (hi : 0 ≤ i ∧ i < D) (hw : 0 ≤ w8 ∧ w8 ≤ 1) (he : 1 ≤ e ∧ e ≤ 9) : ∃ y : fx_U, f_X9_isBroken u ar la i w8 e = (f_X12_isEnough (f_X12_mustSee v a2 i).2 a2 i w8 e (f_X12_mustSee v a2 i).1, y) ∧ zm_I a1 la bk sg vl l5 l6 l7 ar c0 c1 c2 a2 bn bq bc bf bcl bcf bch bct D M R y (f_X12_mustSee v a2 i).2 ∧ zm_I a1 la bk sg vl l5 l6 l7 ar c0 c1 c2 a2 bn bq bc bf bcl bcf bch bct D M R y v := by
  obtain ⟨s1, s2, s3⟩ := zm_s hA h hi
  have h2 := h.mv hA s2 s3
  refine ⟨(f_X3_ask u la 115 ar i M 0 0).2, ?_, h2, h.mv hA s2 zv_fb.rf⟩
  unfold f_X9_isBroken
  simp only [fz_lt, fz_lc, h.1.2.1, s1]
  rw [zm_suf hA h2 hi hw he]
theorem zm_mark (hA : zm_A a1 la bk sg vl l5 l6 l7 ar c0 c1 c2 a2 bn bq bc bf bcl bcf bch bct D R) (h : zm_I a1 la bk sg vl l5 l6 l7 ar c0 c1 c2 a2 bn bq bc bf bcl bcf bch bct D M R u v) (hi : 0 ≤ i ∧ i < D) (he : 1 ≤ e ∧ e ≤ 9) : (f_X9_marking u ar la i e).1 = (f_X12_markAt v a2 i e).1 ∧ zm_I a1 la bk sg vl l5 l6 l7 ar c0 c1 c2 a2 bn bq bc bf bcl bcf bch bct D M R (f_X9_marking u ar la i e).2 (f_X12_markAt v a2 i e).2 := by
  obtain ⟨y1, a3, a4, a5⟩ := zm_br (w8 := 0) hA h hi (by decide) he
  obtain ⟨y2, b3, b4, b5⟩ := zm_br (w8 := 1) hA a5 hi (by decide) he
  obtain ⟨S, V, hS⟩ : ∃ (S : Int) (V : fx_U), f_X12_mustSee v a2 i = (S, V) := ⟨_, _, rfl⟩
  rw [hS] at a3 b3 b4
  have x3 : f_X9_isBroken u ar la i 0 e = (f_X12_isEnough V a2 i 0 e S, y1) := a3
  have x4 : f_X9_isBroken y1 ar la i 1 e = (f_X12_isEnough V a2 i 1 e S, y2) := b3
  have b4' : zm_I a1 la bk sg vl l5 l6 l7 ar c0 c1 c2 a2 bn bq bc bf bcl bcf bch bct D M R y2 V := b4
  unfold f_X9_marking kJ_X9_marking_16 kJ_X9_marking_34 f_X12_markAt kJ_X12_markAt_22
  simp only [fz_lt, fz_lc, x3, x4, hS]
  by_cases g1 : f_X12_isEnough V a2 i 0 e S = 0
  · by_cases g2 : f_X12_isEnough V a2 i 1 e S = 0
    · simp only [if_pos g1, if_pos g2]
      exact ⟨trivial, b4'⟩
    · simp only [if_pos g1, if_neg g2]
      exact ⟨trivial, b4'⟩
  · by_cases g2 : f_X12_isEnough V a2 i 1 e S = 0
    · simp only [if_neg g1, if_pos g2]
      exact ⟨trivial, b4'⟩
    · simp only [if_neg g1, if_neg g2]
      exact ⟨trivial, b4'⟩
/-- marked -/
theorem zm_marked (hA : zm_A a1 la bk sg vl l5 l6 l7 ar c0 c1 c2 a2 bn bq bc bf bcl bcf bch bct D R) (h : zm_I a1 la bk sg vl l5 l6 l7 ar c0 c1 c2 a2 bn bq bc bf bcl bcf bch bct D M R u v) : (f_X11_marked u a1 x1 x2).1 = (f_X12_marked v a2 x1 x2).1 := by
  have h0 := h
  obtain ⟨⟨⟨-, d0, -⟩, -, k5, k4⟩, ⟨⟨-, ⟨g0, g1⟩, -⟩, -⟩, -⟩ := h
  have e512 : Int.toNat 512 = 512 := rfl
  unfold f_X11_marked f_X12_marked f_X11_isEye f_X7_isDot f_X12_isDot
  simp only [fz_lt, fz_lr, k5, k4, g0, d0, g1, e512, Int.toNat_natCast, zz_is, zz_is2]
  by_cases q1 : x1 < 0
  · simp only [if_pos q1, if_true]
  · by_cases q2 : x1 < D
    · simp only [if_neg q1, if_pos q2, if_neg zz_n10]
      by_cases q4 : 1 ≤ x2 ∧ x2 ≤ 9
      · simp only [if_pos q4, if_neg zz_n10, fz_lc]
        exact (zm_mark hA h0 ⟨by omega, q2⟩ q4).1
      · simp only [if_neg q4, if_true]
    · simp only [if_neg q1, if_neg q2, if_true]
/-- markings -/
theorem zm_loopM (hA : zm_A a1 la bk sg vl l5 l6 l7 ar c0 c1 c2 a2 bn bq bc bf bcl bcf bch bct D R) (he : 1 ≤ x1 ∧ x1 ≤ 9) : ∀ (f : Nat) (k p q m : Int) (u v : fx_U), D - k < (f : Int) → 0 ≤ k → zm_I a1 la bk sg vl l5 l6 l7 ar c0 c1 c2 a2 bn bq bc bf bcl bcf bch bct D M R u v → (kL_X11_markings_39 a1 x1 x2 x3 f p q m k u).1 = (kL_X12_markings_42 a2 x1 x2 x3 f p m q k v).1 := by
  intro f
  induction f with
  | zero => intro k p q m u v _ _ _; rfl
  | succ f ih =>
    intro k p q m u v hf k0 h
    have h0 := h
    obtain ⟨⟨⟨-, d0, -⟩, -, k5, k4⟩, ⟨⟨-, ⟨g0, g1⟩, -⟩, -⟩, -⟩ := h
    have e512 : Int.toNat 512 = 512 := rfl
    show (kB_X11_markings_39 (kL_X11_markings_39 a1 x1 x2 x3 f) a1 x1 x2 x3 p q m k u).1 = (kB_X12_markings_42 (kL_X12_markings_42 a2 x1 x2 x3 f) a2 x1 x2 x3 p m q k v).1
    unfold kB_X11_markings_39 kB_X12_markings_42
    simp only [fz_lt, fz_lr, k5, k4, g0, d0, g1, e512, Int.toNat_natCast]
    by_cases g : k < D
    · obtain ⟨t1, t2⟩ := zm_mark (e := x1) hA h0 ⟨k0, g⟩ he
      obtain ⟨S, V, hS⟩ : ∃ (S : Int) (V : fx_U), f_X12_markAt v a2 k x1 = (S, V) := ⟨_, _, rfl⟩
      obtain ⟨S1, V1, hS1⟩ : ∃ (S : Int) (V : fx_U), f_X9_marking u ar la k x1 = (S, V) := ⟨_, _, rfl⟩
      rw [hS, hS1] at t1 t2
      have t3 : S1 = S := t1
      have t4 : zm_I a1 la bk sg vl l5 l6 l7 ar c0 c1 c2 a2 bn bq bc bf bcl bcf bch bct D M R V1 V := t2
      simp only [if_pos g, fz_lc, hS, hS1, t3]
      unfold kJ_X11_markings_81 kJ_X12_markings_71 kJ_X12_markings_86 kJ_X12_markings_102
      by_cases q1 : S = x2
      · simp only [if_pos q1, if_neg zz_n10, fz_lt, zm_max (u1 := V1) (u2 := V)]
        exact ih (k + 1) _ _ _ V1 V (by omega) (by omega) t4
      · simp only [if_neg q1, if_true, fz_lt, zm_max (u1 := V1) (u2 := V)]
        exact ih (k + 1) _ _ _ V1 V (by omega) (by omega) t4
    · simp only [if_neg g]
      by_cases q1 : x3 = 0
      · simp only [if_pos q1]
      · simp only [if_neg q1]
theorem zm_markings (hA : zm_A a1 la bk sg vl l5 l6 l7 ar c0 c1 c2 a2 bn bq bc bf bcl bcf bch bct D R) (h : zm_I a1 la bk sg vl l5 l6 l7 ar c0 c1 c2 a2 bn bq bc bf bcl bcf bch bct D M R u v) : (f_X11_markings u a1 x1 x2 x3).1 = (f_X12_markings v a2 x1 x2 x3).1 := by
  have hD := hA.2.2.2.2
  unfold f_X11_markings f_X12_markings f_X11_isEye
  simp only [fz_lt, zz_is, zz_is2]
  by_cases q1 : 1 ≤ x1 ∧ x1 ≤ 9
  · by_cases q2 : 0 ≤ x2 ∧ x2 ≤ 3
    · by_cases q3 : 0 ≤ x3 ∧ x3 ≤ 1
      · simp only [if_pos q1, if_pos q2, if_pos q3, if_neg zz_n10, show Int.toNat (64 - 0) + 1 = 65 from rfl]
        exact zm_loopM hA q1 65 0 0 0 0 u v (by omega) (by decide) h
      · simp only [if_pos q1, if_pos q2, if_neg q3, if_neg zz_n10, if_true]
    · simp only [if_pos q1, if_neg q2, if_neg zz_n10, if_true]
  · simp only [if_neg q1, if_true]
/-- cut -/
theorem zm_loopC (hA : zm_A a1 la bk sg vl l5 l6 l7 ar c0 c1 c2 a2 bn bq bc bf bcl bcf bch bct D R) (hw : 0 ≤ x1 ∧ x1 ≤ 1) (he : 1 ≤ x2 ∧ x2 ≤ 9) : ∀ (f : Nat) (k p : Int) (u v : fx_U), D - k < (f : Int) → 0 ≤ k → zm_I a1 la bk sg vl l5 l6 l7 ar c0 c1 c2 a2 bn bq bc bf bcl bcf bch bct D M R u v → (kL_X11_cut_34 a1 x1 x2 x3 f p k u).1 = (kL_X12_cut_37 a2 x1 x2 x3 f p k v).1 := by
  intro f
  induction f with
  | zero => intro k p u v _ _ _; rfl
  | succ f ih =>
    intro k p u v hf k0 h
    have h0 := h
    obtain ⟨⟨⟨-, d0, -⟩, -, k5, k4⟩, ⟨⟨-, ⟨g0, g1⟩, -⟩, -⟩, -⟩ := h
    have e512 : Int.toNat 512 = 512 := rfl
    show (kB_X11_cut_34 (kL_X11_cut_34 a1 x1 x2 x3 f) a1 x1 x2 x3 p k u).1 = (kB_X12_cut_37 (kL_X12_cut_37 a2 x1 x2 x3 f) a2 x1 x2 x3 p k v).1
    unfold kB_X11_cut_34 kB_X12_cut_37
    simp only [fz_lt, fz_lr, k5, k4, g0, d0, g1, e512, Int.toNat_natCast]
    by_cases g : k < D
    · obtain ⟨y1, a3, a4, -⟩ := zm_br (w8 := x1) (e := x2) hA h0 ⟨k0, g⟩ hw he
      obtain ⟨S, V, hS⟩ : ∃ (S : Int) (V : fx_U), f_X12_mustSee v a2 k = (S, V) := ⟨_, _, rfl⟩
      rw [hS] at a3 a4
      have b3 : f_X9_isBroken u ar la k x1 x2 = (f_X12_isEnough V a2 k x1 x2 S, y1) := a3
      have b4 : zm_I a1 la bk sg vl l5 l6 l7 ar c0 c1 c2 a2 bn bq bc bf bcl bcf bch bct D M R y1 V := a4
      have b5 := zm_suf (s := x3) hA b4 ⟨k0, g⟩ hw he
      simp only [if_pos g, fz_lc, fz_lt, hS, b3, b5]
      unfold kJ_X11_cut_82 kJ_X12_cut_85
      by_cases q1 : f_X12_isEnough V a2 k x1 x2 S = 0
      · by_cases q2 : f_X12_isEnough V a2 k x1 x2 x3 = 0
        · simp only [if_pos q1, if_pos q2, fz_lt]
          exact ih (k + 1) _ y1 V (by omega) (by omega) b4
        · simp only [if_pos q1, if_neg q2, fz_lt]
          exact ih (k + 1) _ y1 V (by omega) (by omega) b4
      · simp only [if_neg q1, fz_lt]
        exact ih (k + 1) _ y1 V (by omega) (by omega) b4
    · simp only [if_neg g]
theorem zm_cut (hA : zm_A a1 la bk sg vl l5 l6 l7 ar c0 c1 c2 a2 bn bq bc bf bcl bcf bch bct D R) (h : zm_I a1 la bk sg vl l5 l6 l7 ar c0 c1 c2 a2 bn bq bc bf bcl bcf bch bct D M R u v) : (f_X11_cut u a1 x1 x2 x3).1 = (f_X12_cut v a2 x1 x2 x3).1 := by
  have hD := hA.2.2.2.2
  unfold f_X11_cut f_X12_cut f_X11_isEye
  simp only [fz_lt, zz_is, zz_is2]
  by_cases q1 : 0 ≤ x1 ∧ x1 ≤ 1
  · by_cases q2 : 1 ≤ x2 ∧ x2 ≤ 9
    · by_cases q3 : 0 ≤ x3 ∧ x3 ≤ 63
      · simp only [if_pos q1, if_pos q2, if_pos q3, if_neg zz_n10, show Int.toNat (64 - 0) + 1 = 65 from rfl]
        exact zm_loopC hA q1 q2 65 0 0 u v (by omega) (by decide) h
      · simp only [if_pos q1, if_pos q2, if_neg q3, if_neg zz_n10, if_true]
    · simp only [if_pos q1, if_neg q2, if_neg zz_n10, if_true]
  · simp only [if_neg q1, if_true]
end Marks
