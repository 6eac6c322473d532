/-! THE TEXT OF A ROW: both answer alike -/
section RowC
variable {T : Nat → Int} {q V1 ta a2 tb NV bn : Nat} {sk n d : Int} {B1 B2 : fx_U}
def zz_ct (rec33 : Int → fx_U → Int × fx_U) (d : Int) (q : Nat) (k : Int) (x : Int × fx_U) : Int × fx_U := if x.1 = 0 then kJ_X8_read_101 q d x.2 else if x.2 q 3 < x.2 q 2 then (if f_X8_peek x.2 q = 44 then rec33 (k + 1) (fx_pt x.2 q 3 (x.2 q 3 + 1)) else kJ_X8_read_101 q d (fx_pt x.2 q 5 (zz_ft 1 (x.2 q 3)))) else kJ_X8_read_101 q d x.2
theorem zz_read33 {f : Nat} {sk k : Int} {w : fx_U} (h : ¬ d < k) : kL_X8_read_33 d q sk (f + 1) k w = zz_ct (kL_X8_read_33 d q sk f) d q k (f_X8_readValue w q d sk) := by
  have eK : kL_X8_read_33 d q sk (f + 1) k w = kB_X8_read_33 (kL_X8_read_33 d q sk f) d q sk k w := rfl
  rw [eK]
  unfold kB_X8_read_33 zz_ct
  rw [if_neg h]
  simp only [fz_lc, fz_lt, fz_ls, zz_fail]
theorem zz_101f {w : fx_U} (h : w q 5 ≠ 0) : kJ_X8_read_101 q d w = (w q 5, w) := by
  unfold kJ_X8_read_101 kJ_X8_read_126
  simp only [fz_lt, if_neg h]
theorem zz_101l {w : fx_U} (h : w q 5 = 0) (h2 : w q 4 < d) (hp : 0 ≤ w q 3 ∧ w q 3 ≤ 1000) : kJ_X8_read_101 q d w = (zz_ft 1 (w q 3), fx_pt w q 5 (zz_ft 1 (w q 3))) := by
  have e := zz_ft_neg (k := 1) (p := w q 3) (by decide) hp
  unfold kJ_X8_read_101 kJ_X8_read_126
  simp only [fz_lt, fz_lc, if_pos h, if_pos h2, zz_fail, zz_ps, if_neg (show ¬ zz_ft 1 (w q 3) = 0 by omega)]
theorem zz_101s {w : fx_U} (h : w q 5 = 0) (h2 : ¬ w q 4 < d) : kJ_X8_read_101 q d w = (f_X8_sumOfAmounts w q, w) := by
  unfold kJ_X8_read_101 kJ_X8_read_126
  simp only [fz_lt, if_pos h, if_neg h2]
theorem zz_58f {f : Nat} {kd F : Int} {w : fx_U} : kL_X12_row_58 a2 d kd bn (f + 1) 0 w F = (w a2 7, fx_pt w a2 4 0) := by
  have eK : kL_X12_row_58 a2 d kd bn (f + 1) 0 w F = kB_X12_row_58 (kL_X12_row_58 a2 d kd bn f) a2 d kd bn 0 w F := rfl
  rw [eK]
  unfold kB_X12_row_58 kJ_X12_row_122
  simp only [fz_lt, fz_ls, if_pos zz_00, if_true]
  rw [zz_pj (show (7 : Nat) ≠ 4 by decide)]
/-- a comma and a value more, or not -/
def zz_nx (rec58 : Int → fx_U → Int → Int × fx_U) (a2 : Nat) (sk : Int) (w : fx_U) (p : Int) : Int × fx_U := if f_X12_here w a2 = 44 then (rec58 (if (f_X12_readsValue (fx_pt w a2 5 (p + 1)) a2 sk).1 = 0 then 0 else 1) (f_X12_readsValue (fx_pt w a2 5 (p + 1)) a2 sk).2 ((f_X12_readsValue (fx_pt w a2 5 (p + 1)) a2 sk).2 a2 5)) else rec58 0 (fx_pt w a2 7 (zz_ft 1 p)) (fx_pt w a2 7 (zz_ft 1 p) a2 5)
theorem zz_88 {rec58 : Int → fx_U → Int → Int × fx_U} {kd p : Int} {w : fx_U} (hp : w a2 5 = p) : kJ_X12_row_88 w a2 rec58 kd = zz_nx rec58 a2 (if kd = 0 then 1 else 0) w p := by
  unfold zz_nx
  simp only [kJ_X12_row_88, f_X12_takes, kJ_X12_row_117, kJ_X12_row_107, kJ_X12_row_118, fz_lt, fz_lc, fz_ls, hp, zz_wrong]
  by_cases h : f_X12_here w a2 = 44
  · by_cases hk : kd = 0
    · by_cases hz : (f_X12_readsValue (fx_pt w a2 5 (p + 1)) a2 1).1 = 0
      · simp only [if_pos h, if_pos hk, if_pos hz, if_neg zz_n10]
      · simp only [if_pos h, if_pos hk, if_neg hz, if_neg zz_n10]
    · by_cases hz : (f_X12_readsValue (fx_pt w a2 5 (p + 1)) a2 0).1 = 0
      · simp only [if_pos h, if_neg hk, if_pos hz, if_neg zz_n10]
      · simp only [if_pos h, if_neg hk, if_neg hz, if_neg zz_n10]
  · simp only [if_neg h, if_pos zz_00, if_true]
/-- both behind the text: a fault, the same, and no row is written; or both have the same values, and the reference has written them -/
def zz_Z (q V1 a2 NV bn : Nat) (B1 B2 : fx_U) (sk d kd : Int) (X Y : Int × fx_U) : Prop :=
  X.1 = Y.1 ∧ zz_fm q V1 B1 X.2 ∧ ((X.1 < 0 ∧ ∀ i : Nat, Y.2 bn i = B2 bn i) ∨ (0 ≤ X.1 ∧ X.2 q 0 = (V1 : Int) ∧ (∀ j : Nat, (j : Int) < d → zz_E sk (X.2 V1 j) (Y.2 NV j)) ∧ ∀ i : Nat, Y.2 bn i = if 64 * kd ≤ (i : Int) ∧ (i : Int) < 64 * kd + d then Y.2 NV (i - (64 * kd).toNat) else B2 bn i))
theorem zz_ML {kd : Int} (hsk : sk = if kd = 0 then 1 else 0) (c1 : ta ≠ q) (c2 : V1 ≠ q) (c3 : ta ≠ V1) (k1 : tb ≠ a2) (k2 : bn ≠ a2) (k3 : NV ≠ a2) (k4 : tb ≠ NV) (k5 : bn ≠ NV) (hn : 1 ≤ n ∧ n ≤ 120) (hd : 8 ≤ d ∧ d ≤ 64) (hk : 0 ≤ kd ∧ kd ≤ 2) :
    ∀ (fR fC : Nat) (k p m : Int) (u0 : fx_U) (x y : Int × fx_U), zz_V T q V1 ta a2 tb NV bn B1 B2 sk n d p m u0 x y → u0 q 5 = 0 → (0 ≤ k ∧ k ≤ m) → (0 ≤ p ∧ p ≤ n) → ((y.1 = 0 → 1 ≤ fR) ∧ (y.1 = 1 → 2 * (260 - y.2 a2 5) + 1 < fR)) → (64 - k) < fC → zz_Z q V1 a2 NV bn B1 B2 sk d kd (zz_ct (kL_X8_read_33 d q sk fC) d q k x) (kL_X12_row_58 a2 d kd bn fR y.1 y.2 (y.2 a2 5)) := by
  intro fR
  induction fR with
  | zero =>
    intro fC k p m u0 x y hV _ _ hp hF
    rcases hV with ⟨-, y1, -⟩ | ⟨p2, m2, -, y1, g1, -, -, g4, -⟩
    · exact absurd (hF.1 y1) (by decide)
    · have := hF.2 y1
      rw [g4.2.1] at this
      omega
  | succ fR ih =>
    intro fC k p m u0 x y hV hu hkm hp hfR hfC
    rcases hV with ⟨x1, y1, e1, e2, e3, e4⟩ | ⟨p2, m2, x1, y1, g1, g2, g3, g4, g5, g6⟩
    · unfold zz_ct
      rw [if_pos x1, y1, zz_58f, zz_101f (by omega)]
      exact ⟨e1, e3, Or.inl ⟨e2, fun i => (zz_pa k2).trans (e4 bn k2 k5 i)⟩⟩
    · have hF2 := hfR.2 y1
      rw [g4.2.1] at hF2
      obtain ⟨fR2, hfR2⟩ : ∃ z : Nat, fR = z + 1 := ⟨fR - 1, by omega⟩
      have eK : kL_X12_row_58 a2 d kd bn (fR + 1) y.1 y.2 (y.2 a2 5) = kB_X12_row_58 (kL_X12_row_58 a2 d kd bn fR) a2 d kd bn y.1 y.2 (y.2 a2 5) := rfl
      rw [eK]
      unfold zz_ct kB_X12_row_58
      have p3 : x.2 q 3 = p2 := g3.2.1
      have n2 : x.2 q 2 = n := g3.1.2.2
      have m4 : x.2 q 4 = m2 := g3.2.2.1
      have q5 : y.2 a2 5 = p2 := g4.2.1
      have q6 : y.2 a2 6 = n := g4.1.2.2.2.1
      have q14 : y.2 a2 14 = m2 := g4.2.2.1
      have x5 : x.2 q 5 = 0 := g5.trans hu
      rw [if_neg (show ¬ x.1 = 0 by rw [x1]; decide), if_neg (show ¬ y.1 = 0 by rw [y1]; decide), p3, n2, q5]
      simp only [fz_lt, q6, q14]
      rw [zz_88 q5, ← hsk]
      unfold zz_nx
      simp only [zz_peek g3 (show 0 ≤ p2 by omega), zz_here g4 (show 0 ≤ p2 by omega)]
      by_cases h1 : p2 < n
      · rw [if_pos h1, if_pos h1]
        by_cases h2 : zz_pk T n p2 = 44
        · rw [if_pos h2, if_pos h2]
          obtain ⟨fC2, hfC2⟩ : ∃ z : Nat, fC = z + 1 := ⟨fC - 1, by omega⟩
          rw [hfC2, zz_read33 (by omega)]
          have rv := zz_RV (sk := sk) c1 c2 c3 k1 k2 k3 k4 k5 (by omega) hd (by omega) (by omega) (g3.at (p2 := p2 + 1) c1) (g4.at (p2 := p2 + 1) k1 k2) (fun j hj => by rw [zz_pa c2, zz_pa k3]; exact g6 j hj)
          have z := ih fC2 (k + 1) (p2 + 1) m2 (fx_pt x.2 q 3 (p2 + 1)) _ _ rv (by rw [zz_pj (by decide)]; exact x5) (by omega) (by omega) ⟨fun _ => by omega, fun hy => by
            rcases rv with ⟨-, r, -⟩ | ⟨p', m', -, r, s1, -, -, s4, -⟩
            · rw [r] at hy
              exact absurd hy (by decide)
            · rw [s4.2.1]
              omega⟩ (by omega)
          have y01 : (if (f_X12_readsValue (fx_pt y.2 a2 5 (p2 + 1)) a2 sk).1 = 0 then (0 : Int) else 1) = (f_X12_readsValue (fx_pt y.2 a2 5 (p2 + 1)) a2 sk).1 := by
            rcases rv with ⟨-, r, -⟩ | ⟨-, -, -, r, -⟩
            · rw [r, if_pos rfl]
            · rw [r, if_neg (by decide)]
          rw [y01]
          exact z
        · have e := zz_ft_neg (k := 1) (p := p2) (by decide) (by omega)
          rw [if_neg h2, if_neg h2, hfR2]
          generalize zz_ft 1 p2 = F at e ⊢
          have e5 : fx_pt x.2 q 5 F q 5 ≠ 0 := by
            rw [zz_ps]
            omega
          rw [zz_58f, zz_101f e5]
          refine ⟨?_, g3.2.2.2.2.p1, Or.inl ⟨?_, fun i => ?_⟩⟩
          · show fx_pt x.2 q 5 F q 5 = fx_pt y.2 a2 7 F a2 7
            rw [zz_ps, zz_ps]
          · show fx_pt x.2 q 5 F q 5 < 0
            rw [zz_ps]
            exact e
          · exact (zz_pa k2).trans ((zz_pa k2).trans (g4.2.2.2.2 bn k2 k5 i))
      · have pk : zz_pk T n p2 = -1 := by
          unfold zz_pk
          rw [if_neg h1]
        rw [if_neg h1, if_neg h1, pk, if_neg (show ¬ (-1 : Int) = 44 by decide)]
        by_cases h3 : m2 < d
        · have e := zz_ft_neg (k := 1) (p := p2) (by decide) (by omega)
          rw [if_pos h3, hfR2, zz_58f, zz_101l x5 (by omega) (by omega), p3]
          generalize zz_ft 1 p2 = F at e ⊢
          refine ⟨?_, g3.2.2.2.2.p1, Or.inl ⟨e, fun i => ?_⟩⟩
          · show F = fx_pt y.2 a2 7 F a2 7
            rw [zz_ps]
          · exact (zz_pa k2).trans ((zz_pa k2).trans (g4.2.2.2.2 bn k2 k5 i))
        · have ed : m2 = d := by omega
          rw [if_neg h3, zz_101s x5 (by omega)]
          unfold kJ_X12_row_122
          simp only [fz_ls, fz_lt]
          rw [if_neg (show ¬ y.1 = 0 by rw [y1]; decide)]
          unfold f_X8_sumOfAmounts
          obtain ⟨S, w2, r1, r2, r3, r4, r5⟩ := zz_sums (sk := sk) (u := x.2) (v := y.2) (kd := kd) k3 k2 k5 hk hd (by omega) g3.1.1 (fun j hj => g6 j (by omega)) (Int.toNat (64 - 0) + 1) 0 0 (fx_pt y.2 a2 4 0) (by decide) (by omega) (by decide) (by decide) (by rw [zz_pj (by decide)]; exact g4.1.2.2.1) (fun j => by rw [zz_pa k3])
          rw [r1, r2]
          refine ⟨rfl, g3.2.2.2.2, Or.inr ⟨r3, g3.1.1, fun j hj => ?_, fun i => ?_⟩⟩
          · show zz_E sk (x.2 V1 j) (w2 NV j)
            rw [r4 NV (Ne.symm k5) j, zz_pa k3]
            exact g6 j (by omega)
          · show w2 bn i = if 64 * kd ≤ (i : Int) ∧ (i : Int) < 64 * kd + d then w2 NV (i - (64 * kd).toNat) else B2 bn i
            rw [r4 NV (Ne.symm k5), zz_pa k3, r5 i, show 64 * kd + 0 = 64 * kd by omega, zz_pa k2, g4.2.2.2.2 bn k2 k5 i]
/-- the values are written into a row of the road -/
theorem zz_wr {c : Nat} (hq : c ≠ q) (hV : c ≠ V1) (hd : 8 ≤ d ∧ d ≤ 64) :
    ∀ (f : Nat) (k : Int) (w : fx_U), 0 ≤ k → k ≤ d → (64 - k).toNat < f → w q 0 = (V1 : Int) → (∀ b : Nat, b ≠ c → ∀ i, kL_X8_writeTo_2 d q c f k w b i = w b i) ∧ ∀ i : Nat, kL_X8_writeTo_2 d q c f k w c i = if k ≤ (i : Int) ∧ (i : Int) < d then w V1 i else w c i := by
  intro f
  induction f with
  | zero => intro k w _ _ h; omega
  | succ f ih =>
    intro k w g0 g1 gf h0
    have eK : kL_X8_writeTo_2 d q c (f + 1) k w = kB_X8_writeTo_2 (kL_X8_writeTo_2 d q c f) d q c k w := rfl
    rw [eK]
    unfold kB_X8_writeTo_2
    by_cases h : k < d
    · rw [if_pos h, if_pos (by omega), if_pos (by omega)]
      simp only [fz_lt, fz_lr, fz_ls, h0, Int.toNat_natCast]
      obtain ⟨r1, r2⟩ := ih (k + 1) (fx_pt w c k.toNat (w V1 k.toNat)) (by omega) (by omega) (by omega) (by rw [zz_pa (Ne.symm hq)]; exact h0)
      refine ⟨fun b hb i => ?_, fun i => ?_⟩
      · rw [r1 b hb i, zz_pa hb]
      · rw [r2 i]
        by_cases e : i = k.toNat
        · rw [if_neg (by omega), e, zz_ps, if_pos (by omega)]
        · rw [zz_pj e, zz_pj e]
          by_cases e2 : k + 1 ≤ (i : Int) ∧ (i : Int) < d
          · rw [if_pos e2, if_pos (by omega)]
          · rw [if_neg e2, if_neg (by omega)]
    · rw [if_neg h]
      exact ⟨fun _ _ _ => rfl, fun i => by rw [if_neg (by omega)]⟩
/-- what row answers, and what both rows hold behind it: B1 is the class's state ahead, B2 the reference's -/
def zz_RR (a1 q V1 bn : Nat) (B1 B2 : fx_U) (d kd : Int) (cs : Nat) (X Y : Int × fx_U) : Prop :=
  X.1 = Y.1 ∧ (∀ b : Nat, b ≠ a1 → b ≠ q → b ≠ V1 → b ≠ cs → ∀ i : Nat, X.2 b i = B1 b i) ∧ ((X.1 < 0 ∧ (∀ i : Nat, X.2 cs i = B1 cs i) ∧ ∀ i : Nat, Y.2 bn i = B2 bn i) ∨ (0 ≤ X.1 ∧ (0 ≤ kd ∧ kd ≤ 2) ∧ ∃ V : Nat → Int, (∀ j : Nat, (j : Int) < d → zz_E (if kd = 0 then 1 else 0) (V j) (V j)) ∧ (∀ i : Nat, X.2 cs i = if (i : Int) < d then V i else B1 cs i) ∧ ∀ i : Nat, Y.2 bn i = if 64 * kd ≤ (i : Int) ∧ (i : Int) < 64 * kd + d then V (i - (64 * kd).toNat) else B2 bn i))
/-- which of three -/
def zz_c3 (x : Int) (e0 e1 e2 : Nat) : Nat := if x = 0 then e0 else if x = 1 then e1 else e2
theorem zz_c3.all {P : Nat → Prop} {x : Int} {e0 e1 e2 : Nat} (h0 : P e0) (h1 : P e1) (h2 : P e2) : P (zz_c3 x e0 e1 e2) := by
  unfold zz_c3
  by_cases q0 : x = 0
  · rw [if_pos q0]; exact h0
  · by_cases q1 : x = 1
    · rw [if_neg q0, if_pos q1]; exact h1
    · rw [if_neg q0, if_neg q1]; exact h2
/-- row answers alike on both, and writes alike -/
theorem zz_rowR {u v : fx_U} {a1 br e0 e1 e2 : Nat} {t x1 x2 : Int} (h : zz_tp u v a1 a2 ta tb t) (hv : ∀ i, i < 260 → -128 ≤ v tb i ∧ v tb i ≤ 127) (ht : 0 ≤ t ∧ t ≤ 260) (hq : u a1 2 = (q : Int)) (hV1 : u q 0 = (V1 : Int)) (hbr : u a1 5 = (br : Int)) (hdc : u br 0 = d) (hdr : v bn 512 = d) (hd : 8 ≤ d ∧ d ≤ 64) (hbn : v a2 0 = (bn : Int)) (hNV : v a2 26 = (NV : Int)) (he : u br 1 = (e0 : Int) ∧ u br 2 = (e1 : Int) ∧ u br 3 = (e2 : Int)) (c1 : ta ≠ q) (c2 : V1 ≠ q) (c3 : ta ≠ V1) (k1 : tb ≠ a2) (k2 : bn ≠ a2) (k3 : NV ≠ a2) (k4 : tb ≠ NV) (k5 : bn ≠ NV) (b1 : br ≠ a1 ∧ br ≠ q ∧ br ≠ V1) (v1 : V1 ≠ a1) (w1 : q ≠ a1) (n0 : e0 ≠ a1 ∧ e0 ≠ q ∧ e0 ≠ V1) (n1 : e1 ≠ a1 ∧ e1 ≠ q ∧ e1 ≠ V1) (n2 : e2 ≠ a1 ∧ e2 ≠ q ∧ e2 ≠ V1) : zz_RR a1 q V1 bn u v d x1 (zz_c3 x1 e0 e1 e2) (f_X11_row u a1 x1 x2) (f_X12_row v a2 x1 x2) := by
  obtain ⟨⟨hu, hw⟩, ⟨hta, htb⟩, htc⟩ := h
  have nc : zz_c3 x1 e0 e1 e2 ≠ a1 ∧ zz_c3 x1 e0 e1 e2 ≠ q ∧ zz_c3 x1 e0 e1 e2 ≠ V1 := zz_c3.all (P := fun c => c ≠ a1 ∧ c ≠ q ∧ c ≠ V1) n0 n1 n2
  have no : zz_RR a1 q V1 bn u v d x1 (zz_c3 x1 e0 e1 e2) ((-1), u) ((-1), v) := ⟨rfl, fun _ _ _ _ _ _ => rfl, Or.inl ⟨(show (-1 : Int) < 0 by decide), fun _ => rfl, fun _ => rfl⟩⟩
  unfold f_X11_row f_X12_row
  have e512 : v bn (Int.toNat 512) = d := hdr
  simp only [fz_lt, fz_lr, hu, hw, hbn, Int.toNat_natCast, e512, zz_is, zz_is2, hq, hta, hbr, hdc]
  by_cases g1 : 0 ≤ x1 ∧ x1 ≤ 2
  · by_cases g2 : 1 ≤ x2 ∧ x2 ≤ 120
    · by_cases g3 : t < x2
      · simp only [if_pos g1, if_pos g2, if_neg zz_n10, if_pos g3]
        exact no
      · simp only [if_pos g1, if_pos g2, if_neg zz_n10, if_neg g3]
        obtain ⟨W, hW⟩ : ∃ W : fx_U, W = fx_pt (fx_pt (fx_pt v a2 5 0) a2 6 x2) a2 14 0 := ⟨_, rfl⟩
        simp only [fz_ls]
        rw [← hW]
        obtain ⟨U, hU⟩ : ∃ U : fx_U, U = fx_pt (fx_pt (fx_pt (fx_pt (fx_pt u q 1 (ta : Int)) q 2 x2) q 3 0) q 4 0) q 5 0 := ⟨_, rfl⟩
        have fU : zz_fm q V1 u U := by
          rw [hU]
          exact zz_fm.p1 (zz_fm.p1 (zz_fm.p1 (zz_fm.p1 (zz_fm.p1 (fun _ _ _ _ => rfl)))))
        have fW : zz_fm a2 NV v W := by
          rw [hW]
          exact zz_fm.p1 (zz_fm.p1 (zz_fm.p1 (fun _ _ _ _ => rfl)))
        have hC : zz_C (fun i => v tb i % 256) q V1 ta u x2 0 0 U := by
          refine ⟨⟨?_, ?_, ?_⟩, ?_, ?_, fun i hi => ?_, fU⟩
          · rw [hU, zz_pj (by decide), zz_pj (by decide), zz_pj (by decide), zz_pj (by decide), zz_pj (by decide)]; exact hV1
          · rw [hU, zz_pj (by decide), zz_pj (by decide), zz_pj (by decide), zz_pj (by decide), zz_ps]
          · rw [hU, zz_pj (by decide), zz_pj (by decide), zz_pj (by decide), zz_ps]
          · rw [hU, zz_pj (by decide), zz_pj (by decide), zz_ps]
          · rw [hU, zz_pj (by decide), zz_ps]
          · rw [hU, zz_pa c1, zz_pa c1, zz_pa c1, zz_pa c1, zz_pa c1]; exact htc i (by omega)
        have hD : zz_D (fun i => v tb i % 256) a2 tb NV bn v x2 d 0 0 W := by
          refine ⟨⟨?_, ?_, ?_, ?_, ?_⟩, ?_, ?_, fun i hi => ?_, fW⟩
          · rw [hW, zz_pj (by decide), zz_pj (by decide), zz_pj (by decide)]; exact hbn
          · rw [hW, zz_pj (by decide), zz_pj (by decide), zz_pj (by decide)]; exact htb
          · rw [hW, zz_pj (by decide), zz_pj (by decide), zz_pj (by decide)]; exact hNV
          · rw [hW, zz_pj (by decide), zz_ps]
          · rw [hW, zz_pa k2, zz_pa k2, zz_pa k2]; exact hdr
          · rw [hW, zz_pj (by decide), zz_pj (by decide), zz_ps]
          · rw [hW, zz_ps]
          · rw [hW, zz_pa k1, zz_pa k1, zz_pa k1]; exact zz_and (hv i (by omega))
        have U5 : U q 5 = 0 := by rw [hU, zz_ps]
        have rd : ∀ s : Int, f_X8_read u q ta x2 d s = zz_ct (kL_X8_read_33 d q s 65) d q 0 (f_X8_readValue U q d s) := by
          intro s
          unfold f_X8_read
          simp only [fz_ls, fz_lt]
          have em : f_J9_min_7cf53 (fx_pt u q 1 (ta : Int)) x2 260 = x2 := by
            unfold f_J9_min_7cf53
            rw [if_neg (by omega)]
          rw [em, ← hU, show Int.toNat (65 - 0) + 1 = 65 + 1 from rfl, zz_read33 (by omega)]
        have key : ∀ s : Int, s = (if x1 = 0 then 1 else 0) → zz_RR a1 q V1 bn u v d x1 (zz_c3 x1 e0 e1 e2) (kJ_X11_row_54 u q ta x2 d a1 br x1 s) (kJ_X12_row_54 W a2 d x1 bn s) := by
          intro s hs
          have rv := zz_RV (sk := s) c1 c2 c3 k1 k2 k3 k4 k5 (by omega) hd (by omega) (by omega) hC hD (fun j hj => absurd hj (by omega))
          have eD : kJ_X12_row_54 W a2 d x1 bn s = kL_X12_row_58 a2 d x1 bn (Int.toNat (2 * (260 - (f_X12_readsValue W a2 s).2 a2 5) + (f_X12_readsValue W a2 s).1) + 1) (f_X12_readsValue W a2 s).1 (f_X12_readsValue W a2 s).2 ((f_X12_readsValue W a2 s).2 a2 5) := by
            unfold kJ_X12_row_54
            simp only [fz_lc, fz_lt]
          have z := zz_ML (kd := x1) (sk := s) hs c1 c2 c3 k1 k2 k3 k4 k5 (by omega) hd g1 (Int.toNat (2 * (260 - (f_X12_readsValue W a2 s).2 a2 5) + (f_X12_readsValue W a2 s).1) + 1) 65 0 0 0 U _ _ rv U5 (by decide) (by omega) ⟨fun _ => by omega, fun hy => by rw [hy]; omega⟩ (by decide)
          rw [← rd s, ← eD] at z
          obtain ⟨X, hX⟩ : ∃ X : Int × fx_U, X = f_X8_read u q ta x2 d s := ⟨_, rfl⟩
          have eC : kJ_X11_row_54 u q ta x2 d a1 br x1 s = if X.1 < 0 then (X.1, fx_pt X.2 a1 1 0) else (X.1, f_X8_writeTo (fx_pt X.2 a1 1 0) q (f_X7_rowOf (fx_pt X.2 a1 1 0) br x1) d) := by
            unfold kJ_X11_row_54
            simp only [fz_lc, fz_ls, fz_lq]
            rw [← hX]
          rw [← hX] at z
          obtain ⟨z1, z2, z3⟩ := z
          rw [eC]
          rcases z3 with ⟨z3, z4⟩ | ⟨z3, z4, z5, z6⟩
          · rw [if_pos z3]
            refine ⟨z1, fun b g1 g2 g3 _ i => ?_, Or.inl ⟨z3, fun i => ?_, z4⟩⟩
            · exact (zz_pa g1).trans (z2 b g2 g3 i)
            · exact (zz_pa nc.1).trans (z2 _ nc.2.1 nc.2.2 i)
          · have ero : f_X7_rowOf (fx_pt X.2 a1 1 0) br x1 = zz_c3 x1 e0 e1 e2 := by
              unfold f_X7_rowOf zz_c3
              simp only [fz_lr]
              rw [zz_pa b1.1, zz_pa b1.1, zz_pa b1.1, z2 br b1.2.1 b1.2.2, z2 br b1.2.1 b1.2.2, z2 br b1.2.1 b1.2.2, he.1, he.2.1, he.2.2, Int.toNat_natCast, Int.toNat_natCast, Int.toNat_natCast]
            rw [if_neg (by omega), ero]
            have ew : f_X8_writeTo (fx_pt X.2 a1 1 0) q (zz_c3 x1 e0 e1 e2) d = kL_X8_writeTo_2 d q (zz_c3 x1 e0 e1 e2) 65 0 (fx_pt X.2 a1 1 0) := by
              unfold f_X8_writeTo
              rw [show Int.toNat (64 - 0) + 1 = 65 from rfl]
            obtain ⟨r1, r2⟩ := zz_wr (c := zz_c3 x1 e0 e1 e2) nc.2.1 nc.2.2 hd 65 0 (fx_pt X.2 a1 1 0) (by decide) (by omega) (by decide) (by rw [zz_pa w1]; exact z4)
            rw [ew]
            refine ⟨z1, fun b g1 g2 g3 g4 i => ?_, Or.inr ⟨z3, g1, fun j => X.2 V1 j, fun j hj => ?_, fun i => ?_, fun i => ?_⟩⟩
            · exact (r1 b g4 i).trans ((zz_pa g1).trans (z2 b g2 g3 i))
            · rw [← hs]
              obtain ⟨-, q2, q3⟩ := z5 j hj
              exact ⟨rfl, q2, q3⟩
            · show kL_X8_writeTo_2 d q (zz_c3 x1 e0 e1 e2) 65 0 (fx_pt X.2 a1 1 0) (zz_c3 x1 e0 e1 e2) i = _
              rw [r2 i, zz_pa v1, zz_pa nc.1, z2 _ nc.2.1 nc.2.2 i]
              by_cases e : (i : Int) < d
              · rw [if_pos e, if_pos (by omega)]
              · rw [if_neg e, if_neg (by omega)]
            · rw [z6 i]
              by_cases e : 64 * x1 ≤ (i : Int) ∧ (i : Int) < 64 * x1 + d
              · rw [if_pos e, if_pos e]
                exact (z5 (i - (64 * x1).toNat) (by omega)).1.symm
              · rw [if_neg e, if_neg e]
        by_cases g4 : x1 = 0
        · simp only [if_pos g4]
          exact key 1 (by rw [if_pos g4])
        · simp only [if_neg g4]
          exact key 0 (by rw [if_neg g4])
    · simp only [if_pos g1, if_neg g2, if_neg zz_n10, if_pos zz_00, if_true]
      exact no
  · simp only [if_neg g1, if_pos zz_00, if_true]
    exact no
end RowC
