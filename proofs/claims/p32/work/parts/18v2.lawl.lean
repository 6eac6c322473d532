/-! THE LAW in the reference, with its clauses: what is said is copied -/
def zl_ak (a2 bs bl bf bh bt bc bcl bcf bch bct : Nat) : Prop := (a2 ≠ bc ∧ a2 ≠ bcl ∧ a2 ≠ bcf ∧ a2 ≠ bch ∧ a2 ≠ bct) ∧ (bl ≠ bc ∧ bl ≠ bcl ∧ bl ≠ bcf ∧ bl ≠ bch ∧ bl ≠ bct) ∧ (bf ≠ bc ∧ bf ≠ bcl ∧ bf ≠ bcf ∧ bf ≠ bch ∧ bf ≠ bct) ∧ (bh ≠ bc ∧ bh ≠ bcl ∧ bh ≠ bcf ∧ bh ≠ bch ∧ bh ≠ bct) ∧ (bt ≠ bc ∧ bt ≠ bcl ∧ bt ≠ bcf ∧ bt ≠ bch ∧ bt ≠ bct) ∧ bs ≠ bc ∧ (bc ≠ bcl ∧ bc ≠ bcf ∧ bc ≠ bch ∧ bc ≠ bct) ∧ (bcl ≠ bcf ∧ bcl ≠ bch ∧ bcl ≠ bct) ∧ (bcf ≠ bch ∧ bcf ≠ bct) ∧ bch ≠ bct
section LawL
variable {T : Nat → Int} {a2 tb bs bw bl bf bh bt bc bcl bcf bch bct : Nat} {n p c m e M : Int} {w v y : fx_U}
theorem zl_c138s (hk : zl_ak a2 bs bl bf bh bt bc bcl bcf bch bct) : ∀ (f : Nat) (k : Int) (u : fx_U), M - k < (f : Int) → 0 < f → 0 ≤ k → u a2 22 = (bcl : Int) → u a2 17 = (bl : Int) → ∃ Z : fx_U, kL_X12_law_138 M a2 bf bcf bh bch bt bct f k u = (M, Z) ∧ (∀ j : Nat, k ≤ (j : Int) → (j : Int) < M → Z bcl j = u bl j ∧ Z bcf j = u bf j ∧ Z bch j = u bh j ∧ Z bct j = u bt j) ∧ (∀ j : Nat, (j : Int) < k → Z bcl j = u bcl j ∧ Z bcf j = u bcf j ∧ Z bch j = u bch j ∧ Z bct j = u bct j) ∧ ∀ b : Nat, b ≠ bcl → b ≠ bcf → b ≠ bch → b ≠ bct → ∀ i : Nat, Z b i = u b i := by
  obtain ⟨⟨-, A1, A2, A3, A4⟩, ⟨-, L1, L2, L3, L4⟩, ⟨-, F1, F2, F3, F4⟩, ⟨-, H1, H2, H3, H4⟩, ⟨-, T1, T2, T3, T4⟩, -, -, ⟨c12, c13, c14⟩, ⟨c23, c24⟩, c34⟩ := hk
  intro f
  induction f with
  | zero => intro k u _ h; omega
  | succ f ih =>
    intro k u hf _ k0 h22 h17
    have eK : kL_X12_law_138 M a2 bf bcf bh bch bt bct (f + 1) k u = kB_X12_law_138 (kL_X12_law_138 M a2 bf bcf bh bch bt bct f) M a2 bf bcf bh bch bt bct k u := rfl
    by_cases g : k < M
    · obtain ⟨U, hU⟩ : ∃ U : fx_U, U = fx_pt (fx_pt (fx_pt (fx_pt u bcl k.toNat (u bl k.toNat)) bcf k.toNat (u bf k.toNat)) bch k.toNat (u bh k.toNat)) bct k.toNat (u bt k.toNat) := ⟨_, rfl⟩
      have st : kL_X12_law_138 M a2 bf bcf bh bch bt bct (f + 1) k u = kL_X12_law_138 M a2 bf bcf bh bch bt bct f (k + 1) U := by
        rw [eK]
        unfold kB_X12_law_138
        simp only [fz_lt, fz_lr, fz_ls, if_pos g, h22, h17, Int.toNat_natCast, zz_pa F1, zz_pa H1, zz_pa H2, zz_pa T1, zz_pa T2, zz_pa T3, ← hU]
      have Uj : ∀ b i : Nat, i ≠ k.toNat → U b i = u b i := fun b i h => by
        rw [hU]
        exact (zz_pj h).trans ((zz_pj h).trans ((zz_pj h).trans (zz_pj h)))
      have Ub : ∀ b i : Nat, b ≠ bcl → b ≠ bcf → b ≠ bch → b ≠ bct → U b i = u b i := fun b i h1 h2 h3 h4 => by
        rw [hU]
        exact (zz_pa h4).trans ((zz_pa h3).trans ((zz_pa h2).trans (zz_pa h1)))
      obtain ⟨Z, z1, z2, z3, z4⟩ := ih (k + 1) U (by omega) (by omega) (by omega) ((Ub a2 22 A1 A2 A3 A4).trans h22) ((Ub a2 17 A1 A2 A3 A4).trans h17)
      refine ⟨Z, st.trans z1, fun j hj hM => ?_, fun j hj => ?_, fun b h1 h2 h3 h4 i => (z4 b h1 h2 h3 h4 i).trans (Ub b i h1 h2 h3 h4)⟩
      · by_cases q : (j : Int) = k
        · have qj : j = k.toNat := by omega
          obtain ⟨x1, x2, x3, x4⟩ := z3 j (by omega)
          rw [x1, x2, x3, x4, qj, hU]
          exact ⟨(zz_pa c14).trans ((zz_pa c13).trans ((zz_pa c12).trans zz_ps)), (zz_pa c24).trans ((zz_pa c23).trans zz_ps), (zz_pa c34).trans zz_ps, zz_ps⟩
        · obtain ⟨x1, x2, x3, x4⟩ := z2 j (by omega) hM
          exact ⟨x1.trans (Ub bl j L1 L2 L3 L4), x2.trans (Ub bf j F1 F2 F3 F4), x3.trans (Ub bh j H1 H2 H3 H4), x4.trans (Ub bt j T1 T2 T3 T4)⟩
      · obtain ⟨x1, x2, x3, x4⟩ := z3 j (by omega)
        have q : j ≠ k.toNat := by omega
        exact ⟨x1.trans (Uj bcl j q), x2.trans (Uj bcf j q), x3.trans (Uj bch j q), x4.trans (Uj bct j q)⟩
    · refine ⟨u, ?_, fun j h1 h2 => absurd h2 (by omega), fun j _ => ⟨rfl, rfl, rfl, rfl⟩, fun _ _ _ _ _ _ => rfl⟩
      rw [eK]
      unfold kB_X12_law_138
      rw [if_neg g]
theorem zl_c110s (hk : bs ≠ bc) : ∀ (f : Nat) (k : Int) (u : fx_U), c - k < (f : Int) → 0 < f → 0 ≤ k → ∃ Z : fx_U, kL_X12_law_110 c bs bc M a2 bf bcf bh bch bt bct f k u = kL_X12_law_138 M a2 bf bcf bh bch bt bct 17 0 Z ∧ (∀ i : Nat, k ≤ (i : Int) → (i : Int) < c → Z bc i = u bs i) ∧ (∀ i : Nat, (i : Int) < k → Z bc i = u bc i) ∧ ∀ b : Nat, b ≠ bc → ∀ i : Nat, Z b i = u b i := by
  intro f
  induction f with
  | zero => intro k u _ h; omega
  | succ f ih =>
    intro k u hf _ k0
    have eK : kL_X12_law_110 c bs bc M a2 bf bcf bh bch bt bct (f + 1) k u = kB_X12_law_110 (kL_X12_law_110 c bs bc M a2 bf bcf bh bch bt bct f) c bs bc M a2 bf bcf bh bch bt bct k u := rfl
    by_cases g : k < c
    · obtain ⟨U, hU⟩ : ∃ U : fx_U, U = fx_pt u bc k.toNat (u bs k.toNat) := ⟨_, rfl⟩
      have st : kL_X12_law_110 c bs bc M a2 bf bcf bh bch bt bct (f + 1) k u = kL_X12_law_110 c bs bc M a2 bf bcf bh bch bt bct f (k + 1) U := by
        rw [eK]
        unfold kB_X12_law_110
        simp only [fz_lt, fz_ls, if_pos g, ← hU]
      obtain ⟨Z, z1, z2, z3, z4⟩ := ih (k + 1) U (by omega) (by omega) (by omega)
      refine ⟨Z, st.trans z1, fun i hi hM => ?_, fun i hi => ?_, fun b h i => (z4 b h i).trans (by rw [hU]; exact zz_pa h)⟩
      · by_cases q : (i : Int) = k
        · have qi : i = k.toNat := by omega
          rw [z3 i (by omega), qi, hU]
          exact zz_ps
        · rw [z2 i (by omega) hM, hU]
          exact zz_pa hk
      · rw [z3 i (by omega), hU]
        exact zz_pj (by omega)
    · refine ⟨u, ?_, fun j h1 h2 => absurd h2 (by omega), fun j _ => rfl, fun _ _ _ => rfl⟩
      rw [eK]
      unfold kB_X12_law_110
      rw [if_neg g, show Int.toNat (16 - 0) + 1 = 17 from rfl]
theorem zl_ce_to {u u1 : fx_U} (k : ∀ i : Nat, (i : Int) < e → u1 bc i = u bs i) : ∀ (a : List (Int × Int)) (s : Int), 0 ≤ s → s + (a.length : Int) ≤ e → zl_ce bs u s a → zl_ce bc u1 s a
  | [], _, _, _, _ => True.intro
  | x :: cs, s, h0, h1, h => by
    rw [List.length_cons] at h1
    exact ⟨(k s.toNat (by omega)).trans h.1, zl_ce_to k cs (s + 1) (by omega) (by omega) h.2⟩
theorem zl_Lr_to {Z : fx_U} (he : e ≤ 260) (hc : ∀ i : Nat, (i : Int) < e → Z bc i = y bs i) : ∀ (R : zl_L) (j : Nat), (∀ i : Nat, j ≤ i → i < j + R.length → Z bcl i = y bl i ∧ Z bcf i = y bf i ∧ Z bch i = y bh i ∧ Z bct i = y bt i) → zl_Lr bl bf bh bt bs e y j R → zv_Lr bcl bcf bch bct bc Z j R
  | [], _, _, _ => True.intro
  | x :: R, j, h, ⟨⟨a1, ⟨a3, a4⟩, a5, ⟨a6, a7⟩, a8⟩, k⟩ => by
    rw [List.length_cons] at h
    obtain ⟨r1, r2, r3, r4⟩ := h j (Nat.le_refl j) (by omega)
    refine ⟨⟨r1.trans a1, ⟨by omega, by omega⟩, ?_, ⟨by omega, by omega⟩, ?_⟩, zl_Lr_to he hc R (j + 1) (fun i h1 h2 => h i (by omega) (by omega)) k⟩
    · rw [r2]
      exact zl_ce_to hc _ _ a3 (by omega) a5
    · rw [r3]
      exact zl_ce_to hc _ _ (by omega) (by omega) a8
/-- all that was said comes into force -/
theorem zl_cpy {R : zl_L} (hk : zl_ak a2 bs bl bf bh bt bc bcl bcf bch bct) (he : 0 ≤ e ∧ e ≤ 240) (hM : M = (R.length : Int)) (hM2 : M ≤ 16) (h22 : y a2 22 = (bcl : Int)) (h17 : y a2 17 = (bl : Int)) (hL : zl_Lr bl bf bh bt bs e y 0 R) : ∃ Z : fx_U, kL_X12_law_110 e bs bc M a2 bf bcf bh bch bt bct 261 0 y = (M, Z) ∧ zv_Lr bcl bcf bch bct bc Z 0 R ∧ ∀ b : Nat, b ≠ bc → b ≠ bcl → b ≠ bcf → b ≠ bch → b ≠ bct → ∀ i : Nat, Z b i = y b i := by
  have hk0 := hk
  obtain ⟨⟨A0, A1, A2, A3, A4⟩, ⟨L0, L1, L2, L3, L4⟩, ⟨F0, F1, F2, F3, F4⟩, ⟨H0, H1, H2, H3, H4⟩, ⟨T0, T1, T2, T3, T4⟩, s0, ⟨d1, d2, d3, d4⟩, -⟩ := hk
  obtain ⟨Y, y1, y2, -, y4⟩ := zl_c110s (c := e) (M := M) (a2 := a2) (bf := bf) (bcf := bcf) (bh := bh) (bch := bch) (bt := bt) (bct := bct) s0 261 0 y (by omega) (by decide) (Int.le_refl 0)
  obtain ⟨Z, z1, z2, -, z4⟩ := zl_c138s hk0 17 0 Y (M := M) (by omega) (by decide) (Int.le_refl 0) ((y4 a2 A0 22).trans h22) ((y4 a2 A0 17).trans h17)
  refine ⟨Z, y1.trans z1, zl_Lr_to (e := e) (by omega) (fun i hi => ?_) R 0 (fun i _ hi => ?_) hL, fun b h0 h1 h2 h3 h4 i => (z4 b h1 h2 h3 h4 i).trans (y4 b h0 i)⟩
  · exact (z4 bc d1 d2 d3 d4 i).trans (y2 i (by omega) hi)
  · obtain ⟨x1, x2, x3, x4⟩ := z2 i (by omega) (by omega)
    exact ⟨x1.trans (y4 bl L0 i), x2.trans (y4 bf F0 i), x3.trans (y4 bh H0 i), x4.trans (y4 bt T0 i)⟩
theorem zl_Y0s {F : Nat} : zl_Y a2 bs bc bf bcf bh bch bt bct (F + 1) (0, y) = (y a2 7, fx_pt y a2 4 0) := by
  have eK : zl_Y a2 bs bc bf bcf bh bch bt bct (F + 1) (0, y) = kB_X12_law_46 (kL_X12_law_46 a2 bs bc bf bcf bh bch bt bct F) a2 bs bc bf bcf bh bch bt bct 0 y (y a2 10) (y a2 11) (y a2 5) (y a2 12) := rfl
  have e7 : fx_pt y a2 4 0 a2 7 = y a2 7 := zz_pj (by decide)
  rw [eK]
  unfold kB_X12_law_46 kJ_X12_law_86
  simp only [if_true, fz_lt, fz_ls, e7]
theorem zl_15 (h : (zl_K T n m p).1 = 0) (hm : m ≤ 16) : m < 16 := by
  by_cases q : m = 16
  · exfalso
    unfold zl_K at h
    rw [q] at h
    by_cases L : zz_pk T n p = 112 ∨ zz_pk T n p = 100 ∨ zz_pk T n p = 115 ∨ zz_pk T n p = 111 ∨ zz_pk T n p = 108
    · rw [if_pos L, if_pos rfl] at h
      exact absurd h (show ¬ ((4 : Int) = 0) by decide)
    · rw [if_neg L] at h
      exact absurd h (show ¬ ((1 : Int) = 0) by decide)
  · omega
/-- the reference reads the law: what it says -/
theorem zl_rL2 (ha : zl_aq a2 tb bs bw) (hb : zl_ar a2 tb bl bf bh bt) (hs : zl_as bs bw bl bf bh bt) (hn : n ≤ 240) : ∀ (f F : Nat) (m p c : Int) (w : fx_U), 16 - m < (f : Int) → n - p + 1 < (F : Int) → zl_D0 T a2 tb bs bw n p c w → zl_B a2 bl bf bh bt m w → 0 ≤ p → p ≤ n → 0 ≤ c → c ≤ p → 0 ≤ m → m ≤ 16 →
    (zl_law T n f m p < 0 ∧ ∃ y : fx_U, zl_Y a2 bs bc bf bcf bh bch bt bct F (f_X12_readsClause w a2) = (zl_law T n f m p, fx_pt y a2 4 0) ∧ zl_f0 a2 bs bw bl bf bh bt m c w y) ∨ (0 < zl_law T n f m p ∧ ∃ (y : fx_U) (e : Int), zl_Y a2 bs bc bf bcf bh bch bt bct F (f_X12_readsClause w a2) = kL_X12_law_110 e bs bc (zl_law T n f m p) a2 bf bcf bh bch bt bct 261 0 (fx_pt (fx_pt y a2 4 0) a2 13 (zl_law T n f m p)) ∧ zl_f0 a2 bs bw bl bf bh bt m c w y ∧ zl_Lr bl bf bh bt bs e y m.toNat (zl_cls T n f m p) ∧ (c ≤ e ∧ e ≤ n) ∧ zl_law T n f m p = m + ((zl_cls T n f m p).length : Int) ∧ zl_law T n f m p ≤ 16) := by
  intro f
  induction f with
  | zero => intro F m p c w h1 _ _ _ _ _ _ _ _ h; omega
  | succ f ih =>
    intro F m p c w hf hF hD hB h0 h1 hc hcp hm0 hm
    obtain ⟨G, rfl⟩ : ∃ G : Nat, F = G + 1 := ⟨F - 1, by omega⟩
    have kg := zl_K_g (T := T) (m := m) h0 h1
    unfold zl_law zl_cls
    rcases zl_rK2 ha hb hs hn hD hB h0 h1 hc hcp hm0 with ⟨a1, y, a3, a4, a5⟩ | ⟨a1, y, a3, a4, a5, a6, a7⟩
    · have ng := zz_ft_neg (k := (zl_K T n m p).1) (p := (zl_K T n m p).2.1) (by have := kg.2.2; omega) (by have := kg.1; omega)
      rw [if_neg a1, a3, zl_Y0s, a4]
      exact Or.inl ⟨ng, y, rfl, a5⟩
    · obtain ⟨z1, z2⟩ := kg.2.1 a1
      have zp := kg.1
      have m15 := zl_15 a1 hm
      rw [if_pos a1, a3]
      have hh := zl_hr0 a4 (show 0 ≤ (zl_K T n m p).2.1 by omega)
      have eK : zl_Y a2 bs bc bf bcf bh bch bt bct (G + 1) (1, y) = kB_X12_law_46 (kL_X12_law_46 a2 bs bc bf bcf bh bch bt bct G) a2 bs bc bf bcf bh bch bt bct 1 y (y a2 10) (y a2 11) (y a2 5) (y a2 12) := rfl
      obtain ⟨P, hP⟩ : ∃ P : Int, P = (zl_K T n m p).2.1 := ⟨_, rfl⟩
      obtain ⟨c1, hc1⟩ : ∃ c1 : Int, c1 = c + ((zl_K T n m p).2.2.length : Int) := ⟨_, rfl⟩
      rw [← hc1] at a4 a7
      rw [← hP] at a4 z1 z2 zp hh ⊢
      by_cases q : P < n
      · rw [if_pos q, if_pos q]
        by_cases s : zz_pk T n P = 59
        · rw [if_pos s]
          have tk : f_X12_takes y a2 59 = (1, fx_pt y a2 5 (P + 1)) := by
            unfold f_X12_takes
            simp only [fz_lt, fz_ls, hh, if_pos s, a4.2.1.1]
          obtain ⟨y1, hy1⟩ : ∃ x : fx_U, x = fx_pt y a2 5 (P + 1) := ⟨_, rfl⟩
          rw [← hy1] at tk
          have D1 : zl_D0 T a2 tb bs bw n (P + 1) c1 y1 := by
            rw [hy1]
            exact ⟨⟨(zz_pj (by decide)).trans a4.1.1, (zz_pj (by decide)).trans a4.1.2.1, (zz_pj (by decide)).trans a4.1.2.2.1, (zz_pj (by decide)).trans a4.1.2.2.2⟩, ⟨zz_ps, (zz_pj (by decide)).trans a4.2.1.2⟩, fun i hi => by rw [zz_pa ha.1.1]; exact a4.2.2 i hi⟩
          have B1 : zl_B a2 bl bf bh bt (m + 1) y1 := by
            rw [hy1]
            exact ⟨⟨(zz_pj (by decide)).trans a5.1.1, (zz_pj (by decide)).trans a5.1.2.1, (zz_pj (by decide)).trans a5.1.2.2.1, (zz_pj (by decide)).trans a5.1.2.2.2⟩, (zz_pj (by decide)).trans a5.2⟩
          have f1 : zl_f0 a2 bs bw bl bf bh bt (m + 1) c1 y y1 := by
            rw [hy1]
            exact zl_f0.pt ha hb (by decide)
          have st : zl_Y a2 bs bc bf bcf bh bch bt bct (G + 1) (1, y) = zl_Y a2 bs bc bf bcf bh bch bt bct G (f_X12_readsClause y1 a2) := by
            rw [eK]
            rcases zl_rK ha hb hn D1 B1 (by omega) (by omega) (by omega) (by omega) with ⟨-, x, b3, -⟩ | ⟨-, x, b3, -⟩
            · rw [b3]
              unfold kB_X12_law_46 kJ_X12_law_81 kJ_X12_law_82
              simp only [fz_lt, fz_lc, if_neg zz_n10, a4.1.2.1, a4.2.1.1, if_pos q, tk, b3, if_true]
              rfl
            · rw [b3]
              unfold kB_X12_law_46 kJ_X12_law_81 kJ_X12_law_82
              simp only [fz_lt, fz_lc, if_neg zz_n10, a4.1.2.1, a4.2.1.1, if_pos q, tk, b3]
              rfl
          rw [st]
          rcases ih G (m + 1) (P + 1) c1 y1 (by omega) (by omega) D1 B1 (by omega) (by omega) (by omega) (by omega) (by omega) (by omega) with ⟨g1, x, g2, g3⟩ | ⟨g1, x, e, g2, g3, g4, g5, g6, g7⟩
          · exact Or.inl ⟨g1, x, g2, (a6.tr f1 (by omega) (by omega)).tr g3 (by omega) (by omega)⟩
          · have f2 := f1.tr g3 (by omega) (by omega)
            refine Or.inr ⟨g1, x, e, g2, a6.tr f2 (by omega) (by omega), ⟨a7.mv (by omega) (f2.2.2.1 m.toNat (by omega)) f2.2.2.2, ?_⟩, ⟨by omega, g5.2⟩, ?_, g7⟩
            · rw [show m.toNat + 1 = (m + 1).toNat by omega]
              exact g4
            · rw [List.length_cons]
              omega
        · rw [if_neg s]
          have ng := zz_ft_neg (k := 1) (p := P) (by decide) (by omega)
          have tk : f_X12_takes y a2 59 = (0, fx_pt y a2 7 (zz_ft 1 P)) := by
            unfold f_X12_takes
            simp only [fz_lt, fz_lc, hh, if_neg s, a4.2.1.1, zz_wrong]
          obtain ⟨H, rfl⟩ : ∃ H : Nat, G = H + 1 := ⟨G - 1, by omega⟩
          have zY := zl_Y0s (a2 := a2) (bs := bs) (bf := bf) (bh := bh) (bt := bt) (bc := bc) (bcf := bcf) (bch := bch) (bct := bct) (F := H) (y := fx_pt y a2 7 (zz_ft 1 P))
          rw [zz_ps] at zY
          refine Or.inl ⟨ng, fx_pt y a2 7 (zz_ft 1 P), ?_, a6.tr (zl_f0.pt (m := m) (c := c) ha hb (by decide)) (by omega) (by omega)⟩
          rw [← zY, eK]
          unfold kB_X12_law_46 kJ_X12_law_81 kJ_X12_law_82
          simp only [fz_lt, fz_lc, if_neg zz_n10, a4.1.2.1, a4.2.1.1, if_pos q, tk, if_true]
          rfl
      · rw [if_neg q, if_neg q]
        refine Or.inr ⟨by omega, y, c1, ?_, a6, ⟨a7, True.intro⟩, ⟨by omega, by omega⟩, ?_, by omega⟩
        · rw [eK]
          unfold kB_X12_law_46 kJ_X12_law_86
          simp only [fz_lt, fz_ls, if_neg zz_n10, a4.1.2.1, a4.2.1.1, if_neg q, a5.2, a4.2.1.2]
          rw [show Int.toNat (260 - 0) + 1 = 261 from rfl]
        · rfl
end LawL
