/-! THE LAW'S CLAUSES as the class keeps them -/
def zl_ad (sg vl l5 l6 l7 : Nat) : Prop := (sg ≠ l5 ∧ sg ≠ l6 ∧ sg ≠ l7) ∧ (vl ≠ l5 ∧ vl ≠ l6 ∧ vl ≠ l7) ∧ l5 ≠ l6 ∧ l5 ≠ l7 ∧ l6 ≠ l7
def zl_fE (q la sg vl l5 l6 l7 : Nat) (u w : fx_U) : Prop := (∀ b : Nat, b ≠ q → b ≠ la → b ≠ sg → b ≠ vl → b ≠ l5 → b ≠ l6 → b ≠ l7 → ∀ i : Nat, w b i = u b i) ∧ (∀ j : Nat, 3 ≤ j → w la j = u la j) ∧ ∀ j : Nat, j ≠ 2 → j ≠ 3 → w q j = u q j
def zl_fK (l5 l6 l7 : Nat) (m : Int) (u w : fx_U) : Prop := ∀ j : Nat, (j : Int) < m → w l5 j = u l5 j ∧ w l6 j = u l6 j ∧ w l7 j = u l7 j
def zl_amR : zl_L → Int → Int
  | [], x => x
  | k :: R, x => zl_amR R (zl_am k.2.2 (zl_am k.2.1 x))
section LawM
variable {T : Nat → Int} {q la sg vl ta l5 l6 l7 : Nat} {n p s s2 m m2 N N2 : Int} {u w y : fx_U}
theorem zl_fE.rf : zl_fE q la sg vl l5 l6 l7 u u := ⟨fun _ _ _ _ _ _ _ _ _ => rfl, fun _ _ => rfl, fun _ _ _ => rfl⟩
theorem zl_fE.tr (h : zl_fE q la sg vl l5 l6 l7 u w) (k : zl_fE q la sg vl l5 l6 l7 w y) : zl_fE q la sg vl l5 l6 l7 u y := ⟨fun b q1 q2 q3 q4 q5 q6 q7 i => (k.1 b q1 q2 q3 q4 q5 q6 q7 i).trans (h.1 b q1 q2 q3 q4 q5 q6 q7 i), fun j hj => (k.2.1 j hj).trans (h.2.1 j hj), fun j h1 h2 => (k.2.2 j h1 h2).trans (h.2.2 j h1 h2)⟩
theorem zl_fE.el (k : zl_el q la sg vl u w) : zl_fE q la sg vl l5 l6 l7 u w := ⟨fun b q1 q2 q3 q4 _ _ _ i => k.1 b q1 q2 q3 q4 i, fun j hj => k.2.1 j (by omega) (by omega), k.2.2⟩
theorem zl_fE.row {b j : Nat} {x : Int} (h : b = l5 ∨ b = l6 ∨ b = l7) (h1 : la ≠ b) (h2 : q ≠ b) : zl_fE q la sg vl l5 l6 l7 u (fx_pt u b j x) := by
  refine ⟨fun d _ _ _ _ q5 q6 q7 i => zz_pa ?_, fun j _ => zz_pa h1, fun j _ _ => zz_pa h2⟩
  rcases h with h | h | h <;> rw [h] <;> assumption
theorem zl_fE.l0 (hq : q ≠ la) {j : Nat} {x : Int} (hj : j < 3) : zl_fE q la sg vl l5 l6 l7 u (fx_pt u la j x) := ⟨fun d _ h _ _ _ _ _ i => zz_pa h, fun i hi => zz_pj (by omega), fun i _ _ => zz_pa hq⟩
theorem zl_fK.tr (h : zl_fK l5 l6 l7 m u w) (k : zl_fK l5 l6 l7 m2 w y) (hm : m ≤ m2) : zl_fK l5 l6 l7 m u y := fun j hj => by
  obtain ⟨a1, a2, a3⟩ := h j hj
  obtain ⟨b1, b2, b3⟩ := k j (by omega)
  exact ⟨b1.trans a1, b2.trans a2, b3.trans a3⟩
theorem zl_fK.el (ha : zl_ap q la sg vl ta) (hb : zl_ac q la ta l5 l6 l7) (hd : zl_ad sg vl l5 l6 l7) (k : zl_el q la sg vl u w) : zl_fK l5 l6 l7 m u w := by
  obtain ⟨⟨q5, q6, q7⟩, ⟨a5, a6, a7⟩, -⟩ := hb
  obtain ⟨⟨g5, g6, g7⟩, ⟨v5, v6, v7⟩, -⟩ := hd
  exact fun j _ => ⟨k.1 l5 (Ne.symm q5) (Ne.symm a5) (Ne.symm g5) (Ne.symm v5) j, k.1 l6 (Ne.symm q6) (Ne.symm a6) (Ne.symm g6) (Ne.symm v6) j, k.1 l7 (Ne.symm q7) (Ne.symm a7) (Ne.symm g7) (Ne.symm v7) j⟩
theorem zl_fK.row {b j : Nat} {x : Int} (hj : m ≤ (j : Int)) : zl_fK l5 l6 l7 m u (fx_pt u b j x) := fun i hi => by
  have h : i ≠ j := by omega
  exact ⟨zz_pj h, zz_pj h, zz_pj h⟩
theorem zl_fK.o {b j : Nat} {x : Int} (h5 : l5 ≠ b) (h6 : l6 ≠ b) (h7 : l7 ≠ b) : zl_fK l5 l6 l7 m u (fx_pt u b j x) := fun _ _ => ⟨zz_pa h5, zz_pa h6, zz_pa h7⟩
theorem zl_st.tr (h : zl_st sg vl s u w) (k : zl_st sg vl s2 w y) (hs : s ≤ s2) : zl_st sg vl s u y := fun i hi => by
  obtain ⟨a1, a2⟩ := h i hi
  obtain ⟨b1, b2⟩ := k i (by omega)
  exact ⟨b1.trans a1, b2.trans a2⟩
theorem zl_st.o {b j : Nat} {x : Int} (h1 : sg ≠ b) (h2 : vl ≠ b) : zl_st sg vl s u (fx_pt u b j x) := fun _ _ => ⟨zz_pa h1, zz_pa h2⟩
/-- what is kept of the clauses stays -/
theorem zv_Lc_mv (hN : N ≤ N2) (hc : zl_st sg vl N u w) : ∀ (R : zl_L) (j : Nat), (∀ i : Nat, j ≤ i → i < j + R.length → w l5 i = u l5 i ∧ w l6 i = u l6 i ∧ w l7 i = u l7 i) → zv_Lc sg vl l5 l6 l7 N u j R → zv_Lc sg vl l5 l6 l7 N2 w j R
  | [], _, _, _ => True.intro
  | x :: R, j, h, ⟨⟨a1, ⟨a2, a3⟩, a4, ⟨a5, a6⟩, a7⟩, k⟩ => by
    rw [List.length_cons] at h
    obtain ⟨r1, r2, r3⟩ := h j (Nat.le_refl j) (by omega)
    refine ⟨⟨r1.trans a1, ⟨by omega, by omega⟩, ?_, ⟨by omega, by omega⟩, ?_⟩, zv_Lc_mv hN hc R (j + 1) (fun i h1 h2 => h i (by omega) (by omega)) k⟩
    · rw [r2]
      refine zl_cd_keep hc _ _ a2 ?_ a4
      rw [List.length_append]
      show u l6 j + ((x.2.1.length + 1 : Nat) : Int) ≤ N
      omega
    · rw [r3]
      refine zl_cd_keep hc _ _ a5 ?_ a7
      rw [List.length_append]
      show u l7 j + ((x.2.2.length + 1 : Nat) : Int) ≤ N
      omega
/-- the class reads a clause: what it keeps, and what stays -/
theorem zl_cK2 (ha : zl_ap q la sg vl ta) (hb : zl_ac q la ta l5 l6 l7) (hd : zl_ad sg vl l5 l6 l7) (hn : n ≤ 240) (hC : zl_C T q la sg vl ta n p s u) (hB : zl_Bc q la l5 l6 l7 m u) (h0 : 0 ≤ p) (h1 : p ≤ n) (hs : 0 ≤ s) (hsp : s ≤ p) (hm : 0 ≤ m) (hm2 : m ≤ 16) :
    ((zl_K T n m p).1 ≠ 0 ∧ ∃ y : fx_U, f_X4_readClause u q m = (0, y) ∧ y q 3 = zz_ft (zl_K T n m p).1 (zl_K T n m p).2.1 ∧ zl_fE q la sg vl l5 l6 l7 u y) ∨ ((zl_K T n m p).1 = 0 ∧ ∃ (y : fx_U) (s2 : Int), f_X4_readClause u q m = (1, y) ∧ zl_C T q la sg vl ta n (zl_K T n m p).2.1 s2 y ∧ (s ≤ s2 ∧ s2 ≤ (zl_K T n m p).2.1) ∧ zl_Bc q la l5 l6 l7 (m + 1) y ∧ zl_fE q la sg vl l5 l6 l7 u y ∧ zl_fK l5 l6 l7 m u y ∧ zl_st sg vl s u y ∧ zv_Lc sg vl l5 l6 l7 s2 y m.toNat [zl_kk T n p] ∧ y la 2 = zl_am (zl_kk T n p).2.2 (zl_am (zl_kk T n p).2.1 (u la 2))) := by
  have hb0 := hb
  have hd0 := hd
  obtain ⟨⟨q5, q6, q7⟩, ⟨a5, a6, a7⟩, t5, t6, t7⟩ := hb
  obtain ⟨⟨g5, g6, g7⟩, ⟨v5, v6, v7⟩, l56, l57, l67⟩ := hd
  have pk := zl_peek hC h0
  have mN : m ≤ ((m.toNat : Nat) : Int) := by omega
  unfold zl_K
  by_cases L : zz_pk T n p = 112 ∨ zz_pk T n p = 100 ∨ zz_pk T n p = 115 ∨ zz_pk T n p = 111 ∨ zz_pk T n p = 108
  · have hp := zz_pk_lt (T := T) (n := n) (p := p) (by omega)
    rw [if_pos L]
    have e0 : f_X4_readClause u q m = kJ_X4_readClause_41 m u q (zz_pk T n p) := by
      unfold f_X4_readClause
      simp only [fz_lt, fz_lr, pk]
      by_cases g1 : zz_pk T n p = 112
      · rw [if_pos g1]
      · by_cases g2 : zz_pk T n p = 100
        · rw [if_neg g1, if_pos g2]
        · by_cases g3 : zz_pk T n p = 115
          · rw [if_neg g1, if_neg g2, if_pos g3]
          · by_cases g4 : zz_pk T n p = 111
            · rw [if_neg g1, if_neg g2, if_neg g3, if_pos g4]
            · rw [if_neg g1, if_neg g2, if_neg g3, if_neg g4, if_pos (by omega)]
    rw [e0]
    by_cases m16 : m = 16
    · rw [if_pos m16]
      refine Or.inl ⟨(show ¬ ((4 : Int) = 0) by decide), fx_pt u q 3 (zz_ft 4 p), ?_, zz_ps, zl_fE.el (zl_el.pq ha (Or.inr rfl))⟩
      unfold kJ_X4_readClause_41
      simp only [fz_lc, zl_fail hC.2.1]
      rw [if_neg (by omega)]
    · rw [if_neg m16]
      have m15 : m < 16 := by omega
      have one := zl_one hC.2.1 ⟨h0, by omega⟩
      have c1 := hC.pq ha (x := p + 1)
      have b1 := hB.pq ha (x := p + 1)
      have k0 : zl_el q la sg vl u (fx_pt u q 2 (p + 1)) := zl_el.pq ha (Or.inl rfl)
      obtain ⟨u1, hu1⟩ : ∃ x : fx_U, x = fx_pt u q 2 (p + 1) := ⟨_, rfl⟩
      rw [← hu1] at c1 b1 k0
      have c2 := ((c1.ot q5 a5 t5 (j := m.toNat) (x := zz_pk T n p)).ot q6 a6 t6 (j := m.toNat) (x := s))
      have b2 := ((b1.ot q5 a5 (j := m.toNat) (x := zz_pk T n p)).ot q6 a6 (j := m.toNat) (x := s))
      obtain ⟨u2, hu2⟩ : ∃ x : fx_U, x = fx_pt (fx_pt (fx_pt u1 l5 m.toNat (zz_pk T n p)) l6 m.toNat s) la 0 (m + 1) := ⟨_, rfl⟩
      have n1 := ha.2.1.1
      have n2 := ha.1.2.1
      have G1 := ha.2.2.2.1.2.1
      have G0 := ha.2.2.2.1.1
      have V0 := ha.2.2.2.2.1
      have V1 := ha.2.2.2.2.2.1
      have E2 : zl_fE q la sg vl l5 l6 l7 u u2 := by
        rw [hu2]
        exact (((zl_fE.el k0).tr (zl_fE.row (Or.inl rfl) a5 q5)).tr (zl_fE.row (Or.inr (Or.inl rfl)) a6 q6)).tr (zl_fE.l0 n1 (by decide))
      have K2 : zl_fK l5 l6 l7 m u u2 := by
        rw [hu2]
        exact (((zl_fK.el (m := m) ha hb0 hd0 k0).tr (zl_fK.row (m := m) mN) (Int.le_refl m)).tr (zl_fK.row (m := m) mN) (Int.le_refl m)).tr (zl_fK.o (m := m) (Ne.symm a5) (Ne.symm a6) (Ne.symm a7)) (Int.le_refl m)
      have S2 : zl_st sg vl s u u2 := by
        rw [hu2, hu1]
        exact (((zl_st.o (s := s) G0 V0).tr (zl_st.o (s := s) g5 v5) (Int.le_refl s)).tr (zl_st.o (s := s) g6 v6) (Int.le_refl s)).tr (zl_st.o (s := s) G1 V1) (Int.le_refl s)
      have u25 : u2 l5 m.toNat = zz_pk T n p := by
        rw [hu2]
        exact (zz_pa (Ne.symm a5)).trans ((zz_pa l56).trans zz_ps)
      have u26 : u2 l6 m.toNat = s := by
        rw [hu2]
        exact (zz_pa (Ne.symm a6)).trans zz_ps
      have ul2 : u2 la 2 = u la 2 := by
        rw [hu2, hu1]
        exact (zz_pj (by decide)).trans ((zz_pa a6).trans ((zz_pa a5).trans (zz_pa (Ne.symm n1))))
      have c3 : zl_C T q la sg vl ta n (p + 1) s u2 := by
        obtain ⟨⟨x1, x2, x3, x4, x5⟩, y1, y2, z1⟩ := c2
        rw [hu2]
        exact ⟨⟨(zz_pa n1).trans x1, (zz_pa n1).trans x2, (zz_pa n1).trans x3, (zz_pj (by decide)).trans x4, (zz_pj (by decide)).trans x5⟩, (zz_pa n1).trans y1, (zz_pj (by decide)).trans y2, fun i hi => (zz_pa n2).trans (z1 i hi)⟩
      have b3 : zl_Bc q la l5 l6 l7 (m + 1) u2 := by
        obtain ⟨⟨x1, x2, x3⟩, x4, x5⟩ := b2
        rw [hu2]
        exact ⟨⟨(zz_pj (by decide)).trans x1, (zz_pj (by decide)).trans x2, (zz_pj (by decide)).trans x3⟩, zz_ps, (zz_pa n1).trans x5⟩
      have eB : f_X3_beginClause u1 la (zz_pk T n p) = u2 := by
        have x1 : u1 la 0 = m := b1.2.1
        have x2 : u1 la 5 = (l5 : Int) := b1.1.1
        have x3 : fx_pt u1 l5 m.toNat (zz_pk T n p) la 6 = (l6 : Int) := (zz_pa a5).trans b1.1.2.1
        have x4 : fx_pt u1 l5 m.toNat (zz_pk T n p) la 1 = s := (zz_pa a5).trans c1.2.2.1
        unfold f_X3_beginClause
        simp only [fz_lt, fz_lr, fz_ls, x1, x2, Int.toNat_natCast, x3, x4, if_pos m15]
        exact hu2.symm
      have sgg := zl_S_g (T := T) (n := n) 6 (p + 1) (by omega) (by omega)
      have rS := zl_Sc_L0 ha hn u2 (p + 1) s c3 (by omega) (by omega) hs (by omega)
      have e1 : kJ_X4_readClause_41 m u q (zz_pk T n p) = fx_lc (f_X4_readSum_L0 u2 q 0) fun v73 u73 => (if v73 = 0 then (0, u73) else fx_lc (f_X4_expect u73 q 40) fun v82 u82 => (if v82 = 0 then (0, u82) else fx_lc (f_X3_add u82 la 59 0) fun v97 u97 => fx_ls (f_X3_beginCondition u97 la) fun u105 => fx_lc (f_X4_readParts_L1 u105 q 1) fun v110 u110 => (if v110 = 0 then (0, u110) else fx_lc (f_X4_expect u110 q 41) fun v119 u119 => (if v119 = 0 then (0, u119) else fx_lc (f_X3_add u119 la 59 0) fun v134 u134 => (1, u134))))) := by
        have x4 : u1 q 4 = (la : Int) := c1.1.2.2.1
        unfold kJ_X4_readClause_41
        rw [if_pos m15]
        simp only [fz_lt, fz_lr, fz_ls, one, ← hu1, x4, Int.toNat_natCast, eB]
      obtain ⟨X1, X2, hX⟩ : ∃ (a : Int) (b : fx_U), f_X4_readSum_L0 u2 q 0 = (a, b) := ⟨_, _, rfl⟩
      have rS2 : zl_R q la sg vl s u2 (zl_S T n 6 (p + 1)) (X1, X2) := by
        rw [← hX]
        exact rS
      obtain ⟨k1, k2⟩ := rS2
      have EX := E2.tr (zl_fE.el (l5 := l5) (l6 := l6) (l7 := l7) k1)
      rcases k2 with ⟨r1, r2, ⟨r3, r4⟩, r5, r6, r7, r8⟩ | ⟨r1, r2, r3⟩
      · obtain ⟨z1, z2⟩ := sgg.2.1 r1
        have zp := sgg.1
        have r2' : X1 = 1 := r2
        rw [r2'] at hX
        have c4 : zl_C T q la sg vl ta n (zl_S T n 6 (p + 1)).2.1 (s + ((zl_S T n 6 (p + 1)).2.2.length : Int)) X2 := c3.mv ha k1 r3 r4
        have b4 : zl_Bc q la l5 l6 l7 (m + 1) X2 := b3.el k1 r8
        rw [if_pos r1]
        have kE : (zl_kk T n p).2.1 = (zl_S T n 6 (p + 1)).2.2 := rfl
        have kC : (zl_kk T n p).2.2 = (zl_cn T n (zl_S T n 6 (p + 1)).2.1).2.2 := rfl
        obtain ⟨E, hE⟩ : ∃ E : List (Int × Int), E = (zl_S T n 6 (p + 1)).2.2 := ⟨_, rfl⟩
        obtain ⟨P, hP⟩ : ∃ P : Int, P = (zl_S T n 6 (p + 1)).2.1 := ⟨_, rfl⟩
        rw [← hE] at c4 z2 r6 r7 kE ⊢
        obtain ⟨e, he⟩ : ∃ e : Int, e = s + (E.length : Int) := ⟨_, rfl⟩
        rw [← hP] at c4 z1 z2 zp kC ⊢
        rw [← he] at c4
        have ex1 := zl_exC (c := 40) hn (by decide) c4 (by omega)
        by_cases g : zz_pk T n P = 40
        · have hP2 := zz_pk_lt (T := T) (n := n) (p := P) (by omega)
          have ec : zl_cn T n P = zl_ex T n 41 (zl_parts T n (zl_P T n 5) (P + 1)) := by
            unfold zl_cn
            rw [if_pos g]
          rw [if_pos g] at ex1
          rw [ec] at kC ⊢
          have c5 := c4.pq ha (x := P + 1)
          have b5 := b4.pq ha (x := P + 1)
          have k3 : zl_el q la sg vl X2 (fx_pt X2 q 2 (P + 1)) := zl_el.pq ha (Or.inl rfl)
          have S3 : zl_st sg vl e X2 (fx_pt X2 q 2 (P + 1)) := zl_st.o G0 V0
          have q32 : fx_pt X2 q 2 (P + 1) la 2 = X2 la 2 := zz_pa (Ne.symm n1)
          obtain ⟨X3, hX3⟩ : ∃ x : fx_U, x = fx_pt X2 q 2 (P + 1) := ⟨_, rfl⟩
          rw [← hX3] at c5 b5 ex1 k3 S3 q32
          obtain ⟨w1, d1, d2, d3, d4, d5, d6, d7, d8⟩ := zl_add ha (a := 59) (b := 0) c5.1.2.2.2.1 c5.1.2.2.2.2 c5.2.2.1 ⟨by omega, by omega⟩
          have c6 : zl_C T q la sg vl ta n (P + 1) (e + 1) w1 := c5.mv ha d2 ((d3 2).trans c5.2.1) d4
          have b6 : zl_Bc q la l5 l6 l7 (m + 1) w1 := b5.el d2 (d3 3)
          have eC : f_X3_beginCondition w1 la = fx_pt w1 l7 m.toNat (e + 1) := by
            have x1 : w1 la 0 = m + 1 := b6.2.1
            have x2 : w1 la 7 = (l7 : Int) := b6.1.2.2
            have x3 : w1 la 1 = e + 1 := c6.2.2.1
            have x0 : (0 : Int) < m + 1 := by omega
            have x5 : m + 1 - 1 = m := by omega
            unfold f_X3_beginCondition
            simp only [fz_lt, fz_lr, fz_ls, x1, x2, x3, Int.toNat_natCast, if_pos x0, x5]
          have c7 := c6.ot q7 a7 t7 (j := m.toNat) (x := e + 1)
          have b7 := b6.ot q7 a7 (j := m.toNat) (x := e + 1)
          have E4 : zl_fE q la sg vl l5 l6 l7 w1 (fx_pt w1 l7 m.toNat (e + 1)) := zl_fE.row (Or.inr (Or.inr rfl)) a7 q7
          have K4 : zl_fK l5 l6 l7 m w1 (fx_pt w1 l7 m.toNat (e + 1)) := zl_fK.row mN
          have S4 : zl_st sg vl (e + 1) w1 (fx_pt w1 l7 m.toNat (e + 1)) := zl_st.o g7 v7
          have o4 : ∀ b i : Nat, b ≠ l7 → fx_pt w1 l7 m.toNat (e + 1) b i = w1 b i := fun b i h => zz_pa h
          have p4 : fx_pt w1 l7 m.toNat (e + 1) l7 m.toNat = e + 1 := zz_ps
          obtain ⟨w2, hw2⟩ : ∃ x : fx_U, x = fx_pt w1 l7 m.toNat (e + 1) := ⟨_, rfl⟩
          rw [← hw2] at c7 b7 eC E4 K4 S4 p4
          have o4' : ∀ b i : Nat, b ≠ l7 → w2 b i = w1 b i := fun b i h => by
            rw [hw2]
            exact o4 b i h
          have pgg := zl_parts_g (T := T) (zl_P_g (T := T) (n := n) 5) (P + 1) (by omega) (by omega)
          have rQ := zl_Qc_L1 ha hn w2 (P + 1) (e + 1) c7 (by omega) (by omega) (by omega) (by omega)
          obtain ⟨Y1, Y2, hY⟩ : ∃ (a : Int) (b : fx_U), f_X4_readParts_L1 w2 q 1 = (a, b) := ⟨_, _, rfl⟩
          have rQ2 : zl_R q la sg vl (e + 1) w2 (zl_parts T n (zl_P T n 5) (P + 1)) (Y1, Y2) := by
            rw [← hY]
            exact rQ
          obtain ⟨j1, j2⟩ := rQ2
          have EY := (((EX.tr (zl_fE.el k3)).tr (zl_fE.el d2)).tr E4).tr (zl_fE.el (l5 := l5) (l6 := l6) (l7 := l7) j1)
          obtain ⟨r, hr⟩ : ∃ r : zl_O, r = zl_parts T n (zl_P T n 5) (P + 1) := ⟨_, rfl⟩
          rw [← hr] at pgg j2 kC ⊢
          unfold zl_ex at kC ⊢
          rcases j2 with ⟨o1, o2, ⟨o3, o4⟩, o5, o6, o7, o8⟩ | ⟨o1, o2, o3⟩
          · obtain ⟨z3, z4⟩ := pgg.2.1 o1
            have zq := pgg.1
            have o2' : Y1 = 1 := o2
            rw [o2'] at hY
            have c8 : zl_C T q la sg vl ta n r.2.1 (e + 1 + (r.2.2.length : Int)) Y2 := c7.mv ha j1 o3 o4
            have b8 : zl_Bc q la l5 l6 l7 (m + 1) Y2 := b7.el j1 o8
            have ex2 := zl_exC (c := 41) hn (by decide) c8 (by omega)
            rw [if_pos o1] at kC ⊢
            by_cases g2 : zz_pk T n r.2.1 = 41
            · have hP3 := zz_pk_lt (T := T) (n := n) (p := r.2.1) (by omega)
              rw [if_pos g2] at ex2
              rw [if_pos g2] at kC ⊢
              have kC2 : (zl_kk T n p).2.2 = r.2.2 := kC
              have c9 := c8.pq ha (x := r.2.1 + 1)
              have b9 := b8.pq ha (x := r.2.1 + 1)
              have k9 : zl_el q la sg vl Y2 (fx_pt Y2 q 2 (r.2.1 + 1)) := zl_el.pq ha (Or.inl rfl)
              have S9 : zl_st sg vl (e + 1 + (r.2.2.length : Int)) Y2 (fx_pt Y2 q 2 (r.2.1 + 1)) := zl_st.o G0 V0
              have q92 : fx_pt Y2 q 2 (r.2.1 + 1) la 2 = Y2 la 2 := zz_pa (Ne.symm n1)
              obtain ⟨w3, hw3⟩ : ∃ x : fx_U, x = fx_pt Y2 q 2 (r.2.1 + 1) := ⟨_, rfl⟩
              rw [← hw3] at c9 b9 ex2 k9 S9 q92
              obtain ⟨w4, f1, f2, f3, f4, f5, f6, f7, f8⟩ := zl_add ha (a := 59) (b := 0) c9.1.2.2.2.1 c9.1.2.2.2.2 c9.2.2.1 ⟨by omega, by omega⟩
              have fin : kJ_X4_readClause_41 m u q (zz_pk T n p) = (1, w4) := by
                rw [e1]
                simp only [fz_lc, fz_ls, hX, if_neg zz_n10, ex1, d1, eC, hY, ex2, f1]
              have tA : zl_el q la sg vl w2 w4 := j1.tr (k9.tr f2)
              have tB : zl_el q la sg vl u2 w1 := k1.tr (k3.tr d2)
              have GY : zl_st sg vl (e + 1 + (r.2.2.length : Int)) Y2 w4 := S9.tr f5 (Int.le_refl _)
              have GW : zl_st sg vl (e + 1) w1 w4 := S4.tr (o5.tr GY (by omega)) (Int.le_refl _)
              have GX : zl_st sg vl e X2 w4 := S3.tr (d5.tr GW (by omega)) (Int.le_refl _)
              have GU : zl_st sg vl s u w4 := S2.tr (r5.tr GX (by omega)) (Int.le_refl _)
              have i5 : w4 l5 m.toNat = zz_pk T n p := by
                rw [tA.1 l5 (Ne.symm q5) (Ne.symm a5) (Ne.symm g5) (Ne.symm v5), o4' l5 _ l57, tB.1 l5 (Ne.symm q5) (Ne.symm a5) (Ne.symm g5) (Ne.symm v5)]
                exact u25
              have i6 : w4 l6 m.toNat = s := by
                rw [tA.1 l6 (Ne.symm q6) (Ne.symm a6) (Ne.symm g6) (Ne.symm v6), o4' l6 _ l67, tB.1 l6 (Ne.symm q6) (Ne.symm a6) (Ne.symm g6) (Ne.symm v6)]
                exact u26
              have i7 : w4 l7 m.toNat = e + 1 := by
                rw [tA.1 l7 (Ne.symm q7) (Ne.symm a7) (Ne.symm g7) (Ne.symm v7)]
                exact p4
              have h59 : ((59 : Int), (0 : Int)) ≠ (105, 116) := by decide
              rw [if_neg h59] at d8 f8
              have fam : w4 la 2 = zl_am r.2.2 (zl_am E (u la 2)) := by
                have x1 : w2 la 2 = w1 la 2 := o4' la 2 a7
                have x2 : X2 la 2 = zl_am E (u2 la 2) := r7
                have x3 : Y2 la 2 = zl_am r.2.2 (w2 la 2) := o7
                rw [f8, q92, x3, x1, d8, q32, x2, ul2]
              have cdE : zl_cd sg vl w4 s (E ++ [(59, 0)]) := by
                refine zl_cd_app E _ s (zl_cd_keep GX E s hs (by omega) r6) ?_
                rw [← he]
                obtain ⟨x1, x2⟩ := GW e.toNat (by omega)
                exact ⟨⟨x1.trans d6, x2.trans d7⟩, True.intro⟩
              have cdC : zl_cd sg vl w4 (e + 1) (r.2.2 ++ [(59, 0)]) := by
                refine zl_cd_app r.2.2 _ (e + 1) (zl_cd_keep GY r.2.2 (e + 1) (by omega) (Int.le_refl _) o6) ?_
                exact ⟨⟨f6, f7⟩, True.intro⟩
              refine Or.inr ⟨rfl, w4, e + 1 + (r.2.2.length : Int) + 1, fin, ?_, ⟨by omega, ?_⟩, b9.el f2 (f3 3), (EY.tr (zl_fE.el k9)).tr (zl_fE.el f2), ?_, GU, ⟨⟨i5, ⟨?_, ?_⟩, ?_, ⟨?_, ?_⟩, ?_⟩, True.intro⟩, ?_⟩
              · exact c9.mv ha f2 ((f3 2).trans c9.2.1) f4
              · show e + 1 + (r.2.2.length : Int) + 1 ≤ r.2.1 + 1
                omega
              · exact (K2.tr (zl_fK.el (m := m) ha hb0 hd0 tB) (Int.le_refl m)).tr (K4.tr (zl_fK.el (m := m) ha hb0 hd0 tA) (Int.le_refl m)) (Int.le_refl m)
              · rw [i6]
                exact hs
              · rw [i6, kE]
                omega
              · rw [i6, kE]
                exact cdE
              · rw [i7]
                omega
              · rw [i7, kC2]
                omega
              · rw [i7, kC2]
                exact cdC
              · rw [kE, kC2]
                exact fam
            · rw [if_neg g2] at ex2
              rw [if_neg g2]
              have fin : kJ_X4_readClause_41 m u q (zz_pk T n p) = (0, fx_pt Y2 q 3 (zz_ft 1 r.2.1)) := by
                rw [e1]
                simp only [fz_lc, fz_ls, hX, if_neg zz_n10, ex1, d1, eC, hY, ex2, if_true]
              exact Or.inl ⟨(show ¬ ((1 : Int) = 0) by decide), _, fin, zz_ps, EY.tr (zl_fE.el (zl_el.pq ha (Or.inr rfl)))⟩
          · have o2' : Y1 = 0 := o2
            rw [o2'] at hY
            rw [if_neg o1, if_neg o1]
            have fin : kJ_X4_readClause_41 m u q (zz_pk T n p) = (0, Y2) := by
              rw [e1]
              simp only [fz_lc, fz_ls, hX, if_neg zz_n10, ex1, d1, eC, hY, if_true]
            exact Or.inl ⟨o1, _, fin, o3, EY⟩
        · have ec : zl_cn T n P = (1, P, []) := by
            unfold zl_cn
            rw [if_neg g]
          rw [if_neg g] at ex1
          rw [ec]
          have fin : kJ_X4_readClause_41 m u q (zz_pk T n p) = (0, fx_pt X2 q 3 (zz_ft 1 P)) := by
            rw [e1]
            simp only [fz_lc, hX, if_neg zz_n10, ex1, if_true]
          exact Or.inl ⟨(show ¬ ((1 : Int) = 0) by decide), _, fin, zz_ps, EX.tr (zl_fE.el (zl_el.pq ha (Or.inr rfl)))⟩
      · have r2' : X1 = 0 := r2
        rw [r2'] at hX
        rw [if_neg r1]
        have fin : kJ_X4_readClause_41 m u q (zz_pk T n p) = (0, X2) := by
          rw [e1]
          simp only [fz_lc, hX, if_true]
        exact Or.inl ⟨r1, _, fin, r3, EX⟩
  · rw [if_neg L]
    refine Or.inl ⟨(show ¬ ((1 : Int) = 0) by decide), fx_pt u q 3 (zz_ft 1 p), ?_, zz_ps, zl_fE.el (zl_el.pq ha (Or.inr rfl))⟩
    unfold f_X4_readClause
    simp only [fz_lt, fz_lr, fz_lc, pk, zl_fail hC.2.1]
    rw [if_neg (by omega), if_neg (by omega), if_neg (by omega), if_neg (by omega), if_neg (by omega)]
/-- the class reads the law: what it keeps -/
theorem zl_cL2 (ha : zl_ap q la sg vl ta) (hb : zl_ac q la ta l5 l6 l7) (hd : zl_ad sg vl l5 l6 l7) (hn : n ≤ 240) : ∀ (f : Nat) (m p s : Int) (u : fx_U), 16 - m < (f : Int) → zl_C T q la sg vl ta n p s u → zl_Bc q la l5 l6 l7 m u → 0 ≤ p → p ≤ n → 0 ≤ s → s ≤ p → 0 ≤ m → m ≤ 16 →
    (0 < zl_law T n f m p ∧ ∃ (Y : fx_U) (N : Int), kL_X4_read_34 q f m u = (0, Y) ∧ Y la 0 = zl_law T n f m p ∧ Y la 1 = N ∧ (s ≤ N ∧ N ≤ n) ∧ zl_fE q la sg vl l5 l6 l7 u Y ∧ zl_fK l5 l6 l7 m u Y ∧ zl_st sg vl s u Y ∧ zv_Lc sg vl l5 l6 l7 N Y m.toNat (zl_cls T n f m p) ∧ Y la 2 = zl_amR (zl_cls T n f m p) (u la 2)) ∨ (zl_law T n f m p < 0 ∧ ∃ Y : fx_U, kL_X4_read_34 q f m u = (zl_law T n f m p, Y) ∧ zl_fE q la sg vl l5 l6 l7 u Y) := by
  intro f
  induction f with
  | zero => intro m p s u h1 _ _ _ _ _ _ _ h; omega
  | succ f ih =>
    intro m p s u hf hC hB h0 h1 hs hsp hm0 hm
    have kg := zl_K_g (T := T) (m := m) h0 h1
    have eK : kL_X4_read_34 q (f + 1) m u = kB_X4_read_34 (kL_X4_read_34 q f) q m u := rfl
    rw [eK]
    unfold kB_X4_read_34 zl_law zl_cls
    rw [if_neg (show ¬ 16 < m by omega)]
    rcases zl_cK2 ha hb hd hn hC hB h0 h1 hs hsp hm0 hm with ⟨a1, y, a3, a4, a5⟩ | ⟨a1, y, s2, a3, a4, a5, a6, a7, a8, a9, a10, a11⟩
    · have ng := zz_ft_neg (k := (zl_K T n m p).1) (p := (zl_K T n m p).2.1) (by have := kg.2.2; omega) (by have := kg.1; omega)
      rw [a3, if_neg a1]
      simp only [fz_lc, fz_lt, if_true]
      exact Or.inr ⟨ng, y, by rw [a4], a5⟩
    · obtain ⟨z1, z2⟩ := kg.2.1 a1
      have zp := kg.1
      have m15 := zl_15 a1 hm
      rw [a3, if_pos a1]
      obtain ⟨P, hP⟩ : ∃ P : Int, P = (zl_K T n m p).2.1 := ⟨_, rfl⟩
      rw [← hP] at a4 a5 z1 z2 zp ⊢
      by_cases g : P < n
      · have ex := zl_exC (c := 59) hn (by decide) a4 (by omega)
        rw [if_pos g, if_pos g]
        by_cases g2 : zz_pk T n P = 59
        · rw [if_pos g2] at ex
          rw [if_pos g2]
          simp only [fz_lc, fz_lt, if_neg zz_n10, a4.2.1, a4.1.2.1, if_pos g, ex]
          have k1 : zl_el q la sg vl y (fx_pt y q 2 (P + 1)) := zl_el.pq ha (Or.inl rfl)
          have S1 : zl_st sg vl s2 y (fx_pt y q 2 (P + 1)) := zl_st.o ha.2.2.2.1.1 ha.2.2.2.2.1
          have l2 : fx_pt y q 2 (P + 1) la 2 = y la 2 := zz_pa (Ne.symm ha.2.1.1)
          rcases ih (m + 1) (P + 1) s2 _ (by omega) (a4.pq ha) (a6.pq ha) (by omega) (by omega) (by omega) (by omega) (by omega) (by omega) with ⟨g1, Y, N, g3, g4, g5, g6, g7, g8, g9, g10, g11⟩ | ⟨g1, Y, g3, g7⟩
          · have K1 : zl_fK l5 l6 l7 (m + 1) y Y := (zl_fK.el (m := m + 1) ha hb hd k1).tr g8 (Int.le_refl _)
            have S2 : zl_st sg vl s2 y Y := S1.tr g9 (Int.le_refl _)
            refine Or.inl ⟨g1, Y, N, g3, g4, g5, ⟨by omega, g6.2⟩, (a7.tr (zl_fE.el k1)).tr g7, a8.tr K1 (by omega), a9.tr S2 (by omega), ⟨?_, ?_⟩, ?_⟩
            · exact (zv_Lc_mv (N2 := N) g6.1 S2 [zl_kk T n p] m.toNat (fun i h1 h2 => K1 i (by
                have h3 : i < m.toNat + 1 := h2
                omega)) a10).1
            · rw [show m.toNat + 1 = (m + 1).toNat by omega]
              exact g10
            · rw [g11, l2, a11]
              rfl
          · exact Or.inr ⟨g1, Y, g3, (a7.tr (zl_fE.el k1)).tr g7⟩
        · have ng := zz_ft_neg (k := 1) (p := P) (by decide) (by omega)
          rw [if_neg g2] at ex
          rw [if_neg g2]
          simp only [fz_lc, fz_lt, if_neg zz_n10, a4.2.1, a4.1.2.1, if_pos g, ex, if_true]
          exact Or.inr ⟨ng, _, by rw [zz_ps], a7.tr (zl_fE.el (zl_el.pq ha (Or.inr rfl)))⟩
      · rw [if_neg g, if_neg g]
        simp only [fz_lc, fz_lt, if_neg zz_n10, a4.2.1, a4.1.2.1, if_neg g]
        refine Or.inl ⟨by omega, y, s2, ?_, a6.2.1, a4.2.2.1, ⟨a5.1, by omega⟩, a7, a8, a9, a10, ?_⟩
        · rw [a6.2.2]
        · rw [a11]
          rfl
end LawM
