/-! THE LAW'S TEXT in the class: a clause, the law -/
def zl_Bc (q la l5 l6 l7 : Nat) (m : Int) (u : fx_U) : Prop := (u la 5 = (l5 : Int) ∧ u la 6 = (l6 : Int) ∧ u la 7 = (l7 : Int)) ∧ u la 0 = m ∧ u q 3 = 0
def zl_ac (q la ta l5 l6 l7 : Nat) : Prop := (q ≠ l5 ∧ q ≠ l6 ∧ q ≠ l7) ∧ (la ≠ l5 ∧ la ≠ l6 ∧ la ≠ l7) ∧ (ta ≠ l5 ∧ ta ≠ l6 ∧ ta ≠ l7)
section LawB
variable {T : Nat → Int} {q la sg vl ta l5 l6 l7 : Nat} {n p s m : Int} {u w : fx_U}
theorem zl_exC {c : Int} (hn : n ≤ 240) (hc : c ≠ -1) (h : zl_C T q la sg vl ta n p s u) (h0 : 0 ≤ p) : f_X4_expect u q c = if zz_pk T n p = c then (1, fx_pt u q 2 (p + 1)) else (0, fx_pt u q 3 (zz_ft 1 p)) := by
  have pk := zl_peek h h0
  unfold f_X4_expect
  simp only [fz_lr, fz_lt, fz_ls, fz_lc, pk, zl_fail h.2.1]
  by_cases g : zz_pk T n p = c
  · have hp := zz_pk_lt (T := T) (n := n) (p := p) (by omega)
    rw [if_pos g, if_pos g, zl_one h.2.1 ⟨h0, by omega⟩]
  · rw [if_neg g, if_neg g]
theorem zl_Bc.el (h : zl_Bc q la l5 l6 l7 m u) (k : zl_el q la sg vl u w) (h3 : w q 3 = u q 3) : zl_Bc q la l5 l6 l7 m w := by
  obtain ⟨⟨a1, a2, a3⟩, a4, a5⟩ := h
  have z : ∀ j : Nat, j ≠ 1 → j ≠ 2 → w la j = u la j := k.2.1
  exact ⟨⟨(z 5 (by decide) (by decide)).trans a1, (z 6 (by decide) (by decide)).trans a2, (z 7 (by decide) (by decide)).trans a3⟩, (z 0 (by decide) (by decide)).trans a4, h3.trans a5⟩
theorem zl_Bc.pq (ha : zl_ap q la sg vl ta) {x : Int} (h : zl_Bc q la l5 l6 l7 m u) : zl_Bc q la l5 l6 l7 m (fx_pt u q 2 x) := by
  obtain ⟨⟨a1, a2, a3⟩, a4, a5⟩ := h
  have n1 := ha.2.2.1.1
  exact ⟨⟨(zz_pa n1).trans a1, (zz_pa n1).trans a2, (zz_pa n1).trans a3⟩, (zz_pa n1).trans a4, (zz_pj (by decide)).trans a5⟩
theorem zl_C.pq (ha : zl_ap q la sg vl ta) {x : Int} (h : zl_C T q la sg vl ta n p s u) : zl_C T q la sg vl ta n x s (fx_pt u q 2 x) := h.mv ha (zl_el.pq ha (Or.inl rfl)) zz_ps ((zz_pa ha.2.2.1.1).trans h.2.2.1)
/-- a store into a row that is no part of it -/
theorem zl_C.ot {b j : Nat} {x : Int} (h1 : q ≠ b) (h2 : la ≠ b) (h3 : ta ≠ b) (h : zl_C T q la sg vl ta n p s u) : zl_C T q la sg vl ta n p s (fx_pt u b j x) := by
  obtain ⟨⟨a1, a2, a3, a4, a5⟩, b1, b2, c1⟩ := h
  exact ⟨⟨(zz_pa h1).trans a1, (zz_pa h1).trans a2, (zz_pa h1).trans a3, (zz_pa h2).trans a4, (zz_pa h2).trans a5⟩, (zz_pa h1).trans b1, (zz_pa h2).trans b2, fun i hi => (zz_pa h3).trans (c1 i hi)⟩
theorem zl_Bc.ot {b j : Nat} {x : Int} (h1 : q ≠ b) (h2 : la ≠ b) (h : zl_Bc q la l5 l6 l7 m u) : zl_Bc q la l5 l6 l7 m (fx_pt u b j x) := by
  obtain ⟨⟨a1, a2, a3⟩, a4, a5⟩ := h
  exact ⟨⟨(zz_pa h2).trans a1, (zz_pa h2).trans a2, (zz_pa h2).trans a3⟩, (zz_pa h2).trans a4, (zz_pa h1).trans a5⟩
/-- the class reads a clause -/
theorem zl_cK (ha : zl_ap q la sg vl ta) (hb : zl_ac q la ta l5 l6 l7) (hn : n ≤ 240) (hC : zl_C T q la sg vl ta n p s u) (hB : zl_Bc q la l5 l6 l7 m u) (h0 : 0 ≤ p) (h1 : p ≤ n) (hs : 0 ≤ s) (hsp : s ≤ p) (hm : 0 ≤ m) (hm2 : m ≤ 16) :
    ((zl_K T n m p).1 ≠ 0 ∧ ∃ y : fx_U, f_X4_readClause u q m = (0, y) ∧ y q 3 = zz_ft (zl_K T n m p).1 (zl_K T n m p).2.1) ∨ ((zl_K T n m p).1 = 0 ∧ ∃ (y : fx_U) (s2 : Int), f_X4_readClause u q m = (1, y) ∧ zl_C T q la sg vl ta n (zl_K T n m p).2.1 s2 y ∧ (0 ≤ s2 ∧ s2 ≤ (zl_K T n m p).2.1) ∧ zl_Bc q la l5 l6 l7 (m + 1) y) := by
  obtain ⟨⟨q5, q6, q7⟩, ⟨a5, a6, a7⟩, t5, t6, t7⟩ := hb
  have pk := zl_peek hC h0
  have hq := hC.1.1
  unfold zl_K
  by_cases L : zz_pk T n p = 112 ∨ zz_pk T n p = 100 ∨ zz_pk T n p = 115 ∨ zz_pk T n p = 111 ∨ zz_pk T n p = 108
  · have hp := zz_pk_lt (T := T) (n := n) (p := p) (by omega)
    rw [if_pos L]
    have e0 : f_X4_readClause u q m = kJ_X4_readClause_41 m u q (zz_pk T n p) := by
      unfold f_X4_readClause
      simp only [fz_lt, fz_lr, pk]
      by_cases g1 : zz_pk T n p = 112
      · rw [if_pos g1]
      · by_cases g2 : zz_pk T n p = 100
        · rw [if_neg g1, if_pos g2]
        · by_cases g3 : zz_pk T n p = 115
          · rw [if_neg g1, if_neg g2, if_pos g3]
          · by_cases g4 : zz_pk T n p = 111
            · rw [if_neg g1, if_neg g2, if_neg g3, if_pos g4]
            · rw [if_neg g1, if_neg g2, if_neg g3, if_neg g4, if_pos (by omega)]
    rw [e0]
    by_cases m16 : m = 16
    · rw [if_pos m16]
      refine Or.inl ⟨(show ¬ ((4 : Int) = 0) by decide), fx_pt u q 3 (zz_ft 4 p), ?_, zz_ps⟩
      unfold kJ_X4_readClause_41
      simp only [fz_lc, zl_fail hC.2.1]
      rw [if_neg (by omega)]
    · rw [if_neg m16]
      have m15 : m < 16 := by omega
      have one := zl_one hC.2.1 ⟨h0, by omega⟩
      have c1 := hC.pq ha (x := p + 1)
      have b1 := hB.pq ha (x := p + 1)
      obtain ⟨u1, hu1⟩ : ∃ x : fx_U, x = fx_pt u q 2 (p + 1) := ⟨_, rfl⟩
      rw [← hu1] at c1 b1
      have c2 := ((c1.ot q5 a5 t5 (j := m.toNat) (x := zz_pk T n p)).ot q6 a6 t6 (j := m.toNat) (x := s))
      have b2 := ((b1.ot q5 a5 (j := m.toNat) (x := zz_pk T n p)).ot q6 a6 (j := m.toNat) (x := s))
      obtain ⟨u2, hu2⟩ : ∃ x : fx_U, x = fx_pt (fx_pt (fx_pt u1 l5 m.toNat (zz_pk T n p)) l6 m.toNat s) la 0 (m + 1) := ⟨_, rfl⟩
      have n1 := ha.2.1.1
      have n2 := ha.1.2.1
      have c3 : zl_C T q la sg vl ta n (p + 1) s u2 := by
        obtain ⟨⟨x1, x2, x3, x4, x5⟩, y1, y2, z1⟩ := c2
        rw [hu2]
        exact ⟨⟨(zz_pa n1).trans x1, (zz_pa n1).trans x2, (zz_pa n1).trans x3, (zz_pj (by decide)).trans x4, (zz_pj (by decide)).trans x5⟩, (zz_pa n1).trans y1, (zz_pj (by decide)).trans y2, fun i hi => (zz_pa n2).trans (z1 i hi)⟩
      have b3 : zl_Bc q la l5 l6 l7 (m + 1) u2 := by
        obtain ⟨⟨x1, x2, x3⟩, x4, x5⟩ := b2
        rw [hu2]
        exact ⟨⟨(zz_pj (by decide)).trans x1, (zz_pj (by decide)).trans x2, (zz_pj (by decide)).trans x3⟩, zz_ps, (zz_pa n1).trans x5⟩
      have eB : f_X3_beginClause u1 la (zz_pk T n p) = u2 := by
        have x1 : u1 la 0 = m := b1.2.1
        have x2 : u1 la 5 = (l5 : Int) := b1.1.1
        have x3 : fx_pt u1 l5 m.toNat (zz_pk T n p) la 6 = (l6 : Int) := (zz_pa a5).trans b1.1.2.1
        have x4 : fx_pt u1 l5 m.toNat (zz_pk T n p) la 1 = s := (zz_pa a5).trans c1.2.2.1
        unfold f_X3_beginClause
        simp only [fz_lt, fz_lr, fz_ls, x1, x2, Int.toNat_natCast, x3, x4, if_pos m15]
        exact hu2.symm
      have sgg := zl_S_g (T := T) (n := n) 6 (p + 1) (by omega) (by omega)
      have rS := zl_Sc_L0 ha hn u2 (p + 1) s c3 (by omega) (by omega) hs (by omega)
      have e1 : kJ_X4_readClause_41 m u q (zz_pk T n p) = fx_lc (f_X4_readSum_L0 u2 q 0) fun v73 u73 => (if v73 = 0 then (0, u73) else fx_lc (f_X4_expect u73 q 40) fun v82 u82 => (if v82 = 0 then (0, u82) else fx_lc (f_X3_add u82 la 59 0) fun v97 u97 => fx_ls (f_X3_beginCondition u97 la) fun u105 => fx_lc (f_X4_readParts_L1 u105 q 1) fun v110 u110 => (if v110 = 0 then (0, u110) else fx_lc (f_X4_expect u110 q 41) fun v119 u119 => (if v119 = 0 then (0, u119) else fx_lc (f_X3_add u119 la 59 0) fun v134 u134 => (1, u134))))) := by
        have x4 : u1 q 4 = (la : Int) := c1.1.2.2.1
        unfold kJ_X4_readClause_41
        rw [if_pos m15]
        simp only [fz_lt, fz_lr, fz_ls, one, ← hu1, x4, Int.toNat_natCast, eB]
      obtain ⟨X1, X2, hX⟩ : ∃ (a : Int) (b : fx_U), f_X4_readSum_L0 u2 q 0 = (a, b) := ⟨_, _, rfl⟩
      have rS2 : zl_R q la sg vl s u2 (zl_S T n 6 (p + 1)) (X1, X2) := by
        rw [← hX]
        exact rS
      obtain ⟨k1, k2⟩ := rS2
      rcases k2 with ⟨r1, r2, ⟨r3, r4⟩, -, -, -, r8⟩ | ⟨r1, r2, r3⟩
      · obtain ⟨z1, z2⟩ := sgg.2.1 r1
        have zp := sgg.1
        have r2' : X1 = 1 := r2
        rw [r2'] at hX
        have c4 : zl_C T q la sg vl ta n (zl_S T n 6 (p + 1)).2.1 (s + ((zl_S T n 6 (p + 1)).2.2.length : Int)) X2 := c3.mv ha k1 r3 r4
        have b4 : zl_Bc q la l5 l6 l7 (m + 1) X2 := b3.el k1 r8
        rw [if_pos r1]
        obtain ⟨P, hP⟩ : ∃ P : Int, P = (zl_S T n 6 (p + 1)).2.1 := ⟨_, rfl⟩
        obtain ⟨e, he⟩ : ∃ e : Int, e = s + ((zl_S T n 6 (p + 1)).2.2.length : Int) := ⟨_, rfl⟩
        rw [← hP] at c4 z1 z2 zp ⊢
        rw [← he] at c4
        have ex1 := zl_exC (c := 40) hn (by decide) c4 (by omega)
        by_cases g : zz_pk T n P = 40
        · have hP2 := zz_pk_lt (T := T) (n := n) (p := P) (by omega)
          have ec : zl_cn T n P = zl_ex T n 41 (zl_parts T n (zl_P T n 5) (P + 1)) := by
            unfold zl_cn
            rw [if_pos g]
          rw [if_pos g] at ex1
          rw [ec]
          have c5 := c4.pq ha (x := P + 1)
          have b5 := b4.pq ha (x := P + 1)
          obtain ⟨X3, hX3⟩ : ∃ x : fx_U, x = fx_pt X2 q 2 (P + 1) := ⟨_, rfl⟩
          rw [← hX3] at c5 b5 ex1
          obtain ⟨w1, d1, d2, d3, d4, -, -, -, -⟩ := zl_add ha (a := 59) (b := 0) c5.1.2.2.2.1 c5.1.2.2.2.2 c5.2.2.1 ⟨by omega, by omega⟩
          have c6 : zl_C T q la sg vl ta n (P + 1) (e + 1) w1 := c5.mv ha d2 ((d3 2).trans c5.2.1) d4
          have b6 : zl_Bc q la l5 l6 l7 (m + 1) w1 := b5.el d2 (d3 3)
          have eC : f_X3_beginCondition w1 la = fx_pt w1 l7 m.toNat (e + 1) := by
            have x1 : w1 la 0 = m + 1 := b6.2.1
            have x2 : w1 la 7 = (l7 : Int) := b6.1.2.2
            have x3 : w1 la 1 = e + 1 := c6.2.2.1
            have x0 : (0 : Int) < m + 1 := by omega
            have x5 : m + 1 - 1 = m := by omega
            unfold f_X3_beginCondition
            simp only [fz_lt, fz_lr, fz_ls, x1, x2, x3, Int.toNat_natCast, if_pos x0, x5]
          have c7 := c6.ot q7 a7 t7 (j := m.toNat) (x := e + 1)
          have b7 := b6.ot q7 a7 (j := m.toNat) (x := e + 1)
          obtain ⟨w2, hw2⟩ : ∃ x : fx_U, x = fx_pt w1 l7 m.toNat (e + 1) := ⟨_, rfl⟩
          rw [← hw2] at c7 b7 eC
          have pgg := zl_parts_g (T := T) (zl_P_g (T := T) (n := n) 5) (P + 1) (by omega) (by omega)
          have rQ := zl_Qc_L1 ha hn w2 (P + 1) (e + 1) c7 (by omega) (by omega) (by omega) (by omega)
          obtain ⟨Y1, Y2, hY⟩ : ∃ (a : Int) (b : fx_U), f_X4_readParts_L1 w2 q 1 = (a, b) := ⟨_, _, rfl⟩
          have rQ2 : zl_R q la sg vl (e + 1) w2 (zl_parts T n (zl_P T n 5) (P + 1)) (Y1, Y2) := by
            rw [← hY]
            exact rQ
          obtain ⟨j1, j2⟩ := rQ2
          obtain ⟨r, hr⟩ : ∃ r : zl_O, r = zl_parts T n (zl_P T n 5) (P + 1) := ⟨_, rfl⟩
          rw [← hr] at pgg j2 ⊢
          unfold zl_ex
          rcases j2 with ⟨o1, o2, ⟨o3, o4⟩, -, -, -, o8⟩ | ⟨o1, o2, o3⟩
          · obtain ⟨z3, z4⟩ := pgg.2.1 o1
            have zq := pgg.1
            have o2' : Y1 = 1 := o2
            rw [o2'] at hY
            have c8 : zl_C T q la sg vl ta n r.2.1 (e + 1 + (r.2.2.length : Int)) Y2 := c7.mv ha j1 o3 o4
            have b8 : zl_Bc q la l5 l6 l7 (m + 1) Y2 := b7.el j1 o8
            have ex2 := zl_exC (c := 41) hn (by decide) c8 (by omega)
            rw [if_pos o1]
            by_cases g2 : zz_pk T n r.2.1 = 41
            · have hP3 := zz_pk_lt (T := T) (n := n) (p := r.2.1) (by omega)
              rw [if_pos g2] at ex2
              rw [if_pos g2]
              have c9 := c8.pq ha (x := r.2.1 + 1)
              have b9 := b8.pq ha (x := r.2.1 + 1)
              obtain ⟨w3, hw3⟩ : ∃ x : fx_U, x = fx_pt Y2 q 2 (r.2.1 + 1) := ⟨_, rfl⟩
              rw [← hw3] at c9 b9 ex2
              obtain ⟨w4, f1, f2, f3, f4, -, -, -, -⟩ := zl_add ha (a := 59) (b := 0) c9.1.2.2.2.1 c9.1.2.2.2.2 c9.2.2.1 ⟨by omega, by omega⟩
              have fin : kJ_X4_readClause_41 m u q (zz_pk T n p) = (1, w4) := by
                rw [e1]
                simp only [fz_lc, fz_ls, hX, if_neg zz_n10, ex1, d1, eC, hY, ex2, f1]
              refine Or.inr ⟨rfl, w4, e + 1 + (r.2.2.length : Int) + 1, fin, ?_, ⟨by omega, ?_⟩, b9.el f2 (f3 3)⟩
              · exact c9.mv ha f2 ((f3 2).trans c9.2.1) f4
              · show e + 1 + (r.2.2.length : Int) + 1 ≤ r.2.1 + 1
                omega
            · rw [if_neg g2] at ex2
              rw [if_neg g2]
              have fin : kJ_X4_readClause_41 m u q (zz_pk T n p) = (0, fx_pt Y2 q 3 (zz_ft 1 r.2.1)) := by
                rw [e1]
                simp only [fz_lc, fz_ls, hX, if_neg zz_n10, ex1, d1, eC, hY, ex2, if_true]
              exact Or.inl ⟨(show ¬ ((1 : Int) = 0) by decide), _, fin, zz_ps⟩
          · have o2' : Y1 = 0 := o2
            rw [o2'] at hY
            rw [if_neg o1, if_neg o1]
            have fin : kJ_X4_readClause_41 m u q (zz_pk T n p) = (0, Y2) := by
              rw [e1]
              simp only [fz_lc, fz_ls, hX, if_neg zz_n10, ex1, d1, eC, hY, if_true]
            exact Or.inl ⟨o1, _, fin, o3⟩
        · have ec : zl_cn T n P = (1, P, []) := by
            unfold zl_cn
            rw [if_neg g]
          rw [if_neg g] at ex1
          rw [ec]
          have fin : kJ_X4_readClause_41 m u q (zz_pk T n p) = (0, fx_pt X2 q 3 (zz_ft 1 P)) := by
            rw [e1]
            simp only [fz_lc, hX, if_neg zz_n10, ex1, if_true]
          exact Or.inl ⟨(show ¬ ((1 : Int) = 0) by decide), _, fin, zz_ps⟩
      · have r2' : X1 = 0 := r2
        rw [r2'] at hX
        rw [if_neg r1]
        have fin : kJ_X4_readClause_41 m u q (zz_pk T n p) = (0, X2) := by
          rw [e1]
          simp only [fz_lc, hX, if_true]
        exact Or.inl ⟨r1, _, fin, r3⟩
  · rw [if_neg L]
    refine Or.inl ⟨(show ¬ ((1 : Int) = 0) by decide), fx_pt u q 3 (zz_ft 1 p), ?_, zz_ps⟩
    unfold f_X4_readClause
    simp only [fz_lt, fz_lr, fz_lc, pk, zl_fail hC.2.1]
    rw [if_neg (by omega), if_neg (by omega), if_neg (by omega), if_neg (by omega), if_neg (by omega)]
/-- the class reads the law -/
theorem zl_cL (ha : zl_ap q la sg vl ta) (hb : zl_ac q la ta l5 l6 l7) (hn : n ≤ 240) : ∀ (f : Nat) (m p s : Int) (u : fx_U), 16 - m < (f : Int) → zl_C T q la sg vl ta n p s u → zl_Bc q la l5 l6 l7 m u → 0 ≤ p → p ≤ n → 0 ≤ s → s ≤ p → 0 ≤ m → m ≤ 16 → ((kL_X4_read_34 q f m u).1 = 0 ∧ (kL_X4_read_34 q f m u).2 la 0 = zl_law T n f m p ∧ 1 ≤ zl_law T n f m p ∧ (kL_X4_read_34 q f m u).2 q 4 = (la : Int)) ∨ ((kL_X4_read_34 q f m u).1 = zl_law T n f m p ∧ zl_law T n f m p < 0) := by
  intro f
  induction f with
  | zero => intro m p s u h1 _ _ _ _ _ _ _ h; omega
  | succ f ih =>
    intro m p s u hf hC hB h0 h1 hs hsp hm0 hm
    have kg := zl_K_g (T := T) (m := m) h0 h1
    have eK : kL_X4_read_34 q (f + 1) m u = kB_X4_read_34 (kL_X4_read_34 q f) q m u := rfl
    rw [eK]
    unfold kB_X4_read_34 zl_law
    rw [if_neg (show ¬ 16 < m by omega)]
    rcases zl_cK ha hb hn hC hB h0 h1 hs hsp hm0 hm with ⟨a1, y, a3, a4⟩ | ⟨a1, y, s2, a3, a4, a5, a6⟩
    · have ng := zz_ft_neg (k := (zl_K T n m p).1) (p := (zl_K T n m p).2.1) (by have := kg.2.2; omega) (by have := kg.1; omega)
      rw [a3, if_neg a1]
      simp only [fz_lc, fz_lt, if_true]
      exact Or.inr ⟨a4, ng⟩
    · obtain ⟨z1, z2⟩ := kg.2.1 a1
      have zp := kg.1
      have m15 : m < 16 := by
        by_cases q : m = 16
        · exfalso
          unfold zl_K at a1
          rw [q] at a1
          by_cases L : zz_pk T n p = 112 ∨ zz_pk T n p = 100 ∨ zz_pk T n p = 115 ∨ zz_pk T n p = 111 ∨ zz_pk T n p = 108
          · rw [if_pos L, if_pos rfl] at a1
            exact absurd a1 (show ¬ ((4 : Int) = 0) by decide)
          · rw [if_neg L] at a1
            exact absurd a1 (show ¬ ((1 : Int) = 0) by decide)
        · omega
      rw [a3, if_pos a1]
      obtain ⟨P, hP⟩ : ∃ P : Int, P = (zl_K T n m p).2.1 := ⟨_, rfl⟩
      rw [← hP] at a4 a5 z1 z2 zp ⊢
      by_cases g : P < n
      · have ex := zl_exC (c := 59) hn (by decide) a4 (by omega)
        rw [if_pos g]
        by_cases g2 : zz_pk T n P = 59
        · rw [if_pos g2] at ex
          rw [if_pos g2]
          simp only [fz_lc, fz_lt, if_neg zz_n10, a4.2.1, a4.1.2.1, if_pos g, ex]
          exact ih (m + 1) (P + 1) s2 _ (by omega) (a4.pq ha) (a6.pq ha) (by omega) (by omega) a5.1 (by omega) (by omega) (by omega)
        · have ng := zz_ft_neg (k := 1) (p := P) (by decide) (by omega)
          rw [if_neg g2] at ex
          rw [if_neg g2]
          simp only [fz_lc, fz_lt, if_neg zz_n10, a4.2.1, a4.1.2.1, if_pos g, ex, if_true]
          exact Or.inr ⟨zz_ps, ng⟩
      · rw [if_neg g]
        simp only [fz_lc, fz_lt, if_neg zz_n10, a4.2.1, a4.1.2.1, if_neg g]
        exact Or.inl ⟨a6.2.2, a6.2.1, by omega, a4.1.2.2.1⟩
end LawB
