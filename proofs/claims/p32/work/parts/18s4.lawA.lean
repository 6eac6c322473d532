/-! THE LAW'S TEXT in the reference: a C whole, a clause, the law -/
def zl_cn (T : Nat → Int) (n p : Int) : zl_O := if zz_pk T n p = 40 then zl_ex T n 41 (zl_parts T n (zl_P T n 5) (p + 1)) else (1, p, [])
/-- a clause: so many stand before it -/
def zl_K (T : Nat → Int) (n m p : Int) : zl_O :=
  if zz_pk T n p = 112 ∨ zz_pk T n p = 100 ∨ zz_pk T n p = 115 ∨ zz_pk T n p = 111 ∨ zz_pk T n p = 108 then
    (if m = 16 then (4, p, []) else
      (if (zl_S T n 6 (p + 1)).1 = 0 then
        (if (zl_cn T n (zl_S T n 6 (p + 1)).2.1).1 = 0 then (0, (zl_cn T n (zl_S T n 6 (p + 1)).2.1).2.1, (zl_S T n 6 (p + 1)).2.2 ++ (zl_cn T n (zl_S T n 6 (p + 1)).2.1).2.2)
         else ((zl_cn T n (zl_S T n 6 (p + 1)).2.1).1, (zl_cn T n (zl_S T n 6 (p + 1)).2.1).2.1, []))
       else ((zl_S T n 6 (p + 1)).1, (zl_S T n 6 (p + 1)).2.1, [])))
  else (1, p, [])
/-- the law: how many clauses, or what is wrong -/
def zl_law (T : Nat → Int) (n : Int) : Nat → Int → Int → Int
  | 0, _, _ => 0
  | f + 1, m, p =>
    if (zl_K T n m p).1 = 0 then
      (if (zl_K T n m p).2.1 < n then (if zz_pk T n (zl_K T n m p).2.1 = 59 then zl_law T n f (m + 1) ((zl_K T n m p).2.1 + 1) else zz_ft 1 (zl_K T n m p).2.1) else m + 1)
    else zz_ft (zl_K T n m p).1 (zl_K T n m p).2.1
def zl_D0 (T : Nat → Int) (a2 tb bs bw : Nat) (n p c : Int) (w : fx_U) : Prop := (w a2 3 = (tb : Int) ∧ w a2 6 = n ∧ w a2 15 = (bs : Int) ∧ w a2 16 = (bw : Int)) ∧ (w a2 5 = p ∧ w a2 10 = c) ∧ ∀ i : Nat, (i : Int) < n → fx_b_and (w tb i) 255 = T i
def zl_B (a2 bl bf bh bt : Nat) (m : Int) (w : fx_U) : Prop := (w a2 17 = (bl : Int) ∧ w a2 18 = (bf : Int) ∧ w a2 19 = (bh : Int) ∧ w a2 20 = (bt : Int)) ∧ w a2 12 = m
def zl_ar (a2 tb bl bf bh bt : Nat) : Prop := (a2 ≠ bl ∧ a2 ≠ bf ∧ a2 ≠ bh ∧ a2 ≠ bt) ∧ (tb ≠ bl ∧ tb ≠ bf ∧ tb ≠ bh ∧ tb ≠ bt)
section LawA
variable {T : Nat → Int} {a2 tb bs bw bl bf bh bt : Nat} {n p c op m : Int} {W : List (Int × Int)} {w v : fx_U}
theorem zl_cn_g : zl_gd n (zl_cn T n) := by
  intro p h0 h1
  unfold zl_cn
  by_cases g : zz_pk T n p = 40
  · have z := zl_pc1_g (T := T) (n := n) (P := zl_P T n 5) (Q := zl_parts T n (zl_P T n 5)) (F := zl_S T n 6) (room := true) (fun _ => zl_P_g 5) (fun _ => zl_parts_g (zl_P_g 5)) (zl_S_g 6) p h0 h1
    unfold zl_pc1 at z
    rw [if_neg (by omega), if_pos g, if_pos rfl] at z
    rw [if_pos g]
    exact z
  · rw [if_neg g]
    exact ⟨⟨Int.le_refl p, h1⟩, fun z => absurd z (show ¬ ((1 : Int) = 0) by decide), (show (0 : Int) ≤ 1 ∧ (1 : Int) ≤ 5 by decide)⟩
theorem zl_K_g (h0 : 0 ≤ p) (h1 : p ≤ n) : zl_g1 n p (zl_K T n m p) := by
  unfold zl_K
  by_cases L : zz_pk T n p = 112 ∨ zz_pk T n p = 100 ∨ zz_pk T n p = 115 ∨ zz_pk T n p = 111 ∨ zz_pk T n p = 108
  · have hp := zz_pk_lt (T := T) (n := n) (p := p) (by omega)
    rw [if_pos L]
    by_cases m16 : m = 16
    · rw [if_pos m16]
      exact ⟨⟨Int.le_refl p, h1⟩, fun z => absurd z (show ¬ ((4 : Int) = 0) by decide), (show (0 : Int) ≤ 4 ∧ (4 : Int) ≤ 5 by decide)⟩
    · rw [if_neg m16]
      obtain ⟨⟨a1, a2⟩, a3, a4⟩ := zl_S_g (T := T) (n := n) 6 (p + 1) (by omega) (by omega)
      by_cases e : (zl_S T n 6 (p + 1)).1 = 0
      · obtain ⟨b1, b2⟩ := a3 e
        obtain ⟨⟨c1, c2⟩, c3, c4⟩ := zl_cn_g (T := T) (n := n) (zl_S T n 6 (p + 1)).2.1 (by omega) a2
        rw [if_pos e]
        by_cases k : (zl_cn T n (zl_S T n 6 (p + 1)).2.1).1 = 0
        · obtain ⟨d1, d2⟩ := c3 k
          rw [if_pos k]
          refine ⟨⟨?_, c2⟩, fun _ => ⟨?_, ?_⟩, (show (0 : Int) ≤ 0 ∧ (0 : Int) ≤ 5 by decide)⟩
          · show p ≤ (zl_cn T n (zl_S T n 6 (p + 1)).2.1).2.1
            omega
          · show p < (zl_cn T n (zl_S T n 6 (p + 1)).2.1).2.1
            omega
          · show (((zl_S T n 6 (p + 1)).2.2 ++ (zl_cn T n (zl_S T n 6 (p + 1)).2.1).2.2).length : Int) ≤ (zl_cn T n (zl_S T n 6 (p + 1)).2.1).2.1 - p
            rw [List.length_append]
            omega
        · rw [if_neg k]
          refine ⟨⟨?_, c2⟩, fun z => absurd z k, c4⟩
          show p ≤ (zl_cn T n (zl_S T n 6 (p + 1)).2.1).2.1
          omega
      · rw [if_neg e]
        refine ⟨⟨?_, a2⟩, fun z => absurd z e, a4⟩
        show p ≤ (zl_S T n 6 (p + 1)).2.1
        omega
  · rw [if_neg L]
    exact ⟨⟨Int.le_refl p, h1⟩, fun z => absurd z (show ¬ ((1 : Int) = 0) by decide), (show (0 : Int) ≤ 1 ∧ (1 : Int) ≤ 5 by decide)⟩
/-- the reference reads a C -/
theorem zl_rC (ha : zl_aq a2 tb bs bw) (hn : n ≤ 240) (hD : zl_D T a2 tb bs bw n p op c W w) (h0 : 0 ≤ p) (h1 : p ≤ n) (hc : 0 ≤ c) (hcp : c ≤ p) :
    ((zl_cn T n p).1 ≠ 0 ∧ ∃ y : fx_U, f_X12_readsCondition w a2 = (0, y) ∧ y a2 7 = zz_ft (zl_cn T n p).1 (zl_cn T n p).2.1 ∧ zl_eq a2 bs bw c w y) ∨ ((zl_cn T n p).1 = 0 ∧ ∃ y : fx_U, f_X12_readsCondition w a2 = (1, y) ∧ zl_D T a2 tb bs bw n (zl_cn T n p).2.1 0 (c + ((zl_cn T n p).2.2.length : Int)) [] y ∧ zl_ce bs y c (zl_cn T n p).2.2 ∧ zl_eq a2 bs bw c w y) := by
  by_cases g : zz_pk T n p = 40
  · have hp := zz_pk_lt (T := T) (n := n) (p := p) (by omega)
    obtain ⟨d1, k1⟩ := zl_opn ha (x := 0) hD
    have k2 : zl_eq a2 bs bw c (fx_pt w a2 9 0) (fx_pt (fx_pt w a2 9 0) a2 11 0) := zl_eq.pt ha (by decide)
    have d2 : zl_D T a2 tb bs bw n p 0 c [] (fx_pt (fx_pt w a2 9 0) a2 11 0) := d1.mv ha k2 ((zz_pj (by decide)).trans d1.2.1.1) ((zz_pj (by decide)).trans d1.2.1.2.1) ((zz_pj (by decide)).trans d1.2.1.2.2.1) (zz_ps.trans rfl) True.intro
    obtain ⟨w1, e1, e2, e3⟩ := zl_opensR ha (k := 13) d2 (by decide)
    have kE : zl_eq a2 bs bw c w w1 := k1.tr (k2.tr e3 (Int.le_refl c)) (Int.le_refl c)
    have eR : f_X12_readsCondition w a2 = zl_AA a2 (Int.toNat (260 - (p + 1)) + 1) w1 := by
      unfold f_X12_readsCondition zl_AA
      simp only [fz_lt, fz_lr, fz_ls, fz_lc, zl_hr hD h0, if_pos g, e1, if_neg zz_n10, hD.2.1.2.2.1, e2.2.1.1, e2.2.1.2.2.1]
    have o1 : (0 : Int) + 1 = 6 - ((5 : Nat) : Int) := by decide
    have e2' := e2
    rw [o1] at e2'
    have lW : ((([((13 : Int), (0 : Int))] : List (Int × Int)).length : Nat) : Int) = 1 := rfl
    have res := zl_partsR ha hn ((zl_PR ha hn 5 (by decide)).G (by decide)) (zl_P_g 5) (Int.toNat (260 - (p + 1)) + 1) (p + 1) c [(13, 0)] w1 e2' (by omega) (by omega) hc (by omega) (by omega) ⟨(13, 0), [], rfl, Int.le_refl 13, Int.le_refl 13⟩ (by omega)
    rw [← o1] at res
    have gg := zl_parts_g (T := T) (zl_P_g (T := T) (n := n) 5) (p + 1) (by omega) (by omega)
    have en := zl_parts_en (T := T) (p := p + 1) hn (zl_P_g (T := T) (n := n) 5) (by omega) (by omega)
    have ec : zl_cn T n p = zl_ex T n 41 (zl_parts T n (zl_P T n 5) (p + 1)) := by
      unfold zl_cn
      rw [if_pos g]
    rw [eR, ec]
    obtain ⟨r, hr⟩ : ∃ r : zl_O, r = zl_parts T n (zl_P T n 5) (p + 1) := ⟨_, rfl⟩
    rw [← hr] at res gg en ⊢
    obtain ⟨⟨b1, b2⟩, b3, b4⟩ := gg
    unfold zl_ex
    by_cases r0 : r.1 = 0
    · obtain ⟨b5, b6⟩ := b3 r0
      rw [if_pos r0]
      by_cases s : zz_pk T n r.2.1 = 41
      · have hq := zz_pk_lt (T := T) (n := n) (p := r.2.1) (by omega)
        obtain ⟨m, F, y, c1, c2, c3, c4, c5, c6, c7⟩ := zl_cl ha hn (by decide) hc r0 ⟨by omega, hq⟩ (by omega) s res
        rw [if_pos (show ((([] : List (Int × Int)).length : Nat) : Int) = 0 from rfl)] at c7
        rw [if_pos s]
        exact Or.inr ⟨rfl, y, c7, c3, c5, kE.tr c6 (Int.le_refl c)⟩
      · obtain ⟨y, c1, c2, c3⟩ := zl_ncl ha hn r0 ⟨by omega, b2⟩ s (en r0) res
        rw [if_neg s]
        exact Or.inl ⟨(show ¬ ((1 : Int) = 0) by decide), y, c1, c2, kE.tr c3 (Int.le_refl c)⟩
    · rw [if_neg r0]
      rcases res with ⟨a1, a2', a3, a4⟩ | ⟨a1, -⟩
      · refine Or.inl ⟨a1, (zl_AA a2 (Int.toNat (260 - (p + 1)) + 1) w1).2, ?_, a3, kE.tr a4 (Int.le_refl c)⟩
        rw [← a2']
      · exact absurd a1 r0
  · have ec : zl_cn T n p = (1, p, []) := by
      unfold zl_cn
      rw [if_neg g]
    have eR : f_X12_readsCondition w a2 = (0, fx_pt w a2 7 (zz_ft 1 p)) := by
      unfold f_X12_readsCondition
      simp only [fz_lt, fz_lr, fz_ls, fz_lc, zl_hr hD h0, if_neg g, zz_wrong, hD.2.1.1]
    rw [ec]
    exact Or.inl ⟨(show ¬ ((1 : Int) = 0) by decide), _, eR, zz_ps, zl_eq.pt ha (by decide)⟩
theorem zl_hr0 (h : zl_D0 T a2 tb bs bw n p c w) (h0 : 0 ≤ p) : f_X12_here w a2 = zz_pk T n p := by
  obtain ⟨⟨h1, h2, -, -⟩, ⟨h3, -⟩, h4⟩ := h
  unfold f_X12_here zz_pk
  simp only [fz_lt, fz_lr, h1, h2, h3, Int.toNat_natCast]
  by_cases k : p < n
  · rw [if_pos k, if_pos k]
    exact h4 p.toNat (by omega)
  · rw [if_neg k, if_neg k]
theorem zl_ic1 {x : Int} (h : x = 112 ∨ x = 100 ∨ x = 115 ∨ x = 111 ∨ x = 108) : f_X12_isClause w x = 1 := by
  rcases h with rfl | rfl | rfl | rfl | rfl <;> rfl
theorem zl_ic0 {x : Int} (h : ¬ (x = 112 ∨ x = 100 ∨ x = 115 ∨ x = 111 ∨ x = 108)) : f_X12_isClause w x = 0 := by
  unfold f_X12_isClause
  rw [if_neg (by omega), if_neg (by omega), if_neg (by omega), if_neg (by omega), if_neg (by omega)]
/-- a store into a row that is no part of it -/
theorem zl_D.ot {b j : Nat} {x o : Int} (h1 : a2 ≠ b) (h2 : tb ≠ b) (h : zl_D T a2 tb bs bw n p o c [] w) : zl_D T a2 tb bs bw n p o c [] (fx_pt w b j x) := by
  obtain ⟨⟨a1, a3, a4, a5⟩, ⟨b1, b2, b3, b4⟩, -, c1⟩ := h
  exact ⟨⟨(zz_pa h1).trans a1, (zz_pa h1).trans a3, (zz_pa h1).trans a4, (zz_pa h1).trans a5⟩, ⟨(zz_pa h1).trans b1, (zz_pa h1).trans b2, (zz_pa h1).trans b3, (zz_pa h1).trans b4⟩, True.intro, fun i hi => by rw [zz_pa h2]; exact c1 i hi⟩
/-- the reference reads a clause -/
theorem zl_rK (ha : zl_aq a2 tb bs bw) (hb : zl_ar a2 tb bl bf bh bt) (hn : n ≤ 240) (hD : zl_D0 T a2 tb bs bw n p c w) (hB : zl_B a2 bl bf bh bt m w) (h0 : 0 ≤ p) (h1 : p ≤ n) (hc : 0 ≤ c) (hcp : c ≤ p) :
    ((zl_K T n m p).1 ≠ 0 ∧ ∃ y : fx_U, f_X12_readsClause w a2 = (0, y) ∧ y a2 7 = zz_ft (zl_K T n m p).1 (zl_K T n m p).2.1) ∨ ((zl_K T n m p).1 = 0 ∧ ∃ y : fx_U, f_X12_readsClause w a2 = (1, y) ∧ zl_D0 T a2 tb bs bw n (zl_K T n m p).2.1 (c + ((zl_K T n m p).2.2.length : Int)) y ∧ zl_B a2 bl bf bh bt (m + 1) y) := by
  obtain ⟨⟨n1, n2, n3, n4⟩, o1, o2, o3, o4⟩ := hb
  obtain ⟨⟨l1, l2, l3, l4⟩, lm⟩ := hB
  have hh := zl_hr0 hD h0
  unfold zl_K
  by_cases L : zz_pk T n p = 112 ∨ zz_pk T n p = 100 ∨ zz_pk T n p = 115 ∨ zz_pk T n p = 111 ∨ zz_pk T n p = 108
  · have hp := zz_pk_lt (T := T) (n := n) (p := p) (by omega)
    have ic := zl_ic1 (w := w) L
    rw [if_pos L]
    by_cases m16 : m = 16
    · rw [if_pos m16]
      refine Or.inl ⟨(show ¬ ((4 : Int) = 0) by decide), fx_pt w a2 7 (zz_ft 4 p), ?_, zz_ps⟩
      unfold f_X12_readsClause
      simp only [fz_lt, fz_lr, fz_lc, hh, ic, if_neg zz_n10, lm, if_pos m16, zz_wrong, hD.2.1.1]
    · rw [if_neg m16]
      obtain ⟨w5, hw5⟩ : ∃ x : fx_U, x = fx_pt (fx_pt (fx_pt (fx_pt (fx_pt w bl m.toNat (zz_pk T n p)) a2 5 (p + 1)) bf m.toNat c) a2 9 0) a2 11 0 := ⟨_, rfl⟩
      have q5 : ∀ k : Nat, k ≠ 5 → k ≠ 9 → k ≠ 11 → w5 a2 k = w a2 k := fun k h1 h2 h3 => by
        rw [hw5]
        exact (zz_pj h3).trans ((zz_pj h2).trans ((zz_pa n2).trans ((zz_pj h1).trans (zz_pa n1))))
      have tA := ha.1.1
      have d5 : zl_D T a2 tb bs bw n (p + 1) 0 c [] w5 := by
        refine ⟨⟨(q5 3 (by decide) (by decide) (by decide)).trans hD.1.1, (q5 6 (by decide) (by decide) (by decide)).trans hD.1.2.1, (q5 15 (by decide) (by decide) (by decide)).trans hD.1.2.2.1, (q5 16 (by decide) (by decide) (by decide)).trans hD.1.2.2.2⟩, ⟨?_, ?_, (q5 10 (by decide) (by decide) (by decide)).trans hD.2.1.2, ?_⟩, True.intro, fun i hi => ?_⟩
        · rw [hw5]
          exact (zz_pj (by decide)).trans ((zz_pj (by decide)).trans ((zz_pa n2).trans zz_ps))
        · rw [hw5]
          exact (zz_pj (by decide)).trans zz_ps
        · rw [hw5]
          exact zz_ps.trans rfl
        · rw [hw5, zz_pa tA, zz_pa tA, zz_pa o2, zz_pa tA, zz_pa o1]
          exact hD.2.2 i hi
      have sg := zl_S_g (T := T) (n := n) 6 (p + 1) (by omega) (by omega)
      rcases zl_rS ha hn (d := 6) (by decide) (by decide) d5 (by omega) (by omega) hc (by show ((0 : Nat) : Int) ≤ p + 1; omega) (fun x R z => by cases z) with ⟨a1, y, a3, a4, a5⟩ | ⟨a1, y, a3, a4, a5, a6⟩
      · rw [if_neg a1]
        refine Or.inl ⟨a1, y, ?_, a4⟩
        unfold f_X12_readsClause
        simp only [fz_lt, fz_lr, fz_ls, fz_lc, hh, ic, if_neg zz_n10, lm, if_neg m16, hD.2.1.1, hD.2.1.2, l1, l2, Int.toNat_natCast, ← hw5, a3, if_true]
      · obtain ⟨z1, z2⟩ := sg.2.1 a1
        rw [if_pos a1]
        obtain ⟨y1, hy1⟩ : ∃ x : fx_U, x = fx_pt y bh m.toNat (c + ((zl_S T n 6 (p + 1)).2.2.length : Int)) := ⟨_, rfl⟩
        have dy : zl_D T a2 tb bs bw n (zl_S T n 6 (p + 1)).2.1 0 (c + ((zl_S T n 6 (p + 1)).2.2.length : Int)) [] y1 := by
          rw [hy1]
          exact a4.ot n3 o3
        have cg := zl_cn_g (T := T) (n := n) (zl_S T n 6 (p + 1)).2.1 (by omega) sg.1.2
        rcases zl_rC ha hn dy (by omega) sg.1.2 (by omega) (by omega) with ⟨b1, x, b3, b4, b5⟩ | ⟨b1, x, b3, b4, b5, b6⟩
        · rw [if_neg b1]
          refine Or.inl ⟨b1, x, ?_, b4⟩
          unfold f_X12_readsClause
          simp only [fz_lt, fz_lr, fz_ls, fz_lc, hh, ic, if_neg zz_n10, lm, if_neg m16, hD.2.1.1, hD.2.1.2, l1, l2, l3, Int.toNat_natCast, ← hw5, a3, a4.2.1.2.2.1, ← hy1, b3, if_true]
        · rw [if_pos b1]
          have qx : ∀ k : Nat, k ≠ 5 → k ≠ 7 → k ≠ 8 → k ≠ 9 → k ≠ 10 → k ≠ 11 → x a2 k = w a2 k := fun k h1 h2 h3 h4 h5 h6 => by
            rw [b6.2.1 k h1 h2 h3 h4 h5 h6, hy1, zz_pa n3, a6.2.1 k h1 h2 h3 h4 h5 h6, q5 k h1 h4 h6]
          have dx := b4.ot (j := m.toNat) (x := c + ((zl_S T n 6 (p + 1)).2.2.length : Int) + ((zl_cn T n (zl_S T n 6 (p + 1)).2.1).2.2.length : Int)) n4 o4
          refine Or.inr ⟨rfl, fx_pt (fx_pt x bt m.toNat (c + ((zl_S T n 6 (p + 1)).2.2.length : Int) + ((zl_cn T n (zl_S T n 6 (p + 1)).2.1).2.2.length : Int))) a2 12 (m + 1), ?_, ⟨⟨?_, ?_, ?_, ?_⟩, ⟨?_, ?_⟩, fun i hi => ?_⟩, ⟨⟨?_, ?_, ?_, ?_⟩, zz_ps⟩⟩
          · unfold f_X12_readsClause
            simp only [fz_lt, fz_lr, fz_ls, fz_lc, hh, ic, if_neg zz_n10, lm, if_neg m16, hD.2.1.1, hD.2.1.2, l1, l2, l3, l4, Int.toNat_natCast, ← hw5, a3, a4.2.1.2.2.1, ← hy1, b3, b4.2.1.2.2.1]
          · exact (zz_pj (by decide)).trans dx.1.1
          · exact (zz_pj (by decide)).trans dx.1.2.1
          · exact (zz_pj (by decide)).trans dx.1.2.2.1
          · exact (zz_pj (by decide)).trans dx.1.2.2.2
          · exact (zz_pj (by decide)).trans dx.2.1.1
          · show fx_pt _ a2 12 (m + 1) a2 10 = c + (((zl_S T n 6 (p + 1)).2.2 ++ (zl_cn T n (zl_S T n 6 (p + 1)).2.1).2.2).length : Int)
            rw [List.length_append, show c + (((zl_S T n 6 (p + 1)).2.2.length + (zl_cn T n (zl_S T n 6 (p + 1)).2.1).2.2.length : Nat) : Int) = c + ((zl_S T n 6 (p + 1)).2.2.length : Int) + ((zl_cn T n (zl_S T n 6 (p + 1)).2.1).2.2.length : Int) by omega]
            exact (zz_pj (by decide)).trans dx.2.1.2.2.1
          · rw [zz_pa tA]
            exact dx.2.2.2 i hi
          · exact (zz_pj (by decide)).trans ((zz_pa n4).trans ((qx 17 (by decide) (by decide) (by decide) (by decide) (by decide) (by decide)).trans l1))
          · exact (zz_pj (by decide)).trans ((zz_pa n4).trans ((qx 18 (by decide) (by decide) (by decide) (by decide) (by decide) (by decide)).trans l2))
          · exact (zz_pj (by decide)).trans ((zz_pa n4).trans ((qx 19 (by decide) (by decide) (by decide) (by decide) (by decide) (by decide)).trans l3))
          · exact (zz_pj (by decide)).trans ((zz_pa n4).trans ((qx 20 (by decide) (by decide) (by decide) (by decide) (by decide) (by decide)).trans l4))
  · have ic := zl_ic0 (w := w) L
    rw [if_neg L]
    refine Or.inl ⟨(show ¬ ((1 : Int) = 0) by decide), fx_pt w a2 7 (zz_ft 1 p), ?_, zz_ps⟩
    unfold f_X12_readsClause
    simp only [fz_lt, fz_lr, fz_lc, hh, ic, if_true, zz_wrong, hD.2.1.1]
/-- what was said is copied: the answer is the number of clauses -/
theorem zl_c138 {bcf bch bct : Nat} : ∀ (f : Nat) (k : Int) (u : fx_U), m - k < (f : Int) → 0 < f → (kL_X12_law_138 m a2 bf bcf bh bch bt bct f k u).1 = m := by
  intro f
  induction f with
  | zero => intro k u _ h; omega
  | succ f ih =>
    intro k u h _
    have eK : kL_X12_law_138 m a2 bf bcf bh bch bt bct (f + 1) k u = kB_X12_law_138 (kL_X12_law_138 m a2 bf bcf bh bch bt bct f) m a2 bf bcf bh bch bt bct k u := rfl
    rw [eK]
    unfold kB_X12_law_138
    simp only [fz_lt, fz_lr, fz_ls]
    by_cases g : k < m
    · rw [if_pos g]
      exact ih _ _ (by omega) (by omega)
    · rw [if_neg g]
theorem zl_c110 {bc bcf bch bct : Nat} (hm : m ≤ 16) : ∀ (f : Nat) (k : Int) (u : fx_U), c - k < (f : Int) → 0 < f → (kL_X12_law_110 c bs bc m a2 bf bcf bh bch bt bct f k u).1 = m := by
  intro f
  induction f with
  | zero => intro k u _ h; omega
  | succ f ih =>
    intro k u h _
    have eK : kL_X12_law_110 c bs bc m a2 bf bcf bh bch bt bct (f + 1) k u = kB_X12_law_110 (kL_X12_law_110 c bs bc m a2 bf bcf bh bch bt bct f) c bs bc m a2 bf bcf bh bch bt bct k u := rfl
    rw [eK]
    unfold kB_X12_law_110
    simp only [fz_lt, fz_ls]
    by_cases g : k < c
    · rw [if_pos g]
      exact ih _ _ (by omega) (by omega)
    · rw [if_neg g, show Int.toNat (16 - 0) + 1 = 17 from rfl]
      exact zl_c138 17 0 u (by omega) (by decide)
def zl_Y (a2 bs bc bf bcf bh bch bt bct F : Nat) (x : Int × fx_U) : Int × fx_U := kL_X12_law_46 a2 bs bc bf bcf bh bch bt bct F x.1 x.2 (x.2 a2 10) (x.2 a2 11) (x.2 a2 5) (x.2 a2 12)
theorem zl_Y0 {bc bcf bch bct F : Nat} {y : fx_U} : (zl_Y a2 bs bc bf bcf bh bch bt bct (F + 1) (0, y)).1 = y a2 7 := by
  have eK : zl_Y a2 bs bc bf bcf bh bch bt bct (F + 1) (0, y) = kB_X12_law_46 (kL_X12_law_46 a2 bs bc bf bcf bh bch bt bct F) a2 bs bc bf bcf bh bch bt bct 0 y (y a2 10) (y a2 11) (y a2 5) (y a2 12) := rfl
  rw [eK]
  unfold kB_X12_law_46 kJ_X12_law_86
  simp only [if_true, fz_lt, fz_ls]
  exact zz_pj (by decide)
/-- the reference reads the law -/
theorem zl_rL {bc bcf bch bct : Nat} (ha : zl_aq a2 tb bs bw) (hb : zl_ar a2 tb bl bf bh bt) (hn : n ≤ 240) : ∀ (f F : Nat) (m p c : Int) (w : fx_U), 16 - m < (f : Int) → n - p + 1 < (F : Int) → zl_D0 T a2 tb bs bw n p c w → zl_B a2 bl bf bh bt m w → 0 ≤ p → p ≤ n → 0 ≤ c → c ≤ p → 0 ≤ m → m ≤ 16 → (zl_Y a2 bs bc bf bcf bh bch bt bct F (f_X12_readsClause w a2)).1 = zl_law T n f m p := by
  intro f
  induction f with
  | zero => intro F m p c w h1 _ _ _ _ _ _ _ _ h; omega
  | succ f ih =>
    intro F m p c w hf hF hD hB h0 h1 hc hcp hm0 hm
    obtain ⟨G, rfl⟩ : ∃ G : Nat, F = G + 1 := ⟨F - 1, by omega⟩
    have kg := zl_K_g (T := T) (m := m) h0 h1
    unfold zl_law
    rcases zl_rK ha hb hn hD hB h0 h1 hc hcp with ⟨a1, y, a3, a4⟩ | ⟨a1, y, a3, a4, a5⟩
    · rw [if_neg a1, a3, zl_Y0]
      exact a4
    · obtain ⟨z1, z2⟩ := kg.2.1 a1
      have zp := kg.1
      have m15 : m < 16 := by
        by_cases q : m = 16
        · exfalso
          unfold zl_K at a1
          rw [q] at a1
          by_cases L : zz_pk T n p = 112 ∨ zz_pk T n p = 100 ∨ zz_pk T n p = 115 ∨ zz_pk T n p = 111 ∨ zz_pk T n p = 108
          · rw [if_pos L, if_pos rfl] at a1
            exact absurd a1 (show ¬ ((4 : Int) = 0) by decide)
          · rw [if_neg L] at a1
            exact absurd a1 (show ¬ ((1 : Int) = 0) by decide)
        · omega
      rw [if_pos a1, a3]
      have hh := zl_hr0 a4 (show 0 ≤ (zl_K T n m p).2.1 by omega)
      have eK : zl_Y a2 bs bc bf bcf bh bch bt bct (G + 1) (1, y) = kB_X12_law_46 (kL_X12_law_46 a2 bs bc bf bcf bh bch bt bct G) a2 bs bc bf bcf bh bch bt bct 1 y (y a2 10) (y a2 11) (y a2 5) (y a2 12) := rfl
      rw [eK]
      obtain ⟨P, hP⟩ : ∃ P : Int, P = (zl_K T n m p).2.1 := ⟨_, rfl⟩
      rw [← hP] at a4 z1 z2 zp hh ⊢
      by_cases q : P < n
      · rw [if_pos q]
        by_cases s : zz_pk T n P = 59
        · rw [if_pos s]
          have tk : f_X12_takes y a2 59 = (1, fx_pt y a2 5 (P + 1)) := by
            unfold f_X12_takes
            simp only [fz_lt, fz_ls, hh, if_pos s, a4.2.1.1]
          obtain ⟨y1, hy1⟩ : ∃ x : fx_U, x = fx_pt y a2 5 (P + 1) := ⟨_, rfl⟩
          rw [← hy1] at tk
          have D1 : zl_D0 T a2 tb bs bw n (P + 1) (c + ((zl_K T n m p).2.2.length : Int)) y1 := by
            rw [hy1]
            exact ⟨⟨(zz_pj (by decide)).trans a4.1.1, (zz_pj (by decide)).trans a4.1.2.1, (zz_pj (by decide)).trans a4.1.2.2.1, (zz_pj (by decide)).trans a4.1.2.2.2⟩, ⟨zz_ps, (zz_pj (by decide)).trans a4.2.1.2⟩, fun i hi => by rw [zz_pa ha.1.1]; exact a4.2.2 i hi⟩
          have B1 : zl_B a2 bl bf bh bt (m + 1) y1 := by
            rw [hy1]
            exact ⟨⟨(zz_pj (by decide)).trans a5.1.1, (zz_pj (by decide)).trans a5.1.2.1, (zz_pj (by decide)).trans a5.1.2.2.1, (zz_pj (by decide)).trans a5.1.2.2.2⟩, (zz_pj (by decide)).trans a5.2⟩
          have nxt := ih G (m + 1) (P + 1) (c + ((zl_K T n m p).2.2.length : Int)) y1 (by omega) (by omega) D1 B1 (by omega) (by omega) (by omega) (by omega) (by omega) (by omega)
          rw [← nxt]
          rcases zl_rK ha hb hn D1 B1 (by omega) (by omega) (by omega) (by omega) with ⟨-, x, b3, -⟩ | ⟨-, x, b3, -⟩
          · rw [b3]
            unfold kB_X12_law_46 kJ_X12_law_81 kJ_X12_law_82
            simp only [fz_lt, fz_lc, if_neg zz_n10, a4.1.2.1, a4.2.1.1, if_pos q, tk, b3, if_true]
            rfl
          · rw [b3]
            unfold kB_X12_law_46 kJ_X12_law_81 kJ_X12_law_82
            simp only [fz_lt, fz_lc, if_neg zz_n10, a4.1.2.1, a4.2.1.1, if_pos q, tk, b3]
            rfl
        · rw [if_neg s]
          have tk : f_X12_takes y a2 59 = (0, fx_pt y a2 7 (zz_ft 1 P)) := by
            unfold f_X12_takes
            simp only [fz_lt, fz_lc, hh, if_neg s, a4.2.1.1, zz_wrong]
          obtain ⟨H, rfl⟩ : ∃ H : Nat, G = H + 1 := ⟨G - 1, by omega⟩
          have zY := zl_Y0 (a2 := a2) (bs := bs) (bf := bf) (bh := bh) (bt := bt) (bc := bc) (bcf := bcf) (bch := bch) (bct := bct) (F := H) (y := fx_pt y a2 7 (zz_ft 1 P))
          rw [zz_ps] at zY
          rw [← zY]
          unfold kB_X12_law_46 kJ_X12_law_81 kJ_X12_law_82
          simp only [fz_lt, fz_lc, if_neg zz_n10, a4.1.2.1, a4.2.1.1, if_pos q, tk, if_true]
          rfl
      · rw [if_neg q]
        unfold kB_X12_law_46 kJ_X12_law_86
        simp only [fz_lt, fz_ls, if_neg zz_n10, a4.1.2.1, a4.2.1.1, if_neg q, a5.2, a4.2.1.2]
        rw [show Int.toNat (260 - 0) + 1 = 261 from rfl]
        exact zl_c110 (by omega) 261 0 _ (by omega) (by decide)
end LawA
