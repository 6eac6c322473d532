/-! THE LAW'S CLAUSES as the reference says them -/
abbrev zl_L : Type := List (Int × List (Int × Int) × List (Int × Int))
def zl_kk (T : Nat → Int) (n p : Int) : Int × List (Int × Int) × List (Int × Int) := (zz_pk T n p, (zl_S T n 6 (p + 1)).2.2, (zl_cn T n (zl_S T n 6 (p + 1)).2.1).2.2)
def zl_cls (T : Nat → Int) (n : Int) : Nat → Int → Int → zl_L
  | 0, _, _ => []
  | f + 1, m, p => zl_kk T n p :: (if (zl_K T n m p).2.1 < n then zl_cls T n f (m + 1) ((zl_K T n m p).2.1 + 1) else [])
def zl_as (bs bw bl bf bh bt : Nat) : Prop := (bl ≠ bs ∧ bf ≠ bs ∧ bh ≠ bs ∧ bt ≠ bs) ∧ (bl ≠ bw ∧ bf ≠ bw ∧ bh ≠ bw ∧ bt ≠ bw) ∧ (bl ≠ bf ∧ bl ≠ bh ∧ bl ≠ bt) ∧ (bf ≠ bh ∧ bf ≠ bt) ∧ bh ≠ bt
/-- what lies elsewhere is as it was, and so is what was said before -/
def zl_f0 (a2 bs bw bl bf bh bt : Nat) (m c : Int) (w v : fx_U) : Prop := (∀ b : Nat, b ≠ a2 → b ≠ bs → b ≠ bw → b ≠ bl → b ≠ bf → b ≠ bh → b ≠ bt → ∀ i : Nat, v b i = w b i) ∧ (∀ j : Nat, j ≠ 5 → j ≠ 7 → j ≠ 8 → j ≠ 9 → j ≠ 10 → j ≠ 11 → j ≠ 12 → v a2 j = w a2 j) ∧ (∀ j : Nat, (j : Int) < m → v bl j = w bl j ∧ v bf j = w bf j ∧ v bh j = w bh j ∧ v bt j = w bt j) ∧ ∀ i : Nat, (i : Int) < c → v bs i = w bs i
/-- a clause as it is said -/
def zl_k1 (bl bf bh bt bs : Nat) (e : Int) (v : fx_U) (j : Nat) (x : Int × List (Int × Int) × List (Int × Int)) : Prop := v bl j = x.1 ∧ (0 ≤ v bf j ∧ v bh j = v bf j + (x.2.1.length : Int)) ∧ zl_ce bs v (v bf j) x.2.1 ∧ (v bt j = v bh j + (x.2.2.length : Int) ∧ v bt j ≤ e) ∧ zl_ce bs v (v bh j) x.2.2
def zl_Lr (bl bf bh bt bs : Nat) (e : Int) (v : fx_U) : Nat → zl_L → Prop
  | _, [] => True
  | j, x :: R => zl_k1 bl bf bh bt bs e v j x ∧ zl_Lr bl bf bh bt bs e v (j + 1) R
section LawK
variable {T : Nat → Int} {a2 tb bs bw bl bf bh bt : Nat} {n p c c2 m m2 e : Int} {w v y : fx_U}
theorem zl_f0.rf : zl_f0 a2 bs bw bl bf bh bt m c w w := ⟨fun _ _ _ _ _ _ _ _ _ => rfl, fun _ _ _ _ _ _ _ _ => rfl, fun _ _ => ⟨rfl, rfl, rfl, rfl⟩, fun _ _ => rfl⟩
theorem zl_f0.tr (h : zl_f0 a2 bs bw bl bf bh bt m c w v) (k : zl_f0 a2 bs bw bl bf bh bt m2 c2 v y) (hm : m ≤ m2) (hc : c ≤ c2) : zl_f0 a2 bs bw bl bf bh bt m c w y := by
  obtain ⟨h1, h2, h3, h4⟩ := h
  obtain ⟨k1, k2, k3, k4⟩ := k
  refine ⟨fun b q1 q2 q3 q4 q5 q6 q7 i => (k1 b q1 q2 q3 q4 q5 q6 q7 i).trans (h1 b q1 q2 q3 q4 q5 q6 q7 i), fun j q1 q2 q3 q4 q5 q6 q7 => (k2 j q1 q2 q3 q4 q5 q6 q7).trans (h2 j q1 q2 q3 q4 q5 q6 q7), fun j hj => ?_, fun i hi => (k4 i (by omega)).trans (h4 i hi)⟩
  obtain ⟨x1, x2, x3, x4⟩ := h3 j hj
  obtain ⟨z1, z2, z3, z4⟩ := k3 j (by omega)
  exact ⟨z1.trans x1, z2.trans x2, z3.trans x3, z4.trans x4⟩
theorem zl_f0.eq (hb : zl_ar a2 tb bl bf bh bt) (hs : zl_as bs bw bl bf bh bt) (k : zl_eq a2 bs bw c w v) : zl_f0 a2 bs bw bl bf bh bt m c w v := by
  obtain ⟨⟨n1, n2, n3, n4⟩, -⟩ := hb
  obtain ⟨⟨s1, s2, s3, s4⟩, ⟨w1, w2, w3, w4⟩, -⟩ := hs
  exact ⟨fun b q1 q2 q3 _ _ _ _ i => k.1 b q1 q2 q3 i, fun j q1 q2 q3 q4 q5 q6 _ => k.2.1 j q1 q2 q3 q4 q5 q6, fun j _ => ⟨k.1 bl (Ne.symm n1) s1 w1 j, k.1 bf (Ne.symm n2) s2 w2 j, k.1 bh (Ne.symm n3) s3 w3 j, k.1 bt (Ne.symm n4) s4 w4 j⟩, k.2.2⟩
theorem zl_f0.row {b j : Nat} {x : Int} (h : b = bl ∨ b = bf ∨ b = bh ∨ b = bt) (h1 : a2 ≠ b) (h2 : bs ≠ b) (hj : m ≤ (j : Int)) : zl_f0 a2 bs bw bl bf bh bt m c w (fx_pt w b j x) := by
  refine ⟨fun d _ _ _ q4 q5 q6 q7 i => zz_pa ?_, fun i _ _ _ _ _ _ _ => zz_pa h1, fun i hi => ?_, fun i _ => zz_pa h2⟩
  · rcases h with h | h | h | h <;> rw [h] <;> assumption
  · have q : i ≠ j := by omega
    exact ⟨zz_pj q, zz_pj q, zz_pj q, zz_pj q⟩
theorem zl_f0.pt (ha : zl_aq a2 tb bs bw) (hb : zl_ar a2 tb bl bf bh bt) {j : Nat} {x : Int} (hj : j = 5 ∨ j = 7 ∨ j = 8 ∨ j = 9 ∨ j = 10 ∨ j = 11 ∨ j = 12) : zl_f0 a2 bs bw bl bf bh bt m c w (fx_pt w a2 j x) := by
  obtain ⟨⟨n1, n2, n3, n4⟩, -⟩ := hb
  exact ⟨fun b q1 _ _ _ _ _ _ i => zz_pa q1, fun i h1 h2 h3 h4 h5 h6 h7 => zz_pj (by omega), fun i _ => ⟨zz_pa (Ne.symm n1), zz_pa (Ne.symm n2), zz_pa (Ne.symm n3), zz_pa (Ne.symm n4)⟩, fun i _ => zz_pa ha.2.2.1.1⟩
theorem zl_k1.mv {j : Nat} {x : Int × List (Int × Int) × List (Int × Int)} {e2 : Int} (h : zl_k1 bl bf bh bt bs e w j x) (he : e ≤ e2) (hr : v bl j = w bl j ∧ v bf j = w bf j ∧ v bh j = w bh j ∧ v bt j = w bt j) (hc : ∀ i : Nat, (i : Int) < e → v bs i = w bs i) : zl_k1 bl bf bh bt bs e2 v j x := by
  obtain ⟨a1, ⟨a3, a4⟩, a5, ⟨a6, a7⟩, a8⟩ := h
  obtain ⟨r1, r2, r3, r4⟩ := hr
  refine ⟨r1.trans a1, ⟨by omega, by omega⟩, ?_, ⟨by omega, by omega⟩, ?_⟩
  · rw [r2]
    exact zl_ce_keep (e := e) hc _ _ a3 (by omega) a5
  · rw [r3]
    exact zl_ce_keep (e := e) hc _ _ (by omega) (by omega) a8
/-- the reference reads a clause: what it says, and what stays -/
theorem zl_rK2 (ha : zl_aq a2 tb bs bw) (hb : zl_ar a2 tb bl bf bh bt) (hs : zl_as bs bw bl bf bh bt) (hn : n ≤ 240) (hD : zl_D0 T a2 tb bs bw n p c w) (hB : zl_B a2 bl bf bh bt m w) (h0 : 0 ≤ p) (h1 : p ≤ n) (hc : 0 ≤ c) (hcp : c ≤ p) (hm : 0 ≤ m) :
    ((zl_K T n m p).1 ≠ 0 ∧ ∃ y : fx_U, f_X12_readsClause w a2 = (0, y) ∧ y a2 7 = zz_ft (zl_K T n m p).1 (zl_K T n m p).2.1 ∧ zl_f0 a2 bs bw bl bf bh bt m c w y) ∨ ((zl_K T n m p).1 = 0 ∧ ∃ y : fx_U, f_X12_readsClause w a2 = (1, y) ∧ zl_D0 T a2 tb bs bw n (zl_K T n m p).2.1 (c + ((zl_K T n m p).2.2.length : Int)) y ∧ zl_B a2 bl bf bh bt (m + 1) y ∧ zl_f0 a2 bs bw bl bf bh bt m c w y ∧ zl_k1 bl bf bh bt bs (c + ((zl_K T n m p).2.2.length : Int)) y m.toNat (zl_kk T n p)) := by
  have hb0 := hb
  have hs0 := hs
  obtain ⟨⟨n1, n2, n3, n4⟩, o1, o2, o3, o4⟩ := hb
  obtain ⟨⟨s1, s2, s3, s4⟩, ⟨w1, w2, w3, w4⟩, ⟨x12, x13, x14⟩, ⟨x23, x24⟩, x34⟩ := hs
  obtain ⟨⟨l1, l2, l3, l4⟩, lm⟩ := hB
  have hh := zl_hr0 hD h0
  unfold zl_K
  by_cases L : zz_pk T n p = 112 ∨ zz_pk T n p = 100 ∨ zz_pk T n p = 115 ∨ zz_pk T n p = 111 ∨ zz_pk T n p = 108
  · have hp := zz_pk_lt (T := T) (n := n) (p := p) (by omega)
    have ic := zl_ic1 (w := w) L
    rw [if_pos L]
    by_cases m16 : m = 16
    · rw [if_pos m16]
      refine Or.inl ⟨(show ¬ ((4 : Int) = 0) by decide), fx_pt w a2 7 (zz_ft 4 p), ?_, zz_ps, zl_f0.pt ha hb0 (by decide)⟩
      unfold f_X12_readsClause
      simp only [fz_lt, fz_lr, fz_lc, hh, ic, if_neg zz_n10, lm, if_pos m16, zz_wrong, hD.2.1.1]
    · rw [if_neg m16]
      obtain ⟨w5, hw5⟩ : ∃ x : fx_U, x = fx_pt (fx_pt (fx_pt (fx_pt (fx_pt w bl m.toNat (zz_pk T n p)) a2 5 (p + 1)) bf m.toNat c) a2 9 0) a2 11 0 := ⟨_, rfl⟩
      have q5 : ∀ k : Nat, k ≠ 5 → k ≠ 9 → k ≠ 11 → w5 a2 k = w a2 k := fun k h1 h2 h3 => by
        rw [hw5]
        exact (zz_pj h3).trans ((zz_pj h2).trans ((zz_pa n2).trans ((zz_pj h1).trans (zz_pa n1))))
      have tA := ha.1.1
      have mN : m ≤ ((m.toNat : Nat) : Int) := by omega
      have f5 : zl_f0 a2 bs bw bl bf bh bt m c w w5 := by
        rw [hw5]
        exact ((((zl_f0.row (Or.inl rfl) n1 (Ne.symm s1) mN).tr (zl_f0.pt ha hb0 (by decide)) (Int.le_refl m) (Int.le_refl c)).tr (zl_f0.row (Or.inr (Or.inl rfl)) n2 (Ne.symm s2) mN) (Int.le_refl m) (Int.le_refl c)).tr (zl_f0.pt ha hb0 (by decide)) (Int.le_refl m) (Int.le_refl c)).tr (zl_f0.pt ha hb0 (by decide)) (Int.le_refl m) (Int.le_refl c)
      have b5l : w5 bl m.toNat = zz_pk T n p := by
        rw [hw5]
        exact (zz_pa (Ne.symm n1)).trans ((zz_pa (Ne.symm n1)).trans ((zz_pa x12).trans ((zz_pa (Ne.symm n1)).trans zz_ps)))
      have b5f : w5 bf m.toNat = c := by
        rw [hw5]
        exact (zz_pa (Ne.symm n2)).trans ((zz_pa (Ne.symm n2)).trans zz_ps)
      have d5 : zl_D T a2 tb bs bw n (p + 1) 0 c [] w5 := by
        refine ⟨⟨(q5 3 (by decide) (by decide) (by decide)).trans hD.1.1, (q5 6 (by decide) (by decide) (by decide)).trans hD.1.2.1, (q5 15 (by decide) (by decide) (by decide)).trans hD.1.2.2.1, (q5 16 (by decide) (by decide) (by decide)).trans hD.1.2.2.2⟩, ⟨?_, ?_, (q5 10 (by decide) (by decide) (by decide)).trans hD.2.1.2, ?_⟩, True.intro, fun i hi => ?_⟩
        · rw [hw5]
          exact (zz_pj (by decide)).trans ((zz_pj (by decide)).trans ((zz_pa n2).trans zz_ps))
        · rw [hw5]
          exact (zz_pj (by decide)).trans zz_ps
        · rw [hw5]
          exact zz_ps.trans rfl
        · rw [hw5, zz_pa tA, zz_pa tA, zz_pa o2, zz_pa tA, zz_pa o1]
          exact hD.2.2 i hi
      have sg := zl_S_g (T := T) (n := n) 6 (p + 1) (by omega) (by omega)
      rcases zl_rS ha hn (d := 6) (by decide) (by decide) d5 (by omega) (by omega) hc (by show ((0 : Nat) : Int) ≤ p + 1; omega) (fun x R z => by cases z) with ⟨a1, y, a3, a4, a5⟩ | ⟨a1, y, a3, a4, a5, a6⟩
      · rw [if_neg a1]
        refine Or.inl ⟨a1, y, ?_, a4, f5.tr (zl_f0.eq (m := m) hb0 hs0 a5) (Int.le_refl m) (Int.le_refl c)⟩
        unfold f_X12_readsClause
        simp only [fz_lt, fz_lr, fz_ls, fz_lc, hh, ic, if_neg zz_n10, lm, if_neg m16, hD.2.1.1, hD.2.1.2, l1, l2, Int.toNat_natCast, ← hw5, a3, if_true]
      · obtain ⟨z1, z2⟩ := sg.2.1 a1
        rw [if_pos a1]
        obtain ⟨y1, hy1⟩ : ∃ x : fx_U, x = fx_pt y bh m.toNat (c + ((zl_S T n 6 (p + 1)).2.2.length : Int)) := ⟨_, rfl⟩
        have dy : zl_D T a2 tb bs bw n (zl_S T n 6 (p + 1)).2.1 0 (c + ((zl_S T n 6 (p + 1)).2.2.length : Int)) [] y1 := by
          rw [hy1]
          exact a4.ot n3 o3
        have fy : zl_f0 a2 bs bw bl bf bh bt m c w y1 := by
          rw [hy1]
          exact (f5.tr (zl_f0.eq (m := m) hb0 hs0 a6) (Int.le_refl m) (Int.le_refl c)).tr (zl_f0.row (Or.inr (Or.inr (Or.inl rfl))) n3 (Ne.symm s3) mN) (Int.le_refl m) (Int.le_refl c)
        have cg := zl_cn_g (T := T) (n := n) (zl_S T n 6 (p + 1)).2.1 (by omega) sg.1.2
        rcases zl_rC ha hn dy (by omega) sg.1.2 (by omega) (by omega) with ⟨b1, x, b3, b4, b5⟩ | ⟨b1, x, b3, b4, b5, b6⟩
        · rw [if_neg b1]
          refine Or.inl ⟨b1, x, ?_, b4, fy.tr (zl_f0.eq (m := m) hb0 hs0 b5) (Int.le_refl m) (by omega)⟩
          unfold f_X12_readsClause
          simp only [fz_lt, fz_lr, fz_ls, fz_lc, hh, ic, if_neg zz_n10, lm, if_neg m16, hD.2.1.1, hD.2.1.2, l1, l2, l3, Int.toNat_natCast, ← hw5, a3, a4.2.1.2.2.1, ← hy1, b3, if_true]
        · rw [if_pos b1]
          have qx : ∀ k : Nat, k ≠ 5 → k ≠ 7 → k ≠ 8 → k ≠ 9 → k ≠ 10 → k ≠ 11 → x a2 k = w a2 k := fun k h1 h2 h3 h4 h5 h6 => by
            rw [b6.2.1 k h1 h2 h3 h4 h5 h6, hy1, zz_pa n3, a6.2.1 k h1 h2 h3 h4 h5 h6, q5 k h1 h4 h6]
          have dx := b4.ot (j := m.toNat) (x := c + ((zl_S T n 6 (p + 1)).2.2.length : Int) + ((zl_cn T n (zl_S T n 6 (p + 1)).2.1).2.2.length : Int)) n4 o4
          obtain ⟨E, hE⟩ : ∃ E : List (Int × Int), E = (zl_S T n 6 (p + 1)).2.2 := ⟨_, rfl⟩
          obtain ⟨C, hC⟩ : ∃ C : List (Int × Int), C = (zl_cn T n (zl_S T n 6 (p + 1)).2.1).2.2 := ⟨_, rfl⟩
          have kk : zl_kk T n p = (zz_pk T n p, E, C) := by
            rw [hE, hC]
            rfl
          rw [kk]
          have lEC : c + (((zl_S T n 6 (p + 1)).2.2 ++ (zl_cn T n (zl_S T n 6 (p + 1)).2.1).2.2).length : Int) = c + (E.length : Int) + (C.length : Int) := by
            rw [← hE, ← hC, List.length_append]
            omega
          rw [← hE] at a5 b5 b6 hy1 dx
          rw [← hC] at b5 dx
          obtain ⟨fin, hf⟩ : ∃ z : fx_U, z = fx_pt (fx_pt x bt m.toNat (c + (E.length : Int) + (C.length : Int))) a2 12 (m + 1) := ⟨_, rfl⟩
          have fb : ∀ (b i : Nat), b ≠ a2 → b ≠ bt → fin b i = x b i := fun b i h1 h2 => by
            rw [hf]
            exact (zz_pa h1).trans (zz_pa h2)
          have xb : ∀ (b i : Nat), b ≠ a2 → b ≠ bs → b ≠ bw → b ≠ bh → x b i = w5 b i := fun b i h1 h2 h3 h4 => by
            rw [b6.1 b h1 h2 h3 i, hy1, zz_pa h4]
            exact a6.1 b h1 h2 h3 i
          have cs : ∀ i : Nat, (i : Int) < c + (E.length : Int) → fin bs i = y bs i := fun i hi => by
            rw [fb bs i ha.2.2.1.1 (Ne.symm s4), b6.2.2 i hi, hy1, zz_pa (Ne.symm s3)]
          have vl : fin bl m.toNat = zz_pk T n p := by
            rw [fb bl _ (Ne.symm n1) x14, xb bl _ (Ne.symm n1) s1 w1 x13]
            exact b5l
          have vf : fin bf m.toNat = c := by
            rw [fb bf _ (Ne.symm n2) x24, xb bf _ (Ne.symm n2) s2 w2 x23]
            exact b5f
          have vh : fin bh m.toNat = c + (E.length : Int) := by
            rw [fb bh _ (Ne.symm n3) x34, b6.1 bh (Ne.symm n3) s3 w3, hy1]
            exact zz_ps
          have vt : fin bt m.toNat = c + (E.length : Int) + (C.length : Int) := by
            rw [hf]
            exact (zz_pa (Ne.symm n4)).trans zz_ps
          refine Or.inr ⟨rfl, fin, ?_, ⟨⟨?_, ?_, ?_, ?_⟩, ⟨?_, ?_⟩, fun i hi => ?_⟩, ⟨⟨?_, ?_, ?_, ?_⟩, ?_⟩, ?_, ?_⟩
          · unfold f_X12_readsClause
            simp only [fz_lt, fz_lr, fz_ls, fz_lc, hh, ic, if_neg zz_n10, lm, if_neg m16, hD.2.1.1, hD.2.1.2, l1, l2, l3, l4, Int.toNat_natCast, ← hw5, a3, a4.2.1.2.2.1, ← hE, ← hy1, b3, b4.2.1.2.2.1, ← hC, ← hf]
          · rw [hf]
            exact (zz_pj (by decide)).trans dx.1.1
          · rw [hf]
            exact (zz_pj (by decide)).trans dx.1.2.1
          · rw [hf]
            exact (zz_pj (by decide)).trans dx.1.2.2.1
          · rw [hf]
            exact (zz_pj (by decide)).trans dx.1.2.2.2
          · rw [hf]
            exact (zz_pj (by decide)).trans dx.2.1.1
          · show fin a2 10 = c + (((zl_S T n 6 (p + 1)).2.2 ++ (zl_cn T n (zl_S T n 6 (p + 1)).2.1).2.2).length : Int)
            rw [lEC, hf]
            exact (zz_pj (by decide)).trans dx.2.1.2.2.1
          · rw [hf, zz_pa tA]
            exact dx.2.2.2 i hi
          · rw [hf]
            exact (zz_pj (by decide)).trans ((zz_pa n4).trans ((qx 17 (by decide) (by decide) (by decide) (by decide) (by decide) (by decide)).trans l1))
          · rw [hf]
            exact (zz_pj (by decide)).trans ((zz_pa n4).trans ((qx 18 (by decide) (by decide) (by decide) (by decide) (by decide) (by decide)).trans l2))
          · rw [hf]
            exact (zz_pj (by decide)).trans ((zz_pa n4).trans ((qx 19 (by decide) (by decide) (by decide) (by decide) (by decide) (by decide)).trans l3))
          · rw [hf]
            exact (zz_pj (by decide)).trans ((zz_pa n4).trans ((qx 20 (by decide) (by decide) (by decide) (by decide) (by decide) (by decide)).trans l4))
          · rw [hf]
            exact zz_ps
          · rw [hf]
            exact ((fy.tr (zl_f0.eq (m := m) hb0 hs0 b6) (Int.le_refl m) (by omega)).tr (zl_f0.row (Or.inr (Or.inr (Or.inr rfl))) n4 (Ne.symm s4) mN) (Int.le_refl m) (Int.le_refl c)).tr (zl_f0.pt ha hb0 (by decide)) (Int.le_refl m) (Int.le_refl c)
          · show zl_k1 bl bf bh bt bs (c + (((zl_S T n 6 (p + 1)).2.2 ++ (zl_cn T n (zl_S T n 6 (p + 1)).2.1).2.2).length : Int)) fin m.toNat (zz_pk T n p, E, C)
            rw [lEC]
            refine ⟨vl, ⟨by omega, ?_⟩, ?_, ⟨?_, by omega⟩, ?_⟩
            · rw [vh, vf]
            · rw [vf]
              exact zl_ce_keep (e := c + (E.length : Int)) cs E c hc (Int.le_refl _) a5
            · rw [vt, vh]
            · rw [vh]
              exact zl_ce_keep (e := c + (E.length : Int) + (C.length : Int)) (fun i _ => fb bs i ha.2.2.1.1 (Ne.symm s4)) C _ (by omega) (Int.le_refl _) b5
  · have ic := zl_ic0 (w := w) L
    rw [if_neg L]
    refine Or.inl ⟨(show ¬ ((1 : Int) = 0) by decide), fx_pt w a2 7 (zz_ft 1 p), ?_, zz_ps, zl_f0.pt ha hb0 (by decide)⟩
    unfold f_X12_readsClause
    simp only [fz_lt, fz_lr, fz_lc, hh, ic, if_true, zz_wrong, hD.2.1.1]
end LawK
