/-! THE LAW'S TEXT in the class: numbers, factors, loops -/
theorem zl_let {u : fx_U} {x : Int} : f_X4_isValueLetter u x = if zl_fo x = -1 then 0 else 1 := by
  by_cases h97 : x = 97
  · subst h97
    rfl
  by_cases h98 : x = 98
  · subst h98
    rfl
  by_cases h99 : x = 99
  · subst h99
    rfl
  by_cases h100 : x = 100
  · subst h100
    rfl
  by_cases h101 : x = 101
  · subst h101
    rfl
  by_cases h102 : x = 102
  · subst h102
    rfl
  by_cases h103 : x = 103
  · subst h103
    rfl
  by_cases h104 : x = 104
  · subst h104
    rfl
  by_cases h105 : x = 105
  · subst h105
    rfl
  by_cases h106 : x = 106
  · subst h106
    rfl
  by_cases h107 : x = 107
  · subst h107
    rfl
  by_cases h108 : x = 108
  · subst h108
    rfl
  by_cases h109 : x = 109
  · subst h109
    rfl
  by_cases h110 : x = 110
  · subst h110
    rfl
  by_cases h111 : x = 111
  · subst h111
    rfl
  by_cases h112 : x = 112
  · subst h112
    rfl
  by_cases h113 : x = 113
  · subst h113
    rfl
  by_cases h114 : x = 114
  · subst h114
    rfl
  by_cases h115 : x = 115
  · subst h115
    rfl
  by_cases h116 : x = 116
  · subst h116
    rfl
  by_cases h117 : x = 117
  · subst h117
    rfl
  by_cases h118 : x = 118
  · subst h118
    rfl
  by_cases h119 : x = 119
  · subst h119
    rfl
  unfold f_X4_isValueLetter zl_fo
  rw [if_neg h97, if_neg h97, if_neg h98, if_neg h98, if_neg h99, if_neg h99, if_neg h100, if_neg h100, if_neg h101, if_neg h101, if_neg h102, if_neg h102, if_neg h103, if_neg h103, if_neg h104, if_neg h104, if_neg h105, if_neg h105, if_neg h106, if_neg h106, if_neg h107, if_neg h107, if_neg h108, if_neg h108, if_neg h109, if_neg h109, if_neg h110, if_neg h110, if_neg h111, if_neg h111, if_neg h112, if_neg h112, if_neg h113, if_neg h113, if_neg h114, if_neg h114, if_neg h115, if_neg h115, if_neg h116, if_neg h116, if_neg h117, if_neg h117, if_neg h118, if_neg h118, if_neg h119, if_neg h119]
  rw [if_pos rfl]
def gl_F (S : fx_U → Int × fx_U) (q : Nat) (x1 : Int) (u : fx_U) : Int × fx_U :=
  fx_lr (u q 0) fun at1 => fx_lt (f_X4_peek u q) fun v1 => (if v1 = 91 then fx_lc (f_X4_mayOpen u q x1) fun v13 u13 => (if v13 = 0 then (0, u13) else fx_lc (S u13) fun v23 u23 => (if v23 = 0 then (0, u23) else fx_lc (f_X4_expect u23 q 93) fun v32 u32 => (if v32 = 0 then (0, u32) else (1, u32)))) else fx_lt (f_X11_isIn u v1 48 57) fun v49 => (if v49 = 0 then fx_lt (f_X4_isValueLetter u v1) fun v61 => (if v61 = 0 then fx_lc (f_X4_fail u q 1) fun v69 u69 => (v69, u69) else fx_lt (u q 2) fun v75 => fx_lt (fx_b_add v75 1) fun v79 => fx_ls (fx_pt u q 2 v79) fun u80 => fx_lr (u80 q 4) fun b84 => fx_lc (f_X3_add u80 b84 105 v1) fun v90 u90 => (1, u90)) else fx_lc (f_X4_readNumber u q) fun v56 u56 => (v56, u56)))
def gl_T (F : fx_U → Int × fx_U) (q : Nat) : Nat → Int → Int → fx_U → Int × fx_U
  | 0, _, _, _ => (0, fun _ _ => 0)
  | n + 1, r, k, w => (if k < 240 then (if r = 0 then (r, w) else fx_lt (f_X4_peek w q) fun v20 => fx_lt (f_X4_isTimes w v20) fun v23 => (if v23 = 0 then (r, w) else fx_lt (f_X4_peek w q) fun v30 => fx_lt (w q 2) fun v37 => fx_lt (fx_b_add v37 1) fun v41 => fx_ls (fx_pt w q 2 v41) fun u42 => fx_lc (F u42) fun v47 u47 => fx_lr (u47 q 4) fun b52 => fx_lc (f_X3_add u47 b52 v30 0) fun v58 u58 => fx_lt (k + 1) fun v62 => gl_T F q n v47 v62 u58)) else (r, w))
def gl_S37 (F : fx_U → Int × fx_U) (q : Nat) (w : fx_U) (k : Int) (rec : Int → Int → fx_U → Int × fx_U) : Int × fx_U :=
  fx_lt (f_X4_peek w q) fun v38 => fx_lt (w q 2) fun v45 => fx_lt (fx_b_add v45 1) fun v49 => fx_ls (fx_pt w q 2 v49) fun u50 => fx_lc (F u50) fun v55 u55 => fx_lr (u55 q 4) fun b60 => fx_lc (f_X3_add u55 b60 v38 0) fun v66 u66 => fx_lt (k + 1) fun v70 => rec v55 v70 u66
def gl_S (F : fx_U → Int × fx_U) (q : Nat) : Nat → Int → Int → fx_U → Int × fx_U
  | 0, _, _, _ => (0, fun _ _ => 0)
  | n + 1, r, k, w => (if k < 240 then (if r = 0 then (r, w) else fx_lt (f_X4_peek w q) fun v20 => (if v20 = 43 then gl_S37 F q w k (gl_S F q n) else fx_lt (f_X4_peek w q) fun v29 => (if v29 = 45 then gl_S37 F q w k (gl_S F q n) else (r, w)))) else (r, w))
def gl_J (c : Int) (F : fx_U → Int × fx_U) (q : Nat) : Nat → Int → Int → fx_U → Int × fx_U
  | 0, _, _, _ => (0, fun _ _ => 0)
  | n + 1, r, k, w => (if k < 240 then (if r = 0 then (r, w) else fx_lt (f_X4_peek w q) fun v20 => (if v20 = c then fx_lt (w q 2) fun v30 => fx_lt (fx_b_add v30 1) fun v34 => fx_ls (fx_pt w q 2 v34) fun u35 => fx_lr (u35 q 4) fun b39 => fx_lc (f_X3_add u35 b39 c 0) fun v45 u45 => fx_lc (F u45) fun v52 u52 => fx_ls (f_X3_leadHere u52 b39 v45) fun u62 => fx_lt (k + 1) fun v65 => gl_J c F q n v52 v65 u62 else (r, w))) else (r, w))
def zl_nb : Nat → Int
  | 0 => 99999
  | 1 => 9999
  | 2 => 999
  | 3 => 99
  | 4 => 9
  | _ => 0
section LawD
variable {T : Nat → Int} {q la sg vl ta : Nat} {n p s : Int} {u u0 : fx_U}
theorem zl_R.base {o : zl_O} {x : Int × fx_U} (h : zl_R q la sg vl s u0 o x) (h1 : zl_el q la sg vl u u0) (h2 : zl_st sg vl s u u0) (h3 : u0 la 2 = u la 2) (h4 : u0 q 3 = u q 3) : zl_R q la sg vl s u o x := by
  obtain ⟨r1, r2⟩ := h
  refine ⟨h1.tr r1, ?_⟩
  rcases r2 with ⟨a1, a2, a3, a4, a5, a6, a7⟩ | r2
  · exact Or.inl ⟨a1, a2, a3, fun i hi => ⟨(a4 i hi).1.trans (h2 i hi).1, (a4 i hi).2.trans (h2 i hi).2⟩, a5, by rw [a6, h3], a7.trans h4⟩
  · exact Or.inr r2
/-- the place moves on -/
theorem zl_go (ha : zl_ap q la sg vl ta) {x : Int} : zl_el q la sg vl u (fx_pt u q 2 x) ∧ zl_st sg vl s u (fx_pt u q 2 x) ∧ fx_pt u q 2 x la 2 = u la 2 ∧ fx_pt u q 2 x q 3 = u q 3 ∧ fx_pt u q 2 x la 1 = u la 1 := ⟨zl_el.pq ha (Or.inl rfl), fun i _ => ⟨zz_pa ha.2.2.2.1.1, zz_pa ha.2.2.2.2.1⟩, zz_pa ha.2.2.1.1, zz_pj (by decide), zz_pa ha.2.2.1.1⟩
/-- one step at the end -/
theorem zl_step (ha : zl_ap q la sg vl ta) {a b : Int} (hj : ¬ (a = 38 ∨ a = 124)) (hC : zl_C T q la sg vl ta n p s u) (hs : 0 ≤ s ∧ s < 240) : zl_R q la sg vl s u (0, p, [(a, b)]) (1, (f_X3_add u la a b).2) := by
  obtain ⟨w, e1, e2, e3, e4, e5, e6, e7, e8⟩ := zl_add ha (a := a) (b := b) hC.1.2.2.2.1 hC.1.2.2.2.2 hC.2.2.1 hs
  rw [e1]
  refine ⟨e2, Or.inl ⟨rfl, rfl, ⟨(e3 2).trans hC.2.1, ?_⟩, e5, ⟨⟨e6, ?_⟩, True.intro⟩, ?_, e3 3⟩⟩
  · show w la 1 = s + ((1 : Nat) : Int)
    rw [e4]
    rfl
  · show w vl s.toNat = zl_v s (a, b)
    unfold zl_v
    rw [if_neg hj]
    exact e7
  · exact e8
theorem zl_numC (ha : zl_ap q la sg vl ta) (hn : n ≤ 240) : ∀ (f : Nat) (k v p : Int) (w : fx_U), f ≤ 5 → k + (f : Int) = 5 → 0 ≤ v ∧ v ≤ zl_nb f → zl_C T q la sg vl ta n p s w → 0 ≤ p → (0 ≤ s ∧ s < 240) → zl_R q la sg vl s w (zl_num T n f v p) (kL_X4_readNumber_4 q (f + 1) v k w) := by
  have tail : ∀ (v p : Int) (w : fx_U), zl_C T q la sg vl ta n p s w → 0 ≤ p → (0 ≤ s ∧ s < 240) → zl_R q la sg vl s w (if 48 ≤ zz_pk T n p ∧ zz_pk T n p ≤ 57 then (2, p, []) else (0, p, [(48, v)])) (kJ_X4_readNumber_52 w q v) := by
    intro v p w hC h0 hs
    unfold kJ_X4_readNumber_52
    simp only [fz_lt, fz_lr, zl_peek hC h0, zz_is, hC.1.2.2.1, Int.toNat_natCast]
    by_cases g : 48 ≤ zz_pk T n p ∧ zz_pk T n p ≤ 57
    · simp only [if_pos g, if_neg zz_n10, fz_lc, zl_fail hC.2.1]
      exact zl_bad ha (by decide)
    · simp only [if_neg g, if_true, fz_lc]
      exact zl_step ha (by decide) hC hs
  intro f
  induction f with
  | zero =>
    intro k v p w _ hk _ hC h0 hs
    have eK : kL_X4_readNumber_4 q (0 + 1) v k w = kB_X4_readNumber_4 (kL_X4_readNumber_4 q 0) q v k w := rfl
    rw [eK]
    unfold kB_X4_readNumber_4
    rw [if_neg (by omega)]
    exact tail v p w hC h0 hs
  | succ f ih =>
    intro k v p w h5 hk hv hC h0 hs
    have eK : kL_X4_readNumber_4 q (f + 1 + 1) v k w = kB_X4_readNumber_4 (kL_X4_readNumber_4 q (f + 1)) q v k w := rfl
    rw [eK]
    unfold kB_X4_readNumber_4
    rw [if_pos (by omega)]
    simp only [fz_lt, fz_ls, zl_peek hC h0, zz_is]
    unfold zl_num
    by_cases g : 48 ≤ zz_pk T n p ∧ zz_pk T n p ≤ 57
    · have hp := zz_pk_lt (T := T) (n := n) (p := p) (by omega)
      have nb : zl_nb (f + 1) * 10 + 9 ≤ zl_nb f ∧ zl_nb f ≤ 99999 := by
        rcases (show f = 0 ∨ f = 1 ∨ f = 2 ∨ f = 3 ∨ f = 4 by omega) with rfl | rfl | rfl | rfl | rfl <;> decide
      simp only [if_pos g, if_neg zz_n10]
      rw [zl_one hC.2.1 ⟨h0, by omega⟩, zz_wmul ⟨by omega, by omega⟩ ⟨by omega, by omega⟩ ⟨by omega, by omega⟩, zz_wadd ⟨by omega, by omega⟩ ⟨by omega, by omega⟩ ⟨by omega, by omega⟩, zz_wsub ⟨by omega, by omega⟩ ⟨by omega, by omega⟩ ⟨by omega, by omega⟩]
      obtain ⟨m1, m2, m3, m4, m5⟩ := zl_go (s := s) (u := w) ha (x := p + 1)
      exact (ih (k + 1) _ (p + 1) _ (by omega) (by omega) ⟨by omega, by omega⟩ (hC.mv ha m1 zz_ps (m5.trans hC.2.2.1)) (by omega) hs).base m1 m2 m3 m4
    · simp only [if_neg g, if_true]
      have z := tail v p w hC h0 hs
      rw [if_neg g] at z
      exact z
theorem zl_facC (ha : zl_ap q la sg vl ta) (hn : n ≤ 240) {S : fx_U → Int × fx_U} {gS : Int → zl_O} {k : Int} {room : Bool} (hk : room = true ↔ k < 6) (hS : room = true → zl_ok T q la sg vl ta n S gS) (hg : room = true → zl_gd n gS) : zl_ok T q la sg vl ta n (gl_F S q k) (zl_fac T n gS room) := by
  intro u p s hC h0 h1 hs0 hs1
  unfold gl_F zl_fac
  simp only [fz_lr, fz_lt, zl_peek hC h0]
  by_cases g1 : zz_pk T n p = 91
  · have hp := zz_pk_lt (T := T) (n := n) (p := p) (by omega)
    rw [if_pos g1, if_pos g1]
    unfold f_X4_mayOpen
    by_cases r : room = true
    · rw [if_pos r, if_pos (hk.mp r)]
      simp only [fz_lt, fz_ls, fz_lc]
      rw [zl_one hC.2.1 ⟨h0, by omega⟩, if_neg zz_n10]
      obtain ⟨m1, m2, m3, m4, m5⟩ := zl_go (s := s) (u := u) ha (x := p + 1)
      have c1 := hC.mv ha m1 (u1 := fx_pt u q 2 (p + 1)) zz_ps (m5.trans hC.2.2.1)
      have z := (hS r _ (p + 1) s c1 (by omega) (by omega) hs0 (by omega)).base m1 m2 m3 m4
      have zg := hg r (p + 1) (by omega) (by omega)
      obtain ⟨X, hX⟩ : ∃ X : Int × fx_U, X = S (fx_pt u q 2 (p + 1)) := ⟨_, rfl⟩
      rw [← hX] at z ⊢
      obtain ⟨z1, z2⟩ := id z
      rcases z2 with ⟨a1, a2, ⟨a3, a3b⟩, a4, a5, a6, a7⟩ | ⟨a1, a2, a3⟩
      · rw [if_neg (show ¬ X.1 = 0 by rw [a2]; decide)]
        have c2 := hC.mv ha z1 a3 a3b
        have e := zl_expect ha (c := 93) (o := gS (p + 1)) (w := u) (by decide) hn hs0 c2 (by have := zg.1; omega) ⟨a1, rfl⟩ (by
          rw [show ((1 : Int), X.2) = X by rw [← a2]]
          exact z)
        obtain ⟨Y, hY⟩ : ∃ Y : Int × fx_U, Y = f_X4_expect X.2 q 93 := ⟨_, rfl⟩
        rw [← hY] at e ⊢
        have e2 : (if Y.1 = 0 then ((0 : Int), Y.2) else (1, Y.2)) = Y := by
          rcases e.2 with ⟨-, b, -⟩ | ⟨-, b, -⟩
          · rw [if_neg (by rw [b]; decide), ← b]
          · rw [if_pos b, ← b]
        rw [e2]
        exact e
      · rw [if_pos a2]
        unfold zl_ex
        rw [if_neg a1, show ((0 : Int), X.2) = X by rw [← a2]]
        exact z
    · rw [if_neg r, if_neg (fun z => r (hk.mpr z))]
      simp only [fz_lc, zl_fail hC.2.1, if_true]
      exact zl_bad ha (by decide)
  · rw [if_neg g1, if_neg g1]
    simp only [zz_is]
    by_cases g2 : 48 ≤ zz_pk T n p ∧ zz_pk T n p ≤ 57
    · simp only [if_pos g2, if_neg zz_n10, fz_lc]
      have hp := zz_pk_lt (T := T) (n := n) (p := p) (by omega)
      unfold f_X4_readNumber
      simp only [fz_lr]
      rw [show Int.toNat (5 - 0) + 1 = 5 + 1 from rfl]
      exact zl_numC ha hn 5 0 0 p u (by decide) (by decide) (by decide) hC h0 ⟨hs0, by omega⟩
    · simp only [if_neg g2, if_true, zl_let]
      by_cases g3 : zl_fo (zz_pk T n p) = -1
      · simp only [if_pos g3, if_true, fz_lc, zl_fail hC.2.1]
        exact zl_bad ha (by decide)
      · have hp := zz_pk_lt (T := T) (n := n) (p := p) (fun z => g3 (by rw [z]; decide))
        simp only [if_neg g3, if_neg zz_n10, fz_ls, fz_lc]
        rw [zl_one hC.2.1 ⟨h0, by omega⟩]
        obtain ⟨m1, m2, m3, m4, m5⟩ := zl_go (s := s) (u := u) ha (x := p + 1)
        have c1 := hC.mv ha m1 (u1 := fx_pt u q 2 (p + 1)) zz_ps (m5.trans hC.2.2.1)
        rw [c1.1.2.2.1, Int.toNat_natCast]
        exact (zl_step ha (by decide) c1 ⟨hs0, by omega⟩).base m1 m2 m3 m4
/-- both sides and the sign's step -/
theorem zl_opC (ha : zl_ap q la sg vl ta) (hn : n ≤ 240) {F : fx_U → Int × fx_U} {g : Int → zl_O} (hF : zl_ok T q la sg vl ta n F g) (hg : zl_gd n g) {o : zl_O} {w : fx_U} {b : Int} (hC : zl_C T q la sg vl ta n b s u) (h0 : 0 ≤ b) (hs0 : 0 ≤ s) (hs1 : s ≤ b) (ho : zl_g1 n b o) (o1 : o.1 = 0) (hr : zl_R q la sg vl s u o (1, w)) (hj : ¬ (zz_pk T n o.2.1 = 38 ∨ zz_pk T n o.2.1 = 124)) (hc : zz_pk T n o.2.1 ≠ -1) (hc2 : zz_pk T n o.2.1 ≠ 105) :
    zl_R q la sg vl s u (zl_op T n g o) ((F (fx_pt w q 2 (o.2.1 + 1))).1, (f_X3_add (F (fx_pt w q 2 (o.2.1 + 1))).2 la (zz_pk T n o.2.1) 0).2) := by
  have hp := zz_pk_lt hc
  obtain ⟨⟨p1, p2⟩, p3, -⟩ := ho
  obtain ⟨p4, p5⟩ := p3 o1
  obtain ⟨r1, r2⟩ := hr
  rcases r2 with ⟨-, -, ⟨r3, r4⟩, r5, r6, r7, r8⟩ | ⟨r2, -⟩
  · have c1 := hC.mv ha r1 r3 r4
    obtain ⟨m1, m2, m3, m4, m5⟩ := zl_go (s := s + (o.2.2.length : Int)) (u := w) ha (x := o.2.1 + 1)
    have c2 := c1.mv ha m1 (u1 := fx_pt w q 2 (o.2.1 + 1)) zz_ps (m5.trans r4)
    have z := (hF _ (o.2.1 + 1) (s + (o.2.2.length : Int)) c2 (by omega) (by omega) (by omega) (by omega)).base m1 m2 m3 m4
    have zg := hg (o.2.1 + 1) (by omega) (by omega)
    obtain ⟨X, hX⟩ : ∃ X : Int × fx_U, X = F (fx_pt w q 2 (o.2.1 + 1)) := ⟨_, rfl⟩
    rw [← hX] at z ⊢
    obtain ⟨z1, z2⟩ := z
    have x3 : X.2 la 3 = (sg : Int) := (z1.2.1 3 (by decide) (by decide)).trans c1.1.2.2.2.1
    have x4 : X.2 la 4 = (vl : Int) := (z1.2.1 4 (by decide) (by decide)).trans c1.1.2.2.2.2
    unfold zl_op
    rcases z2 with ⟨a1, a2, ⟨a3, a3b⟩, a4, a5, a6, a7⟩ | ⟨a1, a2, a3⟩
    · obtain ⟨q4, q5⟩ := zg.2.1 a1
      obtain ⟨y, e1, e2, e3, e4, e5, e6, e7, e8⟩ := zl_add ha (a := zz_pk T n o.2.1) (b := 0) x3 x4 a3b ⟨by omega, by have := zg.1; omega⟩
      rw [if_pos a1, e1, a2]
      refine ⟨r1.tr (z1.tr e2), Or.inl ⟨rfl, rfl, ⟨(e3 2).trans a3, ?_⟩, fun i hi => ⟨?_, ?_⟩, ?_, ?_, ?_⟩⟩
      · show y la 1 = s + ((o.2.2 ++ (g (o.2.1 + 1)).2.2 ++ [(zz_pk T n o.2.1, 0)]).length : Int)
        rw [List.length_append, List.length_append, e4]
        show s + (o.2.2.length : Int) + ((g (o.2.1 + 1)).2.2.length : Int) + 1 = s + ((o.2.2.length + (g (o.2.1 + 1)).2.2.length + 1 : Nat) : Int)
        omega
      · exact (e5 i (by omega)).1.trans ((a4 i (by omega)).1.trans (r5 i hi).1)
      · exact (e5 i (by omega)).2.trans ((a4 i (by omega)).2.trans (r5 i hi).2)
      · show zl_cd sg vl y s (o.2.2 ++ (g (o.2.1 + 1)).2.2 ++ [(zz_pk T n o.2.1, 0)])
        refine zl_cd_app _ _ s (zl_cd_app _ _ s ?_ ?_) ?_
        · exact zl_cd_keep e5 o.2.2 s hs0 (by omega) (zl_cd_keep a4 o.2.2 s hs0 (Int.le_refl _) r6)
        · exact zl_cd_keep e5 _ _ (by omega) (Int.le_refl _) a5
        · rw [List.length_append, show s + ((o.2.2.length + (g (o.2.1 + 1)).2.2.length : Nat) : Int) = s + (o.2.2.length : Int) + ((g (o.2.1 + 1)).2.2.length : Int) by omega]
          refine ⟨⟨e6, ?_⟩, True.intro⟩
          show y vl _ = zl_v _ (zz_pk T n o.2.1, 0)
          unfold zl_v
          rw [if_neg hj]
          exact e7
      · show y la 2 = zl_am (o.2.2 ++ (g (o.2.1 + 1)).2.2 ++ [(zz_pk T n o.2.1, 0)]) (u la 2)
        rw [zl_am_app, zl_am_app, ← r7, ← a6]
        show y la 2 = if (zz_pk T n o.2.1, (0 : Int)) = (105, 116) then 1 else X.2 la 2
        exact e8
      · exact (e3 3).trans (a7.trans r8)
    · have ad := zl_add_el ha (a := zz_pk T n o.2.1) (b := 0) x3 x4
      rw [if_neg a1, a2]
      exact ⟨r1.tr (z1.tr ad.1), Or.inr ⟨a1, rfl, (ad.2 3).trans a3⟩⟩
  · exact absurd o1 r2
end LawD
