/-! THE LAW'S TEXT in the class: pieces, parts -/
def gl_C (S : fx_U → Int × fx_U) (q : Nat) (u86 : fx_U) (v95 : Int) : Int × fx_U :=
  fx_lt (u86 q 2) fun v125 => fx_lt (fx_b_add v125 1) fun v129 => fx_ls (fx_pt u86 q 2 v129) fun u130 => fx_lc (S u130) fun v135 u135 => (if v135 = 0 then (0, u135) else fx_lr (u135 q 4) fun b144 => fx_lc (f_X3_add u135 b144 v95 0) fun v149 u149 => (1, u149))
def gl_P (P Q S : fx_U → Int × fx_U) (q : Nat) (x1 : Int) (u : fx_U) : Int × fx_U :=
  fx_lr (u q 0) fun at1 => fx_lt (f_X4_peek u q) fun v1 => (if v1 = 33 then fx_lc (f_X4_mayOpen u q x1) fun v11 u11 => (if v11 = 0 then (0, u11) else fx_lc (P u11) fun v21 u21 => (if v21 = 0 then (0, u21) else fx_lr (u21 q 4) fun b30 => fx_lc (f_X3_add u21 b30 33 0) fun v36 u36 => (1, u36))) else fx_lt (f_X4_peek u q) fun v43 => (if v43 = 40 then fx_lc (f_X4_mayOpen u q x1) fun v53 u53 => (if v53 = 0 then (0, u53) else fx_lc (Q u53) fun v63 u63 => (if v63 = 0 then (0, u63) else fx_lc (f_X4_expect u63 q 41) fun v72 u72 => (if v72 = 0 then (0, u72) else (1, u72)))) else fx_lc (S u) fun v86 u86 => (if v86 = 0 then (0, u86) else fx_lt (f_X4_peek u86 q) fun v95 => (if v95 = 60 then gl_C S q u86 v95 else (if v95 = 62 then gl_C S q u86 v95 else (if v95 = 61 then gl_C S q u86 v95 else fx_lc (f_X4_fail u86 q 1) fun v119 u119 => (v119, u119)))))))
theorem zl_cd_far {sg vl : Nat} {u u1 : fx_U} {e : Int} (k : ∀ i : Nat, e ≤ (i : Int) → u1 sg i = u sg i ∧ u1 vl i = u vl i) : ∀ (a : List (Int × Int)) (s : Int), (0 ≤ s ∧ e ≤ s) → zl_cd sg vl u s a → zl_cd sg vl u1 s a
  | [], _, _, _ => True.intro
  | c :: cs, s, h0, h => by
    obtain ⟨k1, k2⟩ := k s.toNat (by omega)
    exact ⟨⟨k1.trans h.1.1, k2.trans h.1.2⟩, zl_cd_far k cs (s + 1) (by omega) h.2⟩
section LawF
variable {T : Nat → Int} {q la sg vl ta : Nat} {n p s b : Int} {u : fx_U}
/-- a step at the end of what is there -/
theorem zl_more (ha : zl_ap q la sg vl ta) {o : zl_O} {w : fx_U} {c : Int} (hj : ¬ (c = 38 ∨ c = 124)) (hC : zl_C T q la sg vl ta n b s u) (hs0 : 0 ≤ s) (hl : s + (o.2.2.length : Int) < 240) (o1 : o.1 = 0) (hr : zl_R q la sg vl s u o (1, w)) : zl_R q la sg vl s u (0, o.2.1, o.2.2 ++ [(c, 0)]) (1, (f_X3_add w la c 0).2) := by
  obtain ⟨r1, r2⟩ := hr
  rcases r2 with ⟨-, -, ⟨r3, r4⟩, r5, r6, r7, r8⟩ | ⟨r2, -⟩
  · have c1 := hC.mv ha r1 r3 r4
    obtain ⟨y, e1, e2, e3, e4, e5, e6, e7, e8⟩ := zl_add ha (a := c) (b := 0) c1.1.2.2.2.1 c1.1.2.2.2.2 r4 ⟨by omega, hl⟩
    rw [e1]
    refine ⟨r1.tr e2, Or.inl ⟨rfl, rfl, ⟨(e3 2).trans r3, ?_⟩, fun i hi => ⟨(e5 i (by omega)).1.trans (r5 i hi).1, (e5 i (by omega)).2.trans (r5 i hi).2⟩, zl_cd_app _ _ s (zl_cd_keep e5 o.2.2 s hs0 (Int.le_refl _) r6) ⟨⟨e6, ?_⟩, True.intro⟩, ?_, (e3 3).trans r8⟩⟩
    · show y la 1 = s + ((o.2.2 ++ [(c, (0 : Int))]).length : Int)
      rw [List.length_append, e4]
      show s + (o.2.2.length : Int) + 1 = s + ((o.2.2.length + 1 : Nat) : Int)
      omega
    · show y vl _ = zl_v _ (c, 0)
      unfold zl_v
      rw [if_neg hj]
      exact e7
    · show y la 2 = zl_am (o.2.2 ++ [(c, 0)]) (u la 2)
      rw [zl_am_app, ← r7]
      exact e8
  · exact absurd o1 r2
theorem zl_pcC (ha : zl_ap q la sg vl ta) (hn : n ≤ 240) {P Q S : fx_U → Int × fx_U} {gP gQ gS : Int → zl_O} {k : Int} {room : Bool} (hk : room = true ↔ k < 6) (hP : room = true → zl_ok T q la sg vl ta n P gP) (hQ : room = true → zl_ok T q la sg vl ta n Q gQ) (hS : zl_ok T q la sg vl ta n S gS) (iP : room = true → zl_gd n gP) (iQ : room = true → zl_gd n gQ) (iS : zl_gd n gS) : zl_ok T q la sg vl ta n (gl_P P Q S q k) (zl_pc1 T n gP gQ gS room) := by
  intro u p s hC h0 h1 hs0 hs1
  unfold gl_P zl_pc1
  simp only [fz_lr, fz_lt, zl_peek hC h0]
  by_cases g1 : zz_pk T n p = 33
  · have hp := zz_pk_lt (T := T) (n := n) (p := p) (by omega)
    rw [if_pos g1, if_pos g1]
    unfold f_X4_mayOpen
    by_cases r : room = true
    · rw [if_pos r, if_pos (hk.mp r)]
      simp only [fz_lt, fz_ls, fz_lc]
      rw [zl_one hC.2.1 ⟨h0, by omega⟩, if_neg zz_n10]
      obtain ⟨m1, m2, m3, m4, m5⟩ := zl_go (s := s) (u := u) ha (x := p + 1)
      have c1 := hC.mv ha m1 (u1 := fx_pt u q 2 (p + 1)) zz_ps (m5.trans hC.2.2.1)
      have z := (hP r _ (p + 1) s c1 (by omega) (by omega) hs0 (by omega)).base m1 m2 m3 m4
      have zg := iP r (p + 1) (by omega) (by omega)
      obtain ⟨X, hX⟩ : ∃ X : Int × fx_U, X = P (fx_pt u q 2 (p + 1)) := ⟨_, rfl⟩
      rw [← hX] at z ⊢
      obtain ⟨z1, z2⟩ := id z
      unfold zl_nt
      rcases z2 with ⟨a1, a2, ⟨a3, a3b⟩, a4, a5, a6, a7⟩ | ⟨a1, a2, a3⟩
      · have c2 := hC.mv ha z1 a3 a3b
        obtain ⟨l1, l2⟩ := zg.2.1 a1
        rw [if_neg (show ¬ X.1 = 0 by rw [a2]; decide), if_pos a1, c2.1.2.2.1, Int.toNat_natCast]
        exact zl_more ha (by decide) hC hs0 (by have := zg.1; omega) a1 (by
          rw [show ((1 : Int), X.2) = X by rw [← a2]]
          exact z)
      · rw [if_pos a2, if_neg a1, show ((0 : Int), X.2) = X by rw [← a2]]
        exact z
    · rw [if_neg r, if_neg (fun z => r (hk.mpr z))]
      simp only [fz_lc, zl_fail hC.2.1, if_true]
      exact zl_bad ha (by decide)
  · rw [if_neg g1, if_neg g1]
    by_cases g2 : zz_pk T n p = 40
    · have hp := zz_pk_lt (T := T) (n := n) (p := p) (by omega)
      rw [if_pos g2, if_pos g2]
      unfold f_X4_mayOpen
      by_cases r : room = true
      · rw [if_pos r, if_pos (hk.mp r)]
        simp only [fz_lt, fz_ls, fz_lc]
        rw [zl_one hC.2.1 ⟨h0, by omega⟩, if_neg zz_n10]
        obtain ⟨m1, m2, m3, m4, m5⟩ := zl_go (s := s) (u := u) ha (x := p + 1)
        have c1 := hC.mv ha m1 (u1 := fx_pt u q 2 (p + 1)) zz_ps (m5.trans hC.2.2.1)
        have z := (hQ r _ (p + 1) s c1 (by omega) (by omega) hs0 (by omega)).base m1 m2 m3 m4
        have zg := iQ r (p + 1) (by omega) (by omega)
        obtain ⟨X, hX⟩ : ∃ X : Int × fx_U, X = Q (fx_pt u q 2 (p + 1)) := ⟨_, rfl⟩
        rw [← hX] at z ⊢
        obtain ⟨z1, z2⟩ := id z
        rcases z2 with ⟨a1, a2, ⟨a3, a3b⟩, a4, a5, a6, a7⟩ | ⟨a1, a2, a3⟩
        · rw [if_neg (show ¬ X.1 = 0 by rw [a2]; decide)]
          have c2 := hC.mv ha z1 a3 a3b
          have e := zl_expect ha (c := 41) (o := gQ (p + 1)) (w := u) (by decide) hn hs0 c2 (by have := zg.1; omega) ⟨a1, rfl⟩ (by
            rw [show ((1 : Int), X.2) = X by rw [← a2]]
            exact z)
          obtain ⟨Y, hY⟩ : ∃ Y : Int × fx_U, Y = f_X4_expect X.2 q 41 := ⟨_, rfl⟩
          rw [← hY] at e ⊢
          have e2 : (if Y.1 = 0 then ((0 : Int), Y.2) else (1, Y.2)) = Y := by
            rcases e.2 with ⟨-, b, -⟩ | ⟨-, b, -⟩
            · rw [if_neg (by rw [b]; decide), ← b]
            · rw [if_pos b, ← b]
          rw [e2]
          exact e
        · rw [if_pos a2]
          unfold zl_ex
          rw [if_neg a1, show ((0 : Int), X.2) = X by rw [← a2]]
          exact z
      · rw [if_neg r, if_neg (fun z => r (hk.mpr z))]
        simp only [fz_lc, zl_fail hC.2.1, if_true]
        exact zl_bad ha (by decide)
    · rw [if_neg g2, if_neg g2]
      simp only [fz_lc]
      unfold zl_cm
      have z := hS u p s hC h0 h1 hs0 hs1
      have zg := iS p h0 h1
      obtain ⟨X, hX⟩ : ∃ X : Int × fx_U, X = S u := ⟨_, rfl⟩
      rw [← hX] at z ⊢
      obtain ⟨z1, z2⟩ := id z
      rcases z2 with ⟨a1, a2, ⟨a3, a3b⟩, a4, a5, a6, a7⟩ | ⟨a1, a2, a3⟩
      · have c2 := hC.mv ha z1 a3 a3b
        obtain ⟨l1, l2⟩ := zg.2.1 a1
        have z' : zl_R q la sg vl s u (gS p) (1, X.2) := by
          rw [show ((1 : Int), X.2) = X by rw [← a2]]
          exact z
        rw [if_neg (show ¬ X.1 = 0 by rw [a2]; decide), if_pos a1]
        simp only [zl_peek c2 (show 0 ≤ (gS p).2.1 by omega)]
        have cmp : (zz_pk T n (gS p).2.1 = 60 ∨ zz_pk T n (gS p).2.1 = 62 ∨ zz_pk T n (gS p).2.1 = 61) → zl_R q la sg vl s u (zl_op T n gS (gS p)) (gl_C S q X.2 (zz_pk T n (gS p).2.1)) := by
          intro t
          have hp := zz_pk_lt (T := T) (n := n) (p := (gS p).2.1) (by omega)
          have y := zl_opC ha hn hS iS hC h0 hs0 hs1 zg a1 z' (by omega) (by omega) (by omega)
          unfold gl_C
          simp only [fz_lt, fz_ls, fz_lc, fz_lr]
          rw [zl_one c2.2.1 ⟨by omega, by omega⟩]
          obtain ⟨m1, -, -, -, m5⟩ := zl_go (s := s) (u := X.2) ha (x := (gS p).2.1 + 1)
          have y2 := hS _ ((gS p).2.1 + 1) (s + ((gS p).2.2.length : Int)) (c2.mv ha m1 (u1 := fx_pt X.2 q 2 ((gS p).2.1 + 1)) zz_ps (m5.trans a3b)) (by omega) (by omega) (by omega) (by omega)
          have x4 : (S (fx_pt X.2 q 2 ((gS p).2.1 + 1))).2 q 4 = (la : Int) := (y2.1.2.2 4 (by decide) (by decide)).trans ((m1.2.2 4 (by decide) (by decide)).trans c2.1.2.2.1)
          rw [x4, Int.toNat_natCast]
          rcases y2.2 with ⟨b1, b2, -⟩ | ⟨b1, b2, b3⟩
          · rw [if_neg (by rw [b2]; decide)]
            rw [b2] at y
            exact y
          · rw [if_pos b2]
            unfold zl_op
            rw [if_neg b1]
            refine ⟨z1.tr (m1.tr y2.1), Or.inr ⟨b1, rfl, ?_⟩⟩
            exact b3
        by_cases t1 : zz_pk T n (gS p).2.1 = 60
        · rw [if_pos t1, if_pos (Or.inl t1)]
          exact cmp (Or.inl t1)
        · by_cases t2 : zz_pk T n (gS p).2.1 = 62
          · rw [if_neg t1, if_pos t2, if_pos (Or.inr (Or.inl t2))]
            exact cmp (Or.inr (Or.inl t2))
          · by_cases t3 : zz_pk T n (gS p).2.1 = 61
            · rw [if_neg t1, if_neg t2, if_pos t3, if_pos (Or.inr (Or.inr t3))]
              exact cmp (Or.inr (Or.inr t3))
            · rw [if_neg t1, if_neg t2, if_neg t3, if_neg (by omega), zl_fail c2.2.1]
              exact ⟨z1.tr (zl_el.pq ha (Or.inr rfl)), Or.inr ⟨by first | decide | (dsimp only; decide) | (dsimp only), rfl, zz_ps⟩⟩
      · rw [if_pos a2, if_neg a1]
        exact ⟨z1, Or.inr ⟨a1, rfl, a3⟩⟩
/-- a jump leads here -/
theorem zl_lead (ha : zl_ap q la sg vl ta) {i e : Int} (h4 : u la 4 = (vl : Int)) (h1 : u la 1 = e) (hi : 0 ≤ i ∧ i < e) : f_X3_leadHere u la i = fx_pt u vl i.toNat e := by
  unfold f_X3_leadHere
  simp only [fz_lt, fz_lr, fz_ls, h1, h4, Int.toNat_natCast]
  rw [if_neg (by omega), if_pos hi.2]
theorem zl_lead_el (ha : zl_ap q la sg vl ta) {i : Int} (h4 : u la 4 = (vl : Int)) : zl_el q la sg vl u (f_X3_leadHere u la i) ∧ ∀ j, f_X3_leadHere u la i q j = u q j := by
  unfold f_X3_leadHere
  simp only [fz_lt, fz_lr, fz_ls, h4, Int.toNat_natCast]
  by_cases c0 : i < 0
  · rw [if_pos c0]
    exact ⟨zl_el.rf, fun _ => rfl⟩
  · rw [if_neg c0]
    by_cases c1 : i < u la 1
    · rw [if_pos c1]
      exact ⟨⟨fun c _ _ _ h i => zz_pa h, fun j _ _ => zz_pa ha.2.2.1.2.2, fun j _ _ => zz_pa ha.2.1.2.2⟩, fun j => zz_pa ha.2.1.2.2⟩
    · rw [if_neg c1]
      exact ⟨zl_el.rf, fun _ => rfl⟩
/-- both sides and the jump between -/
theorem zl_jpC (ha : zl_ap q la sg vl ta) (hn : n ≤ 240) {F : fx_U → Int × fx_U} {g : Int → zl_O} (hF : zl_ok T q la sg vl ta n F g) (hg : zl_gd n g) {o : zl_O} {w : fx_U} {c : Int} (hj : c = 38 ∨ c = 124) (hC : zl_C T q la sg vl ta n b s u) (h0 : 0 ≤ b) (hs0 : 0 ≤ s) (hs1 : s ≤ b) (ho : zl_g1 n b o) (o1 : o.1 = 0) (hr : zl_R q la sg vl s u o (1, w)) (hc : zz_pk T n o.2.1 = c) :
    zl_R q la sg vl s u (zl_jp T n g o) ((F (f_X3_add (fx_pt w q 2 (o.2.1 + 1)) la c 0).2).1, f_X3_leadHere (F (f_X3_add (fx_pt w q 2 (o.2.1 + 1)) la c 0).2).2 la (f_X3_add (fx_pt w q 2 (o.2.1 + 1)) la c 0).1) := by
  have hp := zz_pk_lt (T := T) (n := n) (p := o.2.1) (by omega)
  obtain ⟨⟨p1, p2⟩, p3, -⟩ := ho
  obtain ⟨p4, p5⟩ := p3 o1
  obtain ⟨r1, r2⟩ := hr
  rcases r2 with ⟨-, -, ⟨r3, r4⟩, r5, r6, r7, r8⟩ | ⟨r2, -⟩
  · have c1 := hC.mv ha r1 r3 r4
    obtain ⟨m1, m2, m3, m4, m5⟩ := zl_go (s := s + (o.2.2.length : Int)) (u := w) ha (x := o.2.1 + 1)
    have c2 := c1.mv ha m1 (u1 := fx_pt w q 2 (o.2.1 + 1)) zz_ps (m5.trans r4)
    obtain ⟨y, e1, e2, e3, e4, e5, e6, e7, e8⟩ := zl_add ha (a := c) (b := 0) c2.1.2.2.2.1 c2.1.2.2.2.2 c2.2.2.1 ⟨by omega, by omega⟩
    have e8' : y la 2 = w la 2 := by
      rw [e8, if_neg (fun z => by have := congrArg Prod.fst z; simp only at this; omega)]
      exact m3
    have c3 := c2.mv ha e2 (u1 := y) ((e3 2).trans zz_ps) e4
    have z := hF y (o.2.1 + 1) (s + (o.2.2.length : Int) + 1) c3 (by omega) (by omega) (by omega) (by omega)
    have zg := hg (o.2.1 + 1) (by omega) (by omega)
    rw [e1]
    show zl_R q la sg vl s u (zl_jp T n g o) ((F y).1, f_X3_leadHere (F y).2 la (s + (o.2.2.length : Int)))
    obtain ⟨X, hX⟩ : ∃ X : Int × fx_U, X = F y := ⟨_, rfl⟩
    rw [← hX] at z ⊢
    obtain ⟨z1, z2⟩ := z
    have x4 : X.2 la 4 = (vl : Int) := (z1.2.1 4 (by decide) (by decide)).trans c3.1.2.2.2.2
    have allE : zl_el q la sg vl u X.2 := r1.tr (m1.tr (e2.tr z1))
    unfold zl_jp
    rcases z2 with ⟨a1, a2, ⟨a3, a3b⟩, a4, a5, a6, a7⟩ | ⟨a1, a2, a3⟩
    · rw [if_pos a1, a2, zl_lead ha x4 a3b ⟨by omega, by omega⟩]
      have stp : zl_st sg vl (s + (o.2.2.length : Int)) w X.2 := fun i hi => ⟨(a4 i (by omega)).1.trans ((e5 i hi).1.trans (m2 i hi).1), (a4 i (by omega)).2.trans ((e5 i hi).2.trans (m2 i hi).2)⟩
      have stl : zl_st sg vl (s + (o.2.2.length : Int)) w (fx_pt X.2 vl (s + (o.2.2.length : Int)).toNat (s + (o.2.2.length : Int) + 1 + ((g (o.2.1 + 1)).2.2.length : Int))) := fun i hi => ⟨(zz_pa ha.2.2.2.1.2.2).trans (stp i hi).1, (zz_pj (by omega)).trans (stp i hi).2⟩
      refine ⟨allE.tr ⟨fun d _ _ _ h i => zz_pa h, fun j _ _ => zz_pa ha.2.2.1.2.2, fun j _ _ => zz_pa ha.2.1.2.2⟩, Or.inl ⟨rfl, rfl, ⟨(zz_pa ha.2.1.2.2).trans a3, ?_⟩, fun i hi => ⟨(stl i (by omega)).1.trans (r5 i hi).1, (stl i (by omega)).2.trans (r5 i hi).2⟩, zl_cd_app _ _ s (zl_cd_keep stl o.2.2 s hs0 (Int.le_refl _) r6) ⟨⟨?_, ?_⟩, ?_⟩, ?_, ?_⟩⟩
      · show fx_pt X.2 vl _ _ la 1 = s + ((o.2.2 ++ (zz_pk T n o.2.1, ((g (o.2.1 + 1)).2.2.length : Int) + 1) :: (g (o.2.1 + 1)).2.2).length : Int)
        rw [zz_pa ha.2.2.1.2.2, a3b, List.length_append, List.length_cons]
        omega
      · show fx_pt X.2 vl _ _ sg (s + (o.2.2.length : Int)).toNat = zz_pk T n o.2.1
        rw [zz_pa ha.2.2.2.1.2.2, (a4 (s + (o.2.2.length : Int)).toNat (by omega)).1, hc]
        exact e6
      · show fx_pt X.2 vl (s + (o.2.2.length : Int)).toNat _ vl (s + (o.2.2.length : Int)).toNat = zl_v (s + (o.2.2.length : Int)) (zz_pk T n o.2.1, ((g (o.2.1 + 1)).2.2.length : Int) + 1)
        unfold zl_v
        rw [zz_ps, if_pos (by rw [hc]; exact hj)]
        show s + (o.2.2.length : Int) + 1 + ((g (o.2.1 + 1)).2.2.length : Int) = s + (o.2.2.length : Int) + (((g (o.2.1 + 1)).2.2.length : Int) + 1)
        omega
      · exact zl_cd_far (e := s + (o.2.2.length : Int) + 1) (fun i hi => ⟨zz_pa ha.2.2.2.1.2.2, zz_pj (by omega)⟩) _ _ ⟨by omega, Int.le_refl _⟩ a5
      · show fx_pt X.2 vl _ _ la 2 = zl_am (o.2.2 ++ (zz_pk T n o.2.1, ((g (o.2.1 + 1)).2.2.length : Int) + 1) :: (g (o.2.1 + 1)).2.2) (u la 2)
        rw [zz_pa ha.2.2.1.2.2, zl_am_app, ← r7, a6, e8']
        show zl_am (g (o.2.1 + 1)).2.2 (w la 2) = zl_am (g (o.2.1 + 1)).2.2 (if (zz_pk T n o.2.1, ((g (o.2.1 + 1)).2.2.length : Int) + 1) = (105, 116) then 1 else w la 2)
        rw [if_neg (fun z => by have := congrArg Prod.fst z; simp only at this; omega)]
      · exact (zz_pa ha.2.1.2.2).trans (a7.trans ((e3 3).trans (m4.trans r8)))
    · have ad := zl_lead_el ha (i := s + (o.2.2.length : Int)) x4
      rw [if_neg a1, a2]
      exact ⟨allE.tr ad.1, Or.inr ⟨a1, rfl, (ad.2 3).trans a3⟩⟩
  · exact absurd o1 r2
end LawF
