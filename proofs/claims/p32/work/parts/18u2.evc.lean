/-! WHAT THE LAW COMES TO in the class: its stack, its steps -/
def zv_sk (b : Nat) (w : fx_U) : List Int → Prop
  | [] => True
  | x :: R => w b R.length = x ∧ zv_sk b w R
theorem zv_sk.keep {b : Nat} {w v : fx_U} : ∀ (R : List Int), (∀ i : Nat, i < R.length → v b i = w b i) → zv_sk b w R → zv_sk b v R
  | [], _, _ => True.intro
  | x :: R, h, k => by
    rw [List.length_cons] at h
    exact ⟨(h R.length (by omega)).trans k.1, zv_sk.keep R (fun i hi => h i (by omega)) k.2⟩
/-- what two signs make of two numbers; none: refused -/
def zv_rk (c x y : Int) : Option Int :=
  if c = 43 then some (fx_b_add x y) else if c = 45 then some (fx_b_sub x y) else if c = 42 then some (fx_b_mul x y) else if c = 60 then some (if x < y then 1 else 0) else if c = 62 then some (if y < x then 1 else 0) else if c = 61 then some (if x = y then 1 else 0) else if y = 0 then none else if c = 47 then some (fx_b_div x y) else some (fx_b_rem x y)
def zv_cs (la bk : Nat) (w : fx_U) (st : List Int) : Prop := (w la 8 = (bk : Int) ∧ w la 9 = (st.length : Int)) ∧ w la 10 = 0 ∧ zv_sk bk w st
def zv_fe (la bk : Nat) (u w : fx_U) : Prop := (∀ b : Nat, b ≠ la → b ≠ bk → ∀ i : Nat, w b i = u b i) ∧ ∀ j : Nat, j ≠ 9 → j ≠ 10 → w la j = u la j
/-- what does not change while it runs: the rows of steps, how many, what letters say -/
def zv_ct (la bk sg vl : Nat) (N : Int) (V : Int → Int) (u0 : fx_U) : Prop := ((la ≠ bk ∧ bk ≠ la) ∧ (sg ≠ la ∧ sg ≠ bk) ∧ (vl ≠ la ∧ vl ≠ bk)) ∧ (u0 la 1 = N ∧ u0 la 3 = (sg : Int) ∧ u0 la 4 = (vl : Int)) ∧ ∀ w : fx_U, zv_fe la bk u0 w → ∀ x : Int, zl_fo x ≠ -1 → f_X3_valueOf w la x = V x
section Evc
variable {la bk sg vl : Nat} {N s k : Int} {V : Int → Int} {u0 u w w2 : fx_U} {st : List Int}
theorem zv_fe.tr (h : zv_fe la bk u w) (k : zv_fe la bk w w2) : zv_fe la bk u w2 := ⟨fun b h1 h2 i => (k.1 b h1 h2 i).trans (h.1 b h1 h2 i), fun j h1 h2 => (k.2 j h1 h2).trans (h.2 j h1 h2)⟩
theorem zv_fe.rf : zv_fe la bk u u := ⟨fun _ _ _ _ => rfl, fun _ _ _ => rfl⟩
theorem zv_fe.p9 (h : bk ≠ la) {j : Nat} {x : Int} (hj : j = 9 ∨ j = 10) : zv_fe la bk u (fx_pt u la j x) := ⟨fun b h1 _ i => zz_pa h1, fun i h1 h2 => zz_pj (by omega)⟩
theorem zv_fe.pk (h : la ≠ bk) {j : Nat} {x : Int} : zv_fe la bk u (fx_pt u bk j x) := ⟨fun b _ h2 i => zz_pa h2, fun i _ _ => zz_pa h⟩
theorem zv_push (n1 : la ≠ bk) (n2 : bk ≠ la) {x : Int} (h : zv_cs la bk w st) (h32 : st.length < 32) : ∃ y : fx_U, f_X3_push w la x = y ∧ zv_cs la bk y (x :: st) ∧ zv_fe la bk w y := by
  obtain ⟨⟨h1, h2⟩, h3, h4⟩ := h
  have l32 : (st.length : Int) < 32 := by omega
  refine ⟨fx_pt (fx_pt w bk st.length x) la 9 ((st.length : Int) + 1), ?_, ⟨⟨?_, ?_⟩, ?_, ⟨?_, ?_⟩⟩, (zv_fe.pk n1).tr (zv_fe.p9 n2 (Or.inl rfl))⟩
  · unfold f_X3_push
    simp only [fz_lt, fz_lr, fz_ls, h1, h2, if_pos l32, Int.toNat_natCast]
  · exact (zz_pj (by decide)).trans ((zz_pa n1).trans h1)
  · rw [zz_ps, List.length_cons]
    omega
  · exact (zz_pj (by decide)).trans ((zz_pa n1).trans h3)
  · exact (zz_pa n2).trans zz_ps
  · exact zv_sk.keep st (fun i hi => (zz_pa n2).trans (zz_pj (by omega))) h4
theorem zv_pop (n2 : bk ≠ la) {x : Int} (h : zv_cs la bk w (x :: st)) : ∃ y : fx_U, f_X3_pop w la = (x, y) ∧ zv_cs la bk y st ∧ zv_fe la bk w y := by
  obtain ⟨⟨h1, h2⟩, h3, h4, h5⟩ := h
  rw [List.length_cons] at h2
  have l0 : (0 : Int) < ((st.length + 1 : Nat) : Int) := by omega
  have l1 : ((st.length + 1 : Nat) : Int) - 1 = (st.length : Int) := by omega
  have x8 : fx_pt w la 9 (st.length : Int) la 8 = (bk : Int) := (zz_pj (by decide)).trans h1
  have x9 : fx_pt w la 9 (st.length : Int) bk st.length = x := (zz_pa n2).trans h4
  refine ⟨fx_pt w la 9 (st.length : Int), ?_, ⟨⟨x8, zz_ps⟩, (zz_pj (by decide)).trans h3, zv_sk.keep st (fun i _ => zz_pa n2) h5⟩, zv_fe.p9 n2 (Or.inl rfl)⟩
  unfold f_X3_pop
  simp only [fz_lt, fz_lr, fz_ls, h2, if_pos l0, l1, x8, Int.toNat_natCast, x9]
/-- one step of it, where it stands -/
theorem zv_go (hc : zv_ct la bk sg vl N V u0) (hw : zv_fe la bk u0 w) (h0 : 0 ≤ s) (h1 : s < N) (hk : k < N) (h59 : u0 sg s.toNat ≠ 59) (F : Nat) : kL_X3_run_14 la (F + 1) s k w = if (f_X3_take w la s).2 la 10 = 0 then kL_X3_run_14 la F (f_X3_take w la s).1 (k + 1) (f_X3_take w la s).2 else (0, (f_X3_take w la s).2) := by
  obtain ⟨⟨n1, n2, n3⟩, ⟨c1, c3, c4⟩, -⟩ := hc
  have x1 : w la 1 = N := (hw.2 1 (by decide) (by decide)).trans c1
  have x3 : w la 3 = (sg : Int) := (hw.2 3 (by decide) (by decide)).trans c3
  have x5 : ¬ w sg s.toNat = 59 := by
    rw [hw.1 sg n2.1 n2.2 s.toNat]
    exact h59
  have eK : kL_X3_run_14 la (F + 1) s k w = kB_X3_run_14 (kL_X3_run_14 la F) la s k w := rfl
  rw [eK]
  unfold kB_X3_run_14
  simp only [fz_lt, fz_lr, fz_lc, x1, x3, Int.toNat_natCast, if_pos hk, if_neg (show ¬ s < 0 by omega), if_pos h1, if_neg x5]
theorem zv_sg (hc : zv_ct la bk sg vl N V u0) (hw : zv_fe la bk u0 w) (i : Nat) : (w la 3 = (sg : Int) ∧ w la 4 = (vl : Int)) ∧ w sg i = u0 sg i ∧ w vl i = u0 vl i := ⟨⟨(hw.2 3 (by decide) (by decide)).trans hc.2.1.2.1, (hw.2 4 (by decide) (by decide)).trans hc.2.1.2.2⟩, hw.1 sg hc.1.2.1.1 hc.1.2.1.2 i, hw.1 vl hc.1.2.2.1 hc.1.2.2.2 i⟩
/-- a number or a letter -/
theorem zv_t1 (hc : zv_ct la bk sg vl N V u0) (hw : zv_fe la bk u0 w) (hs : zv_cs la bk w st) (h32 : st.length < 32) {c x : Int} (e1 : u0 sg s.toNat = c) (e2 : u0 vl s.toNat = x) (h : (c = 48) ∨ (c = 105 ∧ zl_fo x ≠ -1)) : ∃ y : fx_U, f_X3_take w la s = (s + 1, y) ∧ zv_cs la bk y ((if c = 48 then x else V x) :: st) ∧ zv_fe la bk u0 y := by
  obtain ⟨⟨g3, g4⟩, g5, g6⟩ := zv_sg hc hw s.toNat
  rw [e1] at g5
  rw [e2] at g6
  rcases h with h | ⟨h, hx⟩
  · obtain ⟨y, p1, p2, p3⟩ := zv_push hc.1.1.1 hc.1.1.2 (x := x) hs h32
    refine ⟨y, ?_, ?_, hw.tr p3⟩
    · unfold f_X3_take
      simp only [fz_lt, fz_lr, fz_ls, g3, g4, Int.toNat_natCast, g5, g6, if_pos h, p1]
    · rw [if_pos h]
      exact p2
  · obtain ⟨y, p1, p2, p3⟩ := zv_push hc.1.1.1 hc.1.1.2 (x := V x) hs h32
    have n48 : ¬ c = 48 := by omega
    refine ⟨y, ?_, ?_, hw.tr p3⟩
    · unfold f_X3_take
      simp only [fz_lt, fz_lr, fz_ls, g3, g4, Int.toNat_natCast, g5, g6, if_neg n48, if_pos h, hc.2.2 w hw x hx, p1]
    · rw [if_neg n48]
      exact p2
/-- a ! -/
theorem zv_t2 (hc : zv_ct la bk sg vl N V u0) (hw : zv_fe la bk u0 w) {x : Int} (hs : zv_cs la bk w (x :: st)) (h32 : st.length < 32) (e1 : u0 sg s.toNat = 33) : ∃ y : fx_U, f_X3_take w la s = (s + 1, y) ∧ zv_cs la bk y ((if x = 0 then 1 else 0) :: st) ∧ zv_fe la bk u0 y := by
  obtain ⟨⟨g3, g4⟩, g5, g6⟩ := zv_sg hc hw s.toNat
  rw [e1] at g5
  obtain ⟨y, p1, p2, p3⟩ := zv_pop hc.1.1.2 hs
  by_cases q : x = 0
  · obtain ⟨z, q1, q2, q3⟩ := zv_push hc.1.1.1 hc.1.1.2 (x := 1) p2 h32
    refine ⟨z, ?_, ?_, hw.tr (p3.tr q3)⟩
    · unfold f_X3_take kJ_X3_take_68
      simp only [fz_lt, fz_lr, fz_ls, fz_lc, g3, Int.toNat_natCast, g5, if_neg (show ¬ (33 : Int) = 48 by decide), if_neg (show ¬ (33 : Int) = 105 by decide), if_true, p1, if_pos q, q1]
    · rw [if_pos q]
      exact q2
  · obtain ⟨z, q1, q2, q3⟩ := zv_push hc.1.1.1 hc.1.1.2 (x := 0) p2 h32
    refine ⟨z, ?_, ?_, hw.tr (p3.tr q3)⟩
    · unfold f_X3_take kJ_X3_take_68
      simp only [fz_lt, fz_lr, fz_ls, fz_lc, g3, Int.toNat_natCast, g5, if_neg (show ¬ (33 : Int) = 48 by decide), if_neg (show ¬ (33 : Int) = 105 by decide), if_true, p1, if_neg q, q1]
    · rw [if_neg q]
      exact q2
/-- a jump: it goes on behind, or leads away with what it found -/
theorem zv_t3 (hc : zv_ct la bk sg vl N V u0) (hw : zv_fe la bk u0 w) {c x t : Int} (hs : zv_cs la bk w (x :: st)) (h32 : st.length < 32) (h : c = 38 ∨ c = 124) (e1 : u0 sg s.toNat = c) (e2 : u0 vl s.toNat = t) : ∃ y : fx_U, zv_fe la bk u0 y ∧ if (c = 38 ∧ x = 0) ∨ (c = 124 ∧ x ≠ 0) then f_X3_take w la s = (t, y) ∧ zv_cs la bk y (x :: st) else f_X3_take w la s = (s + 1, y) ∧ zv_cs la bk y st := by
  obtain ⟨⟨g3, g4⟩, g5, g6⟩ := zv_sg hc hw s.toNat
  rw [e1] at g5
  obtain ⟨y, p1, p2, p3⟩ := zv_pop hc.1.1.2 hs
  obtain ⟨⟨k3, k4⟩, k5, k6⟩ := zv_sg hc (hw.tr p3) s.toNat
  rw [e1] at k5
  obtain ⟨z, q1, q2, q3⟩ := zv_push hc.1.1.1 hc.1.1.2 (x := x) p2 h32
  obtain ⟨⟨m3, m4⟩, m5, m6⟩ := zv_sg hc (hw.tr (p3.tr q3)) s.toNat
  rw [e2] at m6
  have eT : f_X3_take w la s = f_X3_skipOrGoOn w la s := by
    unfold f_X3_take kJ_X3_take_86
    rcases h with h | h
    · rw [h] at g5
      simp only [fz_lt, fz_lr, fz_lc, g3, Int.toNat_natCast, g5, if_neg (show ¬ (38 : Int) = 48 by decide), if_neg (show ¬ (38 : Int) = 105 by decide), if_neg (show ¬ (38 : Int) = 33 by decide), if_neg (show ¬ (38 : Int) = 124 by decide), if_true]
    · rw [h] at g5
      simp only [fz_lt, fz_lr, fz_lc, g3, Int.toNat_natCast, g5, if_neg (show ¬ (124 : Int) = 48 by decide), if_neg (show ¬ (124 : Int) = 105 by decide), if_neg (show ¬ (124 : Int) = 33 by decide), if_true]
  by_cases q : (c = 38 ∧ x = 0) ∨ (c = 124 ∧ x ≠ 0)
  · refine ⟨z, hw.tr (p3.tr q3), ?_⟩
    rw [if_pos q]
    refine ⟨?_, q2⟩
    rw [eT]
    unfold f_X3_skipOrGoOn kJ_X3_skipOrGoOn_37
    rcases q with ⟨qc, qx⟩ | ⟨qc, qx⟩
    · rw [qc] at k5
      simp only [fz_lt, fz_lr, fz_ls, fz_lc, p1, k3, Int.toNat_natCast, k5, if_neg (show ¬ (38 : Int) = 124 by decide), if_pos qx, if_neg zz_n10, q1, m4, m6]
    · rw [qc] at k5
      simp only [fz_lt, fz_lr, fz_ls, fz_lc, p1, k3, Int.toNat_natCast, k5, if_true, if_neg qx, if_neg zz_n10, q1, m4, m6]
  · refine ⟨y, hw.tr p3, ?_⟩
    rw [if_neg q]
    refine ⟨?_, p2⟩
    rw [eT]
    unfold f_X3_skipOrGoOn kJ_X3_skipOrGoOn_37
    rcases h with h | h
    · have qx : ¬ x = 0 := fun z => q (Or.inl ⟨h, z⟩)
      rw [h] at k5
      simp only [fz_lt, fz_lr, fz_ls, fz_lc, p1, k3, Int.toNat_natCast, k5, if_neg (show ¬ (38 : Int) = 124 by decide), if_neg qx, if_true]
    · have qx : x = 0 := by
        by_cases z : x = 0
        · exact z
        · exact absurd (Or.inr ⟨h, z⟩) q
      rw [h] at k5
      simp only [fz_lt, fz_lr, fz_ls, fz_lc, p1, k3, Int.toNat_natCast, k5, if_pos qx, if_true]
/-- two numbers and a sign -/
theorem zv_rkC {c x y : Int} (h : c = 43 ∨ c = 45 ∨ c = 42 ∨ c = 47 ∨ c = 37 ∨ c = 60 ∨ c = 62 ∨ c = 61) : f_X3_reckon w la c x y = match zv_rk c x y with | some v => (v, w) | none => (0, fx_pt w la 10 1) := by
  unfold f_X3_reckon zv_rk
  rcases h with rfl | rfl | rfl | rfl | rfl | rfl | rfl | rfl
  · rfl
  · rfl
  · rfl
  · by_cases q : y = 0
    · simp only [fz_lt, fz_ls, if_pos q]
      rfl
    · simp only [fz_lt, fz_ls, if_neg q]
      rfl
  · by_cases q : y = 0
    · simp only [fz_lt, fz_ls, if_pos q]
      rfl
    · simp only [fz_lt, fz_ls, if_neg q]
      rfl
  · by_cases q : x < y
    · simp only [if_pos q]
      rfl
    · simp only [if_neg q]
      rfl
  · by_cases q : y < x
    · simp only [if_pos q]
      rfl
    · simp only [if_neg q]
      rfl
  · by_cases q : x = y
    · simp only [if_pos q]
      rfl
    · simp only [if_neg q]
      rfl
theorem zv_t4 (hc : zv_ct la bk sg vl N V u0) (hw : zv_fe la bk u0 w) {c x y : Int} (hs : zv_cs la bk w (y :: x :: st)) (h32 : st.length < 32) (h : c = 43 ∨ c = 45 ∨ c = 42 ∨ c = 47 ∨ c = 37 ∨ c = 60 ∨ c = 62 ∨ c = 61) (e1 : u0 sg s.toNat = c) : ∃ z : fx_U, f_X3_take w la s = (s + 1, z) ∧ zv_fe la bk u0 z ∧ match zv_rk c x y with | some v => zv_cs la bk z (v :: st) | none => z la 10 = 1 := by
  obtain ⟨⟨g3, g4⟩, g5, g6⟩ := zv_sg hc hw s.toNat
  rw [e1] at g5
  obtain ⟨y1, p1, p2, p3⟩ := zv_pop hc.1.1.2 hs
  obtain ⟨y2, q1, q2, q3⟩ := zv_pop hc.1.1.2 p2
  have rk := zv_rkC (w := y2) (la := la) (x := x) (y := y) h
  have i1 : ¬ c = 48 := by omega
  have i2 : ¬ c = 105 := by omega
  have i3 : ¬ c = 33 := by omega
  have i4 : ¬ c = 124 := by omega
  have i5 : ¬ c = 38 := by omega
  cases e : zv_rk c x y with
  | some v =>
    rw [e] at rk
    have rk2 : f_X3_reckon y2 la c x y = (v, y2) := rk
    obtain ⟨z, r1, r2, r3⟩ := zv_push hc.1.1.1 hc.1.1.2 (x := v) q2 h32
    refine ⟨z, ?_, hw.tr (p3.tr (q3.tr r3)), r2⟩
    unfold f_X3_take
    simp only [fz_lt, fz_lr, fz_ls, fz_lc, g3, Int.toNat_natCast, g5, if_neg i1, if_neg i2, if_neg i3, if_neg i4, if_neg i5, p1, q1, rk2, r1]
  | none =>
    rw [e] at rk
    have rk2 : f_X3_reckon y2 la c x y = (0, fx_pt y2 la 10 1) := rk
    have o1 : zv_fe la bk y2 (fx_pt y2 la 10 1) := zv_fe.p9 hc.1.1.2 (Or.inr rfl)
    have l8 : fx_pt y2 la 10 1 la 8 = (bk : Int) := (zz_pj (by decide)).trans q2.1.1
    have l9 : fx_pt y2 la 10 1 la 9 = (st.length : Int) := (zz_pj (by decide)).trans q2.1.2
    have l32 : (st.length : Int) < 32 := by omega
    have eP : f_X3_push (fx_pt y2 la 10 1) la 0 = fx_pt (fx_pt (fx_pt y2 la 10 1) bk st.length 0) la 9 ((st.length : Int) + 1) := by
      unfold f_X3_push
      simp only [fz_lt, fz_lr, fz_ls, l8, l9, if_pos l32, Int.toNat_natCast]
    refine ⟨fx_pt (fx_pt (fx_pt y2 la 10 1) bk st.length 0) la 9 ((st.length : Int) + 1), ?_, hw.tr (p3.tr (q3.tr (o1.tr ((zv_fe.pk hc.1.1.1).tr (zv_fe.p9 hc.1.1.2 (Or.inl rfl)))))), ?_⟩
    · unfold f_X3_take
      simp only [fz_lt, fz_lr, fz_ls, fz_lc, g3, Int.toNat_natCast, g5, if_neg i1, if_neg i2, if_neg i3, if_neg i4, if_neg i5, p1, q1, rk2, eP]
    · exact (zz_pj (by decide)).trans ((zz_pa hc.1.1.1).trans zz_ps)
end Evc
