/-! THE LAW'S TEXT in the class: the loops, a piece, an E and a C -/
section LawE
variable {T : Nat → Int} {q la sg vl ta : Nat} {n s b : Int} {u : fx_U}
theorem zl_times {w : fx_U} {c : Int} : f_X4_isTimes w c = if c = 42 ∨ c = 47 ∨ c = 37 then 1 else 0 := by
  unfold f_X4_isTimes
  by_cases h1 : c = 42
  · rw [if_pos h1, if_pos (Or.inl h1)]
  · by_cases h2 : c = 47
    · rw [if_neg h1, if_pos h2, if_pos (Or.inr (Or.inl h2))]
    · by_cases h3 : c = 37
      · rw [if_neg h1, if_neg h2, if_pos h3, if_pos (Or.inr (Or.inr h3))]
      · rw [if_neg h1, if_neg h2, if_neg h3, if_neg (by omega)]
theorem zl_tlC (ha : zl_ap q la sg vl ta) (hn : n ≤ 240) {F : fx_U → Int × fx_U} {g : Int → zl_O} (hF : zl_ok T q la sg vl ta n F g) (hg : zl_gd n g) (hC : zl_C T q la sg vl ta n b s u) (h0 : 0 ≤ b) (hs0 : 0 ≤ s) (hs1 : s ≤ b) :
    ∀ (f : Nat) (k : Int) (o : zl_O) (r : Int) (w : fx_U), k + (f : Int) = 241 → (0 ≤ k ∧ k ≤ 240) → (o.1 = 0 → k ≤ o.2.1) → zl_g1 n b o → zl_R q la sg vl s u o (r, w) → zl_R q la sg vl s u (zl_tl T n g f o) (gl_T F q f r k w) := by
  intro f
  induction f with
  | zero => intro k o r w h1 h2; omega
  | succ f ih =>
    intro k o r w h1 h2 h3 ho hr
    obtain ⟨r1, r2⟩ := id hr
    unfold zl_tl gl_T
    rcases r2 with ⟨a1, a2, ⟨a3, a3b⟩, -⟩ | ⟨a1, a2, -⟩
    · have er : r = 1 := a2
      subst er
      have c1 := hC.mv ha r1 a3 a3b
      obtain ⟨p3, p4⟩ := ho.2.1 a1
      simp only [fz_lt, fz_lr, fz_ls, fz_lc, zl_peek c1 (show 0 ≤ o.2.1 by omega), zl_times, if_neg zz_n10]
      by_cases t : zz_pk T n o.2.1 = 42 ∨ zz_pk T n o.2.1 = 47 ∨ zz_pk T n o.2.1 = 37
      · have hp := zz_pk_lt (T := T) (n := n) (p := o.2.1) (by omega)
        have k3 := h3 a1
        have bo : 0 ≤ o.2.1 ∧ o.2.1 ≤ 1000 := ⟨by omega, by omega⟩
        rw [if_pos ⟨a1, t⟩, if_pos (show k < 240 by omega)]
        simp only [if_pos t, if_neg zz_n10]
        rw [zl_one c1.2.1 bo]
        have z := zl_opC ha hn hF hg hC h0 hs0 hs1 ho a1 hr (by omega) (by omega) (by omega)
        have zg := zl_op_g (T := T) hg h0 ho a1 (by omega)
        have x4 : (F (fx_pt w q 2 (o.2.1 + 1))).2 q 4 = (la : Int) := by
          obtain ⟨m1, -, -, -, m5⟩ := zl_go (s := s) (u := w) ha (x := o.2.1 + 1)
          have y := (hF _ (o.2.1 + 1) (s + (o.2.2.length : Int)) (c1.mv ha m1 (u1 := fx_pt w q 2 (o.2.1 + 1)) zz_ps (m5.trans a3b)) (by omega) (by omega) (by omega) (by omega)).1
          exact (y.2.2 4 (by decide) (by decide)).trans ((m1.2.2 4 (by decide) (by decide)).trans c1.1.2.2.1)
        rw [x4, Int.toNat_natCast]
        exact ih (k + 1) _ _ _ (by omega) ⟨by omega, by omega⟩ (fun _ => by have := zg.2; omega) zg.1 z
      · rw [if_neg (fun z => t z.2)]
        simp only [if_neg t, if_true]
        by_cases kk : k < 240
        · rw [if_pos kk]
          exact hr
        · rw [if_neg kk]
          exact hr
    · have er : r = 0 := a2
      subst er
      rw [if_neg (fun z => a1 z.1)]
      by_cases kk : k < 240
      · simp only [if_pos kk, if_true]
        exact hr
      · rw [if_neg kk]
        exact hr
theorem zl_slC (ha : zl_ap q la sg vl ta) (hn : n ≤ 240) {F : fx_U → Int × fx_U} {g : Int → zl_O} (hF : zl_ok T q la sg vl ta n F g) (hg : zl_gd n g) (hC : zl_C T q la sg vl ta n b s u) (h0 : 0 ≤ b) (hs0 : 0 ≤ s) (hs1 : s ≤ b) :
    ∀ (f : Nat) (k : Int) (o : zl_O) (r : Int) (w : fx_U), k + (f : Int) = 241 → (0 ≤ k ∧ k ≤ 240) → (o.1 = 0 → k ≤ o.2.1) → zl_g1 n b o → zl_R q la sg vl s u o (r, w) → zl_R q la sg vl s u (zl_sl T n g f o) (gl_S F q f r k w) := by
  intro f
  induction f with
  | zero => intro k o r w h1 h2; omega
  | succ f ih =>
    intro k o r w h1 h2 h3 ho hr
    obtain ⟨r1, r2⟩ := id hr
    unfold zl_sl gl_S
    rcases r2 with ⟨a1, a2, ⟨a3, a3b⟩, -⟩ | ⟨a1, a2, -⟩
    · have er : r = 1 := a2
      subst er
      have c1 := hC.mv ha r1 a3 a3b
      obtain ⟨p3, p4⟩ := ho.2.1 a1
      have pk := zl_peek c1 (show 0 ≤ o.2.1 by omega)
      simp only [fz_lt, pk, if_neg zz_n10]
      by_cases t : zz_pk T n o.2.1 = 43 ∨ zz_pk T n o.2.1 = 45
      · have hp := zz_pk_lt (T := T) (n := n) (p := o.2.1) (by omega)
        have k3 := h3 a1
        have bo : 0 ≤ o.2.1 ∧ o.2.1 ≤ 1000 := ⟨by omega, by omega⟩
        have z := zl_opC ha hn hF hg hC h0 hs0 hs1 ho a1 hr (by omega) (by omega) (by omega)
        have zg := zl_op_g (T := T) hg h0 ho a1 (by omega)
        have x4 : (F (fx_pt w q 2 (o.2.1 + 1))).2 q 4 = (la : Int) := by
          obtain ⟨m1, -, -, -, m5⟩ := zl_go (s := s) (u := w) ha (x := o.2.1 + 1)
          have y := (hF _ (o.2.1 + 1) (s + (o.2.2.length : Int)) (c1.mv ha m1 (u1 := fx_pt w q 2 (o.2.1 + 1)) zz_ps (m5.trans a3b)) (by omega) (by omega) (by omega) (by omega)).1
          exact (y.2.2 4 (by decide) (by decide)).trans ((m1.2.2 4 (by decide) (by decide)).trans c1.1.2.2.1)
        have e : gl_S37 F q w k (gl_S F q f) = gl_S F q f (F (fx_pt w q 2 (o.2.1 + 1))).1 (k + 1) (f_X3_add (F (fx_pt w q 2 (o.2.1 + 1))).2 la (zz_pk T n o.2.1) 0).2 := by
          unfold gl_S37
          simp only [fz_lt, fz_lr, fz_ls, fz_lc, pk]
          rw [zl_one c1.2.1 bo, x4, Int.toNat_natCast]
        rw [if_pos ⟨a1, t⟩, if_pos (show k < 240 by omega), e]
        have i := ih (k + 1) _ _ _ (by omega) ⟨by omega, by omega⟩ (fun _ => by have := zg.2; omega) zg.1 z
        rcases t with t | t
        · rw [if_pos t]
          exact i
        · rw [if_neg (by omega), if_pos t]
          exact i
      · rw [if_neg (fun z => t z.2), if_neg (fun z => t (Or.inl z)), if_neg (fun z => t (Or.inr z))]
        by_cases kk : k < 240
        · rw [if_pos kk]
          exact hr
        · rw [if_neg kk]
          exact hr
    · have er : r = 0 := a2
      subst er
      rw [if_neg (fun z => a1 z.1)]
      by_cases kk : k < 240
      · simp only [if_pos kk, if_true]
        exact hr
      · rw [if_neg kk]
        exact hr
theorem zl_termC (ha : zl_ap q la sg vl ta) (hn : n ≤ 240) {F : fx_U → Int × fx_U} {g : Int → zl_O} (hF : zl_ok T q la sg vl ta n F g) (hg : zl_gd n g) : zl_ok T q la sg vl ta n (fun u => gl_T F q 241 (F u).1 0 (F u).2) (zl_term T n g) := fun u p s hC h0 h1 hs0 hs1 => zl_tlC ha hn hF hg hC h0 hs0 hs1 241 0 (g p) (F u).1 (F u).2 (by decide) (by decide) (fun _ => by have := (hg p h0 h1).1; omega) (hg p h0 h1) (hF u p s hC h0 h1 hs0 hs1)
theorem zl_sumC (ha : zl_ap q la sg vl ta) (hn : n ≤ 240) {F : fx_U → Int × fx_U} {g : Int → zl_O} (hF : zl_ok T q la sg vl ta n F (zl_term T n g)) (hg : zl_gd n g) : zl_ok T q la sg vl ta n (fun u => gl_S F q 241 (F u).1 0 (F u).2) (zl_sum T n g) := fun u p s hC h0 h1 hs0 hs1 => zl_slC ha hn hF (zl_term_g hg) hC h0 hs0 hs1 241 0 (zl_term T n g p) (F u).1 (F u).2 (by decide) (by decide) (fun _ => by have := (zl_term_g (T := T) hg p h0 h1).1; omega) (zl_term_g hg p h0 h1) (hF u p s hC h0 h1 hs0 hs1)
end LawE
section LawLv
variable {T : Nat → Int} {q la sg vl ta : Nat} {n : Int}
theorem zl_tm_L6 (x : Int) : ∀ (m : Nat) (r k : Int) (w : fx_U), kL_X4_readTerm_L6_8 q x m r k w = gl_T (fun u => f_X4_readFactor_L6 u q x) q m r k w := by
  intro m
  induction m with
  | zero => intro r k w; rfl
  | succ m ih =>
    intro r k w
    have e : kL_X4_readTerm_L6_8 q x m = gl_T (fun u => f_X4_readFactor_L6 u q x) q m := by
      funext r k w
      exact ih r k w
    have eK : kL_X4_readTerm_L6_8 q x (m + 1) r k w = kB_X4_readTerm_L6_8 (kL_X4_readTerm_L6_8 q x m) q x r k w := rfl
    rw [eK, e]
    rfl
theorem zl_sm_L6 (x : Int) : ∀ (m : Nat) (r k : Int) (w : fx_U), kL_X4_readSum_L6_8 q x m r k w = gl_S (fun u => f_X4_readTerm_L6 u q x) q m r k w := by
  intro m
  induction m with
  | zero => intro r k w; rfl
  | succ m ih =>
    intro r k w
    have e : kL_X4_readSum_L6_8 q x m = gl_S (fun u => f_X4_readTerm_L6 u q x) q m := by
      funext r k w
      exact ih r k w
    have eK : kL_X4_readSum_L6_8 q x (m + 1) r k w = kB_X4_readSum_L6_8 (kL_X4_readSum_L6_8 q x m) q x r k w := rfl
    rw [eK, e]
    rfl
theorem zl_fc_L6 (u : fx_U) : f_X4_readFactor_L6 u q 6 = gl_F (fun _ => ((0 : Int), fun _ _ => (0 : Int))) q 6 u := by
  unfold f_X4_readFactor_L6 gl_F
  simp only [fz_lt, fz_lc, if_true]
theorem zl_Sc_L6 (ha : zl_ap q la sg vl ta) (hn : n ≤ 240) : zl_ok T q la sg vl ta n (fun u => f_X4_readSum_L6 u q 6) (zl_S T n 0) := by
  have f : zl_ok T q la sg vl ta n (fun u => f_X4_readFactor_L6 u q 6) (zl_fac T n (fun p => (5, p, [])) false) := by
    intro u p s h1 h2 h3 h4 h5
    have z := zl_facC (k := 6) (room := false) (S := fun _ => ((0 : Int), fun _ _ => (0 : Int))) (gS := (fun p => (5, p, []))) ha hn (by decide) (fun r => absurd r (by decide)) (fun r => absurd r (by decide)) u p s h1 h2 h3 h4 h5
    rw [← zl_fc_L6] at z
    exact z
  have g := zl_fac_g (T := T) (n := n) (F := (fun p => (5, p, []))) (room := false) (fun r => absurd r (by decide))
  have t : zl_ok T q la sg vl ta n (fun u => f_X4_readTerm_L6 u q 6) (zl_term T n (zl_fac T n (fun p => (5, p, [])) false)) := by
    intro u p s h1 h2 h3 h4 h5
    have z := zl_termC ha hn f g u p s h1 h2 h3 h4 h5
    have e : f_X4_readTerm_L6 u q 6 = gl_T (fun u => f_X4_readFactor_L6 u q 6) q 241 (f_X4_readFactor_L6 u q 6).1 0 (f_X4_readFactor_L6 u q 6).2 := by
      unfold f_X4_readTerm_L6
      simp only [fz_lr, fz_lc]
      rw [show Int.toNat (240 - 0) + 1 = 241 from rfl, zl_tm_L6]
    show zl_R q la sg vl s u _ (f_X4_readTerm_L6 u q 6)
    rw [e]
    exact z
  intro u p s h1 h2 h3 h4 h5
  have z := zl_sumC ha hn t g u p s h1 h2 h3 h4 h5
  have e : f_X4_readSum_L6 u q 6 = gl_S (fun u => f_X4_readTerm_L6 u q 6) q 241 (f_X4_readTerm_L6 u q 6).1 0 (f_X4_readTerm_L6 u q 6).2 := by
    unfold f_X4_readSum_L6
    simp only [fz_lr, fz_lc]
    rw [show Int.toNat (240 - 0) + 1 = 241 from rfl, zl_sm_L6]
  show zl_R q la sg vl s u _ (f_X4_readSum_L6 u q 6)
  rw [e]
  exact z
theorem zl_tm_L5 (x : Int) : ∀ (m : Nat) (r k : Int) (w : fx_U), kL_X4_readTerm_L5_8 q x m r k w = gl_T (fun u => f_X4_readFactor_L5 u q x) q m r k w := by
  intro m
  induction m with
  | zero => intro r k w; rfl
  | succ m ih =>
    intro r k w
    have e : kL_X4_readTerm_L5_8 q x m = gl_T (fun u => f_X4_readFactor_L5 u q x) q m := by
      funext r k w
      exact ih r k w
    have eK : kL_X4_readTerm_L5_8 q x (m + 1) r k w = kB_X4_readTerm_L5_8 (kL_X4_readTerm_L5_8 q x m) q x r k w := rfl
    rw [eK, e]
    rfl
theorem zl_sm_L5 (x : Int) : ∀ (m : Nat) (r k : Int) (w : fx_U), kL_X4_readSum_L5_8 q x m r k w = gl_S (fun u => f_X4_readTerm_L5 u q x) q m r k w := by
  intro m
  induction m with
  | zero => intro r k w; rfl
  | succ m ih =>
    intro r k w
    have e : kL_X4_readSum_L5_8 q x m = gl_S (fun u => f_X4_readTerm_L5 u q x) q m := by
      funext r k w
      exact ih r k w
    have eK : kL_X4_readSum_L5_8 q x (m + 1) r k w = kB_X4_readSum_L5_8 (kL_X4_readSum_L5_8 q x m) q x r k w := rfl
    rw [eK, e]
    rfl
theorem zl_fc_L5 (u : fx_U) : f_X4_readFactor_L5 u q 5 = gl_F (fun u => f_X4_readSum_L6 u q (5 + 1)) q 5 u := by
  unfold f_X4_readFactor_L5 gl_F
  simp only [fz_lt]
theorem zl_Sc_L5 (ha : zl_ap q la sg vl ta) (hn : n ≤ 240) : zl_ok T q la sg vl ta n (fun u => f_X4_readSum_L5 u q 5) (zl_S T n 1) := by
  have f : zl_ok T q la sg vl ta n (fun u => f_X4_readFactor_L5 u q 5) (zl_fac T n (zl_S T n 0) true) := by
    intro u p s h1 h2 h3 h4 h5
    have z := zl_facC (k := 5) (room := true) (S := fun u => f_X4_readSum_L6 u q (5 + 1)) (gS := (zl_S T n 0)) ha hn (by decide) (fun r => by rw [show (5 : Int) + 1 = 6 from rfl]; exact zl_Sc_L6 ha hn) (fun r => zl_S_g 0) u p s h1 h2 h3 h4 h5
    rw [← zl_fc_L5] at z
    exact z
  have g := zl_fac_g (T := T) (n := n) (F := (zl_S T n 0)) (room := true) (fun r => zl_S_g 0)
  have t : zl_ok T q la sg vl ta n (fun u => f_X4_readTerm_L5 u q 5) (zl_term T n (zl_fac T n (zl_S T n 0) true)) := by
    intro u p s h1 h2 h3 h4 h5
    have z := zl_termC ha hn f g u p s h1 h2 h3 h4 h5
    have e : f_X4_readTerm_L5 u q 5 = gl_T (fun u => f_X4_readFactor_L5 u q 5) q 241 (f_X4_readFactor_L5 u q 5).1 0 (f_X4_readFactor_L5 u q 5).2 := by
      unfold f_X4_readTerm_L5
      simp only [fz_lr, fz_lc]
      rw [show Int.toNat (240 - 0) + 1 = 241 from rfl, zl_tm_L5]
    show zl_R q la sg vl s u _ (f_X4_readTerm_L5 u q 5)
    rw [e]
    exact z
  intro u p s h1 h2 h3 h4 h5
  have z := zl_sumC ha hn t g u p s h1 h2 h3 h4 h5
  have e : f_X4_readSum_L5 u q 5 = gl_S (fun u => f_X4_readTerm_L5 u q 5) q 241 (f_X4_readTerm_L5 u q 5).1 0 (f_X4_readTerm_L5 u q 5).2 := by
    unfold f_X4_readSum_L5
    simp only [fz_lr, fz_lc]
    rw [show Int.toNat (240 - 0) + 1 = 241 from rfl, zl_sm_L5]
  show zl_R q la sg vl s u _ (f_X4_readSum_L5 u q 5)
  rw [e]
  exact z
theorem zl_tm_L4 (x : Int) : ∀ (m : Nat) (r k : Int) (w : fx_U), kL_X4_readTerm_L4_8 q x m r k w = gl_T (fun u => f_X4_readFactor_L4 u q x) q m r k w := by
  intro m
  induction m with
  | zero => intro r k w; rfl
  | succ m ih =>
    intro r k w
    have e : kL_X4_readTerm_L4_8 q x m = gl_T (fun u => f_X4_readFactor_L4 u q x) q m := by
      funext r k w
      exact ih r k w
    have eK : kL_X4_readTerm_L4_8 q x (m + 1) r k w = kB_X4_readTerm_L4_8 (kL_X4_readTerm_L4_8 q x m) q x r k w := rfl
    rw [eK, e]
    rfl
theorem zl_sm_L4 (x : Int) : ∀ (m : Nat) (r k : Int) (w : fx_U), kL_X4_readSum_L4_8 q x m r k w = gl_S (fun u => f_X4_readTerm_L4 u q x) q m r k w := by
  intro m
  induction m with
  | zero => intro r k w; rfl
  | succ m ih =>
    intro r k w
    have e : kL_X4_readSum_L4_8 q x m = gl_S (fun u => f_X4_readTerm_L4 u q x) q m := by
      funext r k w
      exact ih r k w
    have eK : kL_X4_readSum_L4_8 q x (m + 1) r k w = kB_X4_readSum_L4_8 (kL_X4_readSum_L4_8 q x m) q x r k w := rfl
    rw [eK, e]
    rfl
theorem zl_fc_L4 (u : fx_U) : f_X4_readFactor_L4 u q 4 = gl_F (fun u => f_X4_readSum_L5 u q (4 + 1)) q 4 u := by
  unfold f_X4_readFactor_L4 gl_F
  simp only [fz_lt]
theorem zl_Sc_L4 (ha : zl_ap q la sg vl ta) (hn : n ≤ 240) : zl_ok T q la sg vl ta n (fun u => f_X4_readSum_L4 u q 4) (zl_S T n 2) := by
  have f : zl_ok T q la sg vl ta n (fun u => f_X4_readFactor_L4 u q 4) (zl_fac T n (zl_S T n 1) true) := by
    intro u p s h1 h2 h3 h4 h5
    have z := zl_facC (k := 4) (room := true) (S := fun u => f_X4_readSum_L5 u q (4 + 1)) (gS := (zl_S T n 1)) ha hn (by decide) (fun r => by rw [show (4 : Int) + 1 = 5 from rfl]; exact zl_Sc_L5 ha hn) (fun r => zl_S_g 1) u p s h1 h2 h3 h4 h5
    rw [← zl_fc_L4] at z
    exact z
  have g := zl_fac_g (T := T) (n := n) (F := (zl_S T n 1)) (room := true) (fun r => zl_S_g 1)
  have t : zl_ok T q la sg vl ta n (fun u => f_X4_readTerm_L4 u q 4) (zl_term T n (zl_fac T n (zl_S T n 1) true)) := by
    intro u p s h1 h2 h3 h4 h5
    have z := zl_termC ha hn f g u p s h1 h2 h3 h4 h5
    have e : f_X4_readTerm_L4 u q 4 = gl_T (fun u => f_X4_readFactor_L4 u q 4) q 241 (f_X4_readFactor_L4 u q 4).1 0 (f_X4_readFactor_L4 u q 4).2 := by
      unfold f_X4_readTerm_L4
      simp only [fz_lr, fz_lc]
      rw [show Int.toNat (240 - 0) + 1 = 241 from rfl, zl_tm_L4]
    show zl_R q la sg vl s u _ (f_X4_readTerm_L4 u q 4)
    rw [e]
    exact z
  intro u p s h1 h2 h3 h4 h5
  have z := zl_sumC ha hn t g u p s h1 h2 h3 h4 h5
  have e : f_X4_readSum_L4 u q 4 = gl_S (fun u => f_X4_readTerm_L4 u q 4) q 241 (f_X4_readTerm_L4 u q 4).1 0 (f_X4_readTerm_L4 u q 4).2 := by
    unfold f_X4_readSum_L4
    simp only [fz_lr, fz_lc]
    rw [show Int.toNat (240 - 0) + 1 = 241 from rfl, zl_sm_L4]
  show zl_R q la sg vl s u _ (f_X4_readSum_L4 u q 4)
  rw [e]
  exact z
theorem zl_tm_L3 (x : Int) : ∀ (m : Nat) (r k : Int) (w : fx_U), kL_X4_readTerm_L3_8 q x m r k w = gl_T (fun u => f_X4_readFactor_L3 u q x) q m r k w := by
  intro m
  induction m with
  | zero => intro r k w; rfl
  | succ m ih =>
    intro r k w
    have e : kL_X4_readTerm_L3_8 q x m = gl_T (fun u => f_X4_readFactor_L3 u q x) q m := by
      funext r k w
      exact ih r k w
    have eK : kL_X4_readTerm_L3_8 q x (m + 1) r k w = kB_X4_readTerm_L3_8 (kL_X4_readTerm_L3_8 q x m) q x r k w := rfl
    rw [eK, e]
    rfl
theorem zl_sm_L3 (x : Int) : ∀ (m : Nat) (r k : Int) (w : fx_U), kL_X4_readSum_L3_8 q x m r k w = gl_S (fun u => f_X4_readTerm_L3 u q x) q m r k w := by
  intro m
  induction m with
  | zero => intro r k w; rfl
  | succ m ih =>
    intro r k w
    have e : kL_X4_readSum_L3_8 q x m = gl_S (fun u => f_X4_readTerm_L3 u q x) q m := by
      funext r k w
      exact ih r k w
    have eK : kL_X4_readSum_L3_8 q x (m + 1) r k w = kB_X4_readSum_L3_8 (kL_X4_readSum_L3_8 q x m) q x r k w := rfl
    rw [eK, e]
    rfl
theorem zl_fc_L3 (u : fx_U) : f_X4_readFactor_L3 u q 3 = gl_F (fun u => f_X4_readSum_L4 u q (3 + 1)) q 3 u := by
  unfold f_X4_readFactor_L3 gl_F
  simp only [fz_lt]
theorem zl_Sc_L3 (ha : zl_ap q la sg vl ta) (hn : n ≤ 240) : zl_ok T q la sg vl ta n (fun u => f_X4_readSum_L3 u q 3) (zl_S T n 3) := by
  have f : zl_ok T q la sg vl ta n (fun u => f_X4_readFactor_L3 u q 3) (zl_fac T n (zl_S T n 2) true) := by
    intro u p s h1 h2 h3 h4 h5
    have z := zl_facC (k := 3) (room := true) (S := fun u => f_X4_readSum_L4 u q (3 + 1)) (gS := (zl_S T n 2)) ha hn (by decide) (fun r => by rw [show (3 : Int) + 1 = 4 from rfl]; exact zl_Sc_L4 ha hn) (fun r => zl_S_g 2) u p s h1 h2 h3 h4 h5
    rw [← zl_fc_L3] at z
    exact z
  have g := zl_fac_g (T := T) (n := n) (F := (zl_S T n 2)) (room := true) (fun r => zl_S_g 2)
  have t : zl_ok T q la sg vl ta n (fun u => f_X4_readTerm_L3 u q 3) (zl_term T n (zl_fac T n (zl_S T n 2) true)) := by
    intro u p s h1 h2 h3 h4 h5
    have z := zl_termC ha hn f g u p s h1 h2 h3 h4 h5
    have e : f_X4_readTerm_L3 u q 3 = gl_T (fun u => f_X4_readFactor_L3 u q 3) q 241 (f_X4_readFactor_L3 u q 3).1 0 (f_X4_readFactor_L3 u q 3).2 := by
      unfold f_X4_readTerm_L3
      simp only [fz_lr, fz_lc]
      rw [show Int.toNat (240 - 0) + 1 = 241 from rfl, zl_tm_L3]
    show zl_R q la sg vl s u _ (f_X4_readTerm_L3 u q 3)
    rw [e]
    exact z
  intro u p s h1 h2 h3 h4 h5
  have z := zl_sumC ha hn t g u p s h1 h2 h3 h4 h5
  have e : f_X4_readSum_L3 u q 3 = gl_S (fun u => f_X4_readTerm_L3 u q 3) q 241 (f_X4_readTerm_L3 u q 3).1 0 (f_X4_readTerm_L3 u q 3).2 := by
    unfold f_X4_readSum_L3
    simp only [fz_lr, fz_lc]
    rw [show Int.toNat (240 - 0) + 1 = 241 from rfl, zl_sm_L3]
  show zl_R q la sg vl s u _ (f_X4_readSum_L3 u q 3)
  rw [e]
  exact z
theorem zl_tm_L2 (x : Int) : ∀ (m : Nat) (r k : Int) (w : fx_U), kL_X4_readTerm_L2_8 q x m r k w = gl_T (fun u => f_X4_readFactor_L2 u q x) q m r k w := by
  intro m
  induction m with
  | zero => intro r k w; rfl
  | succ m ih =>
    intro r k w
    have e : kL_X4_readTerm_L2_8 q x m = gl_T (fun u => f_X4_readFactor_L2 u q x) q m := by
      funext r k w
      exact ih r k w
    have eK : kL_X4_readTerm_L2_8 q x (m + 1) r k w = kB_X4_readTerm_L2_8 (kL_X4_readTerm_L2_8 q x m) q x r k w := rfl
    rw [eK, e]
    rfl
theorem zl_sm_L2 (x : Int) : ∀ (m : Nat) (r k : Int) (w : fx_U), kL_X4_readSum_L2_8 q x m r k w = gl_S (fun u => f_X4_readTerm_L2 u q x) q m r k w := by
  intro m
  induction m with
  | zero => intro r k w; rfl
  | succ m ih =>
    intro r k w
    have e : kL_X4_readSum_L2_8 q x m = gl_S (fun u => f_X4_readTerm_L2 u q x) q m := by
      funext r k w
      exact ih r k w
    have eK : kL_X4_readSum_L2_8 q x (m + 1) r k w = kB_X4_readSum_L2_8 (kL_X4_readSum_L2_8 q x m) q x r k w := rfl
    rw [eK, e]
    rfl
theorem zl_fc_L2 (u : fx_U) : f_X4_readFactor_L2 u q 2 = gl_F (fun u => f_X4_readSum_L3 u q (2 + 1)) q 2 u := by
  unfold f_X4_readFactor_L2 gl_F
  simp only [fz_lt]
theorem zl_Sc_L2 (ha : zl_ap q la sg vl ta) (hn : n ≤ 240) : zl_ok T q la sg vl ta n (fun u => f_X4_readSum_L2 u q 2) (zl_S T n 4) := by
  have f : zl_ok T q la sg vl ta n (fun u => f_X4_readFactor_L2 u q 2) (zl_fac T n (zl_S T n 3) true) := by
    intro u p s h1 h2 h3 h4 h5
    have z := zl_facC (k := 2) (room := true) (S := fun u => f_X4_readSum_L3 u q (2 + 1)) (gS := (zl_S T n 3)) ha hn (by decide) (fun r => by rw [show (2 : Int) + 1 = 3 from rfl]; exact zl_Sc_L3 ha hn) (fun r => zl_S_g 3) u p s h1 h2 h3 h4 h5
    rw [← zl_fc_L2] at z
    exact z
  have g := zl_fac_g (T := T) (n := n) (F := (zl_S T n 3)) (room := true) (fun r => zl_S_g 3)
  have t : zl_ok T q la sg vl ta n (fun u => f_X4_readTerm_L2 u q 2) (zl_term T n (zl_fac T n (zl_S T n 3) true)) := by
    intro u p s h1 h2 h3 h4 h5
    have z := zl_termC ha hn f g u p s h1 h2 h3 h4 h5
    have e : f_X4_readTerm_L2 u q 2 = gl_T (fun u => f_X4_readFactor_L2 u q 2) q 241 (f_X4_readFactor_L2 u q 2).1 0 (f_X4_readFactor_L2 u q 2).2 := by
      unfold f_X4_readTerm_L2
      simp only [fz_lr, fz_lc]
      rw [show Int.toNat (240 - 0) + 1 = 241 from rfl, zl_tm_L2]
    show zl_R q la sg vl s u _ (f_X4_readTerm_L2 u q 2)
    rw [e]
    exact z
  intro u p s h1 h2 h3 h4 h5
  have z := zl_sumC ha hn t g u p s h1 h2 h3 h4 h5
  have e : f_X4_readSum_L2 u q 2 = gl_S (fun u => f_X4_readTerm_L2 u q 2) q 241 (f_X4_readTerm_L2 u q 2).1 0 (f_X4_readTerm_L2 u q 2).2 := by
    unfold f_X4_readSum_L2
    simp only [fz_lr, fz_lc]
    rw [show Int.toNat (240 - 0) + 1 = 241 from rfl, zl_sm_L2]
  show zl_R q la sg vl s u _ (f_X4_readSum_L2 u q 2)
  rw [e]
  exact z
theorem zl_tm_L1 (x : Int) : ∀ (m : Nat) (r k : Int) (w : fx_U), kL_X4_readTerm_L1_8 q x m r k w = gl_T (fun u => f_X4_readFactor_L1 u q x) q m r k w := by
  intro m
  induction m with
  | zero => intro r k w; rfl
  | succ m ih =>
    intro r k w
    have e : kL_X4_readTerm_L1_8 q x m = gl_T (fun u => f_X4_readFactor_L1 u q x) q m := by
      funext r k w
      exact ih r k w
    have eK : kL_X4_readTerm_L1_8 q x (m + 1) r k w = kB_X4_readTerm_L1_8 (kL_X4_readTerm_L1_8 q x m) q x r k w := rfl
    rw [eK, e]
    rfl
theorem zl_sm_L1 (x : Int) : ∀ (m : Nat) (r k : Int) (w : fx_U), kL_X4_readSum_L1_8 q x m r k w = gl_S (fun u => f_X4_readTerm_L1 u q x) q m r k w := by
  intro m
  induction m with
  | zero => intro r k w; rfl
  | succ m ih =>
    intro r k w
    have e : kL_X4_readSum_L1_8 q x m = gl_S (fun u => f_X4_readTerm_L1 u q x) q m := by
      funext r k w
      exact ih r k w
    have eK : kL_X4_readSum_L1_8 q x (m + 1) r k w = kB_X4_readSum_L1_8 (kL_X4_readSum_L1_8 q x m) q x r k w := rfl
    rw [eK, e]
    rfl
theorem zl_fc_L1 (u : fx_U) : f_X4_readFactor_L1 u q 1 = gl_F (fun u => f_X4_readSum_L2 u q (1 + 1)) q 1 u := by
  unfold f_X4_readFactor_L1 gl_F
  simp only [fz_lt]
theorem zl_Sc_L1 (ha : zl_ap q la sg vl ta) (hn : n ≤ 240) : zl_ok T q la sg vl ta n (fun u => f_X4_readSum_L1 u q 1) (zl_S T n 5) := by
  have f : zl_ok T q la sg vl ta n (fun u => f_X4_readFactor_L1 u q 1) (zl_fac T n (zl_S T n 4) true) := by
    intro u p s h1 h2 h3 h4 h5
    have z := zl_facC (k := 1) (room := true) (S := fun u => f_X4_readSum_L2 u q (1 + 1)) (gS := (zl_S T n 4)) ha hn (by decide) (fun r => by rw [show (1 : Int) + 1 = 2 from rfl]; exact zl_Sc_L2 ha hn) (fun r => zl_S_g 4) u p s h1 h2 h3 h4 h5
    rw [← zl_fc_L1] at z
    exact z
  have g := zl_fac_g (T := T) (n := n) (F := (zl_S T n 4)) (room := true) (fun r => zl_S_g 4)
  have t : zl_ok T q la sg vl ta n (fun u => f_X4_readTerm_L1 u q 1) (zl_term T n (zl_fac T n (zl_S T n 4) true)) := by
    intro u p s h1 h2 h3 h4 h5
    have z := zl_termC ha hn f g u p s h1 h2 h3 h4 h5
    have e : f_X4_readTerm_L1 u q 1 = gl_T (fun u => f_X4_readFactor_L1 u q 1) q 241 (f_X4_readFactor_L1 u q 1).1 0 (f_X4_readFactor_L1 u q 1).2 := by
      unfold f_X4_readTerm_L1
      simp only [fz_lr, fz_lc]
      rw [show Int.toNat (240 - 0) + 1 = 241 from rfl, zl_tm_L1]
    show zl_R q la sg vl s u _ (f_X4_readTerm_L1 u q 1)
    rw [e]
    exact z
  intro u p s h1 h2 h3 h4 h5
  have z := zl_sumC ha hn t g u p s h1 h2 h3 h4 h5
  have e : f_X4_readSum_L1 u q 1 = gl_S (fun u => f_X4_readTerm_L1 u q 1) q 241 (f_X4_readTerm_L1 u q 1).1 0 (f_X4_readTerm_L1 u q 1).2 := by
    unfold f_X4_readSum_L1
    simp only [fz_lr, fz_lc]
    rw [show Int.toNat (240 - 0) + 1 = 241 from rfl, zl_sm_L1]
  show zl_R q la sg vl s u _ (f_X4_readSum_L1 u q 1)
  rw [e]
  exact z
theorem zl_tm_L0 (x : Int) : ∀ (m : Nat) (r k : Int) (w : fx_U), kL_X4_readTerm_L0_8 q x m r k w = gl_T (fun u => f_X4_readFactor_L0 u q x) q m r k w := by
  intro m
  induction m with
  | zero => intro r k w; rfl
  | succ m ih =>
    intro r k w
    have e : kL_X4_readTerm_L0_8 q x m = gl_T (fun u => f_X4_readFactor_L0 u q x) q m := by
      funext r k w
      exact ih r k w
    have eK : kL_X4_readTerm_L0_8 q x (m + 1) r k w = kB_X4_readTerm_L0_8 (kL_X4_readTerm_L0_8 q x m) q x r k w := rfl
    rw [eK, e]
    rfl
theorem zl_sm_L0 (x : Int) : ∀ (m : Nat) (r k : Int) (w : fx_U), kL_X4_readSum_L0_8 q x m r k w = gl_S (fun u => f_X4_readTerm_L0 u q x) q m r k w := by
  intro m
  induction m with
  | zero => intro r k w; rfl
  | succ m ih =>
    intro r k w
    have e : kL_X4_readSum_L0_8 q x m = gl_S (fun u => f_X4_readTerm_L0 u q x) q m := by
      funext r k w
      exact ih r k w
    have eK : kL_X4_readSum_L0_8 q x (m + 1) r k w = kB_X4_readSum_L0_8 (kL_X4_readSum_L0_8 q x m) q x r k w := rfl
    rw [eK, e]
    rfl
theorem zl_fc_L0 (u : fx_U) : f_X4_readFactor_L0 u q 0 = gl_F (fun u => f_X4_readSum_L1 u q (0 + 1)) q 0 u := by
  unfold f_X4_readFactor_L0 gl_F
  simp only [fz_lt]
theorem zl_Sc_L0 (ha : zl_ap q la sg vl ta) (hn : n ≤ 240) : zl_ok T q la sg vl ta n (fun u => f_X4_readSum_L0 u q 0) (zl_S T n 6) := by
  have f : zl_ok T q la sg vl ta n (fun u => f_X4_readFactor_L0 u q 0) (zl_fac T n (zl_S T n 5) true) := by
    intro u p s h1 h2 h3 h4 h5
    have z := zl_facC (k := 0) (room := true) (S := fun u => f_X4_readSum_L1 u q (0 + 1)) (gS := (zl_S T n 5)) ha hn (by decide) (fun r => by rw [show (0 : Int) + 1 = 1 from rfl]; exact zl_Sc_L1 ha hn) (fun r => zl_S_g 5) u p s h1 h2 h3 h4 h5
    rw [← zl_fc_L0] at z
    exact z
  have g := zl_fac_g (T := T) (n := n) (F := (zl_S T n 5)) (room := true) (fun r => zl_S_g 5)
  have t : zl_ok T q la sg vl ta n (fun u => f_X4_readTerm_L0 u q 0) (zl_term T n (zl_fac T n (zl_S T n 5) true)) := by
    intro u p s h1 h2 h3 h4 h5
    have z := zl_termC ha hn f g u p s h1 h2 h3 h4 h5
    have e : f_X4_readTerm_L0 u q 0 = gl_T (fun u => f_X4_readFactor_L0 u q 0) q 241 (f_X4_readFactor_L0 u q 0).1 0 (f_X4_readFactor_L0 u q 0).2 := by
      unfold f_X4_readTerm_L0
      simp only [fz_lr, fz_lc]
      rw [show Int.toNat (240 - 0) + 1 = 241 from rfl, zl_tm_L0]
    show zl_R q la sg vl s u _ (f_X4_readTerm_L0 u q 0)
    rw [e]
    exact z
  intro u p s h1 h2 h3 h4 h5
  have z := zl_sumC ha hn t g u p s h1 h2 h3 h4 h5
  have e : f_X4_readSum_L0 u q 0 = gl_S (fun u => f_X4_readTerm_L0 u q 0) q 241 (f_X4_readTerm_L0 u q 0).1 0 (f_X4_readTerm_L0 u q 0).2 := by
    unfold f_X4_readSum_L0
    simp only [fz_lr, fz_lc]
    rw [show Int.toNat (240 - 0) + 1 = 241 from rfl, zl_sm_L0]
  show zl_R q la sg vl s u _ (f_X4_readSum_L0 u q 0)
  rw [e]
  exact z
end LawLv
