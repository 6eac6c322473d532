/-! THE LAW'S TEXT in the class: parts by level -/
section LawG
variable {T : Nat → Int} {q la sg vl ta : Nat} {n s b : Int} {u : fx_U}
theorem zl_jlC (ha : zl_ap q la sg vl ta) (hn : n ≤ 240) {c : Int} (hj : c = 38 ∨ c = 124) {F : fx_U → Int × fx_U} {g : Int → zl_O} (hF : zl_ok T q la sg vl ta n F g) (hg : zl_gd n g) (hC : zl_C T q la sg vl ta n b s u) (h0 : 0 ≤ b) (hs0 : 0 ≤ s) (hs1 : s ≤ b) :
    ∀ (f : Nat) (k : Int) (o : zl_O) (r : Int) (w : fx_U), k + (f : Int) = 241 → (0 ≤ k ∧ k ≤ 240) → (o.1 = 0 → k ≤ o.2.1) → zl_g1 n b o → zl_R q la sg vl s u o (r, w) → zl_R q la sg vl s u (zl_jl T n c g f o) (gl_J c F q f r k w) := by
  intro f
  induction f with
  | zero => intro k o r w h1 h2; omega
  | succ f ih =>
    intro k o r w h1 h2 h3 ho hr
    obtain ⟨r1, r2⟩ := id hr
    unfold zl_jl gl_J
    rcases r2 with ⟨a1, a2, ⟨a3, a3b⟩, -⟩ | ⟨a1, a2, -⟩
    · have er : r = 1 := a2
      subst er
      have c1 := hC.mv ha r1 a3 a3b
      obtain ⟨p3, p4⟩ := ho.2.1 a1
      simp only [fz_lt, fz_lr, fz_ls, fz_lc, zl_peek c1 (show 0 ≤ o.2.1 by omega), if_neg zz_n10]
      by_cases t : zz_pk T n o.2.1 = c
      · have hp := zz_pk_lt (T := T) (n := n) (p := o.2.1) (by omega)
        have k3 := h3 a1
        have bo : 0 ≤ o.2.1 ∧ o.2.1 ≤ 1000 := ⟨by omega, by omega⟩
        obtain ⟨m1, -, -, -, m5⟩ := zl_go (s := s) (u := w) ha (x := o.2.1 + 1)
        have x4 : fx_pt w q 2 (o.2.1 + 1) q 4 = (la : Int) := (m1.2.2 4 (by decide) (by decide)).trans c1.1.2.2.1
        rw [if_pos ⟨a1, t⟩, if_pos (show k < 240 by omega), if_pos t, zl_one c1.2.1 bo, x4, Int.toNat_natCast]
        have z := zl_jpC ha hn hF hg hj hC h0 hs0 hs1 ho a1 hr t
        have zg := zl_jp_g (T := T) hg h0 ho a1 (by omega)
        exact ih (k + 1) _ _ _ (by omega) ⟨by omega, by omega⟩ (fun _ => by have := zg.2; omega) zg.1 z
      · rw [if_neg (fun z => t z.2), if_neg t]
        by_cases kk : k < 240
        · rw [if_pos kk]
          exact hr
        · rw [if_neg kk]
          exact hr
    · have er : r = 0 := a2
      subst er
      rw [if_neg (fun z => a1 z.1)]
      by_cases kk : k < 240
      · simp only [if_pos kk, if_true]
        exact hr
      · rw [if_neg kk]
        exact hr
theorem zl_jC (ha : zl_ap q la sg vl ta) (hn : n ≤ 240) {c : Int} (hj : c = 38 ∨ c = 124) {F : fx_U → Int × fx_U} {g : Int → zl_O} (hF : zl_ok T q la sg vl ta n F g) (hg : zl_gd n g) : zl_ok T q la sg vl ta n (fun u => gl_J c F q 241 (F u).1 0 (F u).2) (fun p => zl_jl T n c g 241 (g p)) := fun u p s hC h0 h1 hs0 hs1 => zl_jlC ha hn hj hF hg hC h0 hs0 hs1 241 0 (g p) (F u).1 (F u).2 (by decide) (by decide) (fun _ => by have := (hg p h0 h1).1; omega) (hg p h0 h1) (hF u p s hC h0 h1 hs0 hs1)
end LawG
section LawLw
variable {T : Nat → Int} {q la sg vl ta : Nat} {n : Int}
theorem zl_kPart_L6 (x : Int) : ∀ (m : Nat) (r k : Int) (w : fx_U), kL_X4_readPart_L6_8 q x m r k w = gl_J 38 (fun u => f_X4_readPiece_L6 u q x) q m r k w := by
  intro m
  induction m with
  | zero => intro r k w; rfl
  | succ m ih =>
    intro r k w
    have e : kL_X4_readPart_L6_8 q x m = gl_J 38 (fun u => f_X4_readPiece_L6 u q x) q m := by
      funext r k w
      exact ih r k w
    have eK : kL_X4_readPart_L6_8 q x (m + 1) r k w = kB_X4_readPart_L6_8 (kL_X4_readPart_L6_8 q x m) q x r k w := rfl
    rw [eK, e]
    rfl
theorem zl_kParts_L6 (x : Int) : ∀ (m : Nat) (r k : Int) (w : fx_U), kL_X4_readParts_L6_8 q x m r k w = gl_J 124 (fun u => f_X4_readPart_L6 u q x) q m r k w := by
  intro m
  induction m with
  | zero => intro r k w; rfl
  | succ m ih =>
    intro r k w
    have e : kL_X4_readParts_L6_8 q x m = gl_J 124 (fun u => f_X4_readPart_L6 u q x) q m := by
      funext r k w
      exact ih r k w
    have eK : kL_X4_readParts_L6_8 q x (m + 1) r k w = kB_X4_readParts_L6_8 (kL_X4_readParts_L6_8 q x m) q x r k w := rfl
    rw [eK, e]
    rfl
theorem zl_pf_L6 (u : fx_U) : f_X4_readPiece_L6 u q 6 = gl_P (fun _ => ((0 : Int), fun _ _ => (0 : Int))) (fun _ => ((0 : Int), fun _ _ => (0 : Int))) (fun u => f_X4_readSum_L6 u q 6) q 6 u := by
  unfold f_X4_readPiece_L6 gl_P kJ_X4_readPiece_L6_123 gl_C
  simp only [fz_lt, fz_lc, if_true]
theorem zl_Pc_L6 (ha : zl_ap q la sg vl ta) (hn : n ≤ 240) : zl_ok T q la sg vl ta n (fun u => f_X4_readPiece_L6 u q 6) (zl_P T n 0) := by
  intro u p s h1 h2 h3 h4 h5
  have z := zl_pcC (k := 6) (room := false) (P := fun _ => ((0 : Int), fun _ _ => (0 : Int))) (Q := fun _ => ((0 : Int), fun _ _ => (0 : Int))) (S := fun u => f_X4_readSum_L6 u q 6) (gP := (fun p => (5, p, []))) (gQ := (fun p => (5, p, []))) (gS := zl_S T n 0) ha hn (by decide) (fun r => absurd r (by decide)) (fun r => absurd r (by decide)) (zl_Sc_L6 ha hn) (fun r => absurd r (by decide)) (fun r => absurd r (by decide)) (zl_S_g 0) u p s h1 h2 h3 h4 h5
  rw [← zl_pf_L6] at z
  exact z
theorem zl_Tc_L6 (ha : zl_ap q la sg vl ta) (hn : n ≤ 240) : zl_ok T q la sg vl ta n (fun u => f_X4_readPart_L6 u q 6) (zl_part T n (zl_P T n 0)) := by
  intro u p s h1 h2 h3 h4 h5
  have z := zl_jC (c := 38) ha hn (by decide) (zl_Pc_L6 ha hn) (zl_P_g 0) u p s h1 h2 h3 h4 h5
  have e : f_X4_readPart_L6 u q 6 = gl_J 38 (fun u => f_X4_readPiece_L6 u q 6) q 241 (f_X4_readPiece_L6 u q 6).1 0 (f_X4_readPiece_L6 u q 6).2 := by
    unfold f_X4_readPart_L6
    simp only [fz_lr, fz_lc]
    rw [show Int.toNat (240 - 0) + 1 = 241 from rfl, zl_kPart_L6]
  show zl_R q la sg vl s u _ (f_X4_readPart_L6 u q 6)
  rw [e]
  exact z
theorem zl_Qc_L6 (ha : zl_ap q la sg vl ta) (hn : n ≤ 240) : zl_ok T q la sg vl ta n (fun u => f_X4_readParts_L6 u q 6) (zl_parts T n (zl_P T n 0)) := by
  intro u p s h1 h2 h3 h4 h5
  have z := zl_jC (c := 124) ha hn (by decide) (zl_Tc_L6 ha hn) (zl_part_g (zl_P_g 0)) u p s h1 h2 h3 h4 h5
  have e : f_X4_readParts_L6 u q 6 = gl_J 124 (fun u => f_X4_readPart_L6 u q 6) q 241 (f_X4_readPart_L6 u q 6).1 0 (f_X4_readPart_L6 u q 6).2 := by
    unfold f_X4_readParts_L6
    simp only [fz_lr, fz_lc]
    rw [show Int.toNat (240 - 0) + 1 = 241 from rfl, zl_kParts_L6]
  show zl_R q la sg vl s u _ (f_X4_readParts_L6 u q 6)
  rw [e]
  exact z
theorem zl_kPart_L5 (x : Int) : ∀ (m : Nat) (r k : Int) (w : fx_U), kL_X4_readPart_L5_8 q x m r k w = gl_J 38 (fun u => f_X4_readPiece_L5 u q x) q m r k w := by
  intro m
  induction m with
  | zero => intro r k w; rfl
  | succ m ih =>
    intro r k w
    have e : kL_X4_readPart_L5_8 q x m = gl_J 38 (fun u => f_X4_readPiece_L5 u q x) q m := by
      funext r k w
      exact ih r k w
    have eK : kL_X4_readPart_L5_8 q x (m + 1) r k w = kB_X4_readPart_L5_8 (kL_X4_readPart_L5_8 q x m) q x r k w := rfl
    rw [eK, e]
    rfl
theorem zl_kParts_L5 (x : Int) : ∀ (m : Nat) (r k : Int) (w : fx_U), kL_X4_readParts_L5_8 q x m r k w = gl_J 124 (fun u => f_X4_readPart_L5 u q x) q m r k w := by
  intro m
  induction m with
  | zero => intro r k w; rfl
  | succ m ih =>
    intro r k w
    have e : kL_X4_readParts_L5_8 q x m = gl_J 124 (fun u => f_X4_readPart_L5 u q x) q m := by
      funext r k w
      exact ih r k w
    have eK : kL_X4_readParts_L5_8 q x (m + 1) r k w = kB_X4_readParts_L5_8 (kL_X4_readParts_L5_8 q x m) q x r k w := rfl
    rw [eK, e]
    rfl
theorem zl_pf_L5 (u : fx_U) : f_X4_readPiece_L5 u q 5 = gl_P (fun u => f_X4_readPiece_L6 u q (5 + 1)) (fun u => f_X4_readParts_L6 u q (5 + 1)) (fun u => f_X4_readSum_L5 u q 5) q 5 u := by
  unfold f_X4_readPiece_L5 gl_P kJ_X4_readPiece_L5_123 gl_C
  simp only [fz_lt]
theorem zl_Pc_L5 (ha : zl_ap q la sg vl ta) (hn : n ≤ 240) : zl_ok T q la sg vl ta n (fun u => f_X4_readPiece_L5 u q 5) (zl_P T n 1) := by
  intro u p s h1 h2 h3 h4 h5
  have z := zl_pcC (k := 5) (room := true) (P := fun u => f_X4_readPiece_L6 u q (5 + 1)) (Q := fun u => f_X4_readParts_L6 u q (5 + 1)) (S := fun u => f_X4_readSum_L5 u q 5) (gP := (zl_P T n 0)) (gQ := (zl_parts T n (zl_P T n 0))) (gS := zl_S T n 1) ha hn (by decide) (fun r => by rw [show (5 : Int) + 1 = 6 from rfl]; exact zl_Pc_L6 ha hn) (fun r => by rw [show (5 : Int) + 1 = 6 from rfl]; exact zl_Qc_L6 ha hn) (zl_Sc_L5 ha hn) (fun r => zl_P_g 0) (fun r => zl_parts_g (zl_P_g 0)) (zl_S_g 1) u p s h1 h2 h3 h4 h5
  rw [← zl_pf_L5] at z
  exact z
theorem zl_Tc_L5 (ha : zl_ap q la sg vl ta) (hn : n ≤ 240) : zl_ok T q la sg vl ta n (fun u => f_X4_readPart_L5 u q 5) (zl_part T n (zl_P T n 1)) := by
  intro u p s h1 h2 h3 h4 h5
  have z := zl_jC (c := 38) ha hn (by decide) (zl_Pc_L5 ha hn) (zl_P_g 1) u p s h1 h2 h3 h4 h5
  have e : f_X4_readPart_L5 u q 5 = gl_J 38 (fun u => f_X4_readPiece_L5 u q 5) q 241 (f_X4_readPiece_L5 u q 5).1 0 (f_X4_readPiece_L5 u q 5).2 := by
    unfold f_X4_readPart_L5
    simp only [fz_lr, fz_lc]
    rw [show Int.toNat (240 - 0) + 1 = 241 from rfl, zl_kPart_L5]
  show zl_R q la sg vl s u _ (f_X4_readPart_L5 u q 5)
  rw [e]
  exact z
theorem zl_Qc_L5 (ha : zl_ap q la sg vl ta) (hn : n ≤ 240) : zl_ok T q la sg vl ta n (fun u => f_X4_readParts_L5 u q 5) (zl_parts T n (zl_P T n 1)) := by
  intro u p s h1 h2 h3 h4 h5
  have z := zl_jC (c := 124) ha hn (by decide) (zl_Tc_L5 ha hn) (zl_part_g (zl_P_g 1)) u p s h1 h2 h3 h4 h5
  have e : f_X4_readParts_L5 u q 5 = gl_J 124 (fun u => f_X4_readPart_L5 u q 5) q 241 (f_X4_readPart_L5 u q 5).1 0 (f_X4_readPart_L5 u q 5).2 := by
    unfold f_X4_readParts_L5
    simp only [fz_lr, fz_lc]
    rw [show Int.toNat (240 - 0) + 1 = 241 from rfl, zl_kParts_L5]
  show zl_R q la sg vl s u _ (f_X4_readParts_L5 u q 5)
  rw [e]
  exact z
theorem zl_kPart_L4 (x : Int) : ∀ (m : Nat) (r k : Int) (w : fx_U), kL_X4_readPart_L4_8 q x m r k w = gl_J 38 (fun u => f_X4_readPiece_L4 u q x) q m r k w := by
  intro m
  induction m with
  | zero => intro r k w; rfl
  | succ m ih =>
    intro r k w
    have e : kL_X4_readPart_L4_8 q x m = gl_J 38 (fun u => f_X4_readPiece_L4 u q x) q m := by
      funext r k w
      exact ih r k w
    have eK : kL_X4_readPart_L4_8 q x (m + 1) r k w = kB_X4_readPart_L4_8 (kL_X4_readPart_L4_8 q x m) q x r k w := rfl
    rw [eK, e]
    rfl
theorem zl_kParts_L4 (x : Int) : ∀ (m : Nat) (r k : Int) (w : fx_U), kL_X4_readParts_L4_8 q x m r k w = gl_J 124 (fun u => f_X4_readPart_L4 u q x) q m r k w := by
  intro m
  induction m with
  | zero => intro r k w; rfl
  | succ m ih =>
    intro r k w
    have e : kL_X4_readParts_L4_8 q x m = gl_J 124 (fun u => f_X4_readPart_L4 u q x) q m := by
      funext r k w
      exact ih r k w
    have eK : kL_X4_readParts_L4_8 q x (m + 1) r k w = kB_X4_readParts_L4_8 (kL_X4_readParts_L4_8 q x m) q x r k w := rfl
    rw [eK, e]
    rfl
theorem zl_pf_L4 (u : fx_U) : f_X4_readPiece_L4 u q 4 = gl_P (fun u => f_X4_readPiece_L5 u q (4 + 1)) (fun u => f_X4_readParts_L5 u q (4 + 1)) (fun u => f_X4_readSum_L4 u q 4) q 4 u := by
  unfold f_X4_readPiece_L4 gl_P kJ_X4_readPiece_L4_123 gl_C
  simp only [fz_lt]
theorem zl_Pc_L4 (ha : zl_ap q la sg vl ta) (hn : n ≤ 240) : zl_ok T q la sg vl ta n (fun u => f_X4_readPiece_L4 u q 4) (zl_P T n 2) := by
  intro u p s h1 h2 h3 h4 h5
  have z := zl_pcC (k := 4) (room := true) (P := fun u => f_X4_readPiece_L5 u q (4 + 1)) (Q := fun u => f_X4_readParts_L5 u q (4 + 1)) (S := fun u => f_X4_readSum_L4 u q 4) (gP := (zl_P T n 1)) (gQ := (zl_parts T n (zl_P T n 1))) (gS := zl_S T n 2) ha hn (by decide) (fun r => by rw [show (4 : Int) + 1 = 5 from rfl]; exact zl_Pc_L5 ha hn) (fun r => by rw [show (4 : Int) + 1 = 5 from rfl]; exact zl_Qc_L5 ha hn) (zl_Sc_L4 ha hn) (fun r => zl_P_g 1) (fun r => zl_parts_g (zl_P_g 1)) (zl_S_g 2) u p s h1 h2 h3 h4 h5
  rw [← zl_pf_L4] at z
  exact z
theorem zl_Tc_L4 (ha : zl_ap q la sg vl ta) (hn : n ≤ 240) : zl_ok T q la sg vl ta n (fun u => f_X4_readPart_L4 u q 4) (zl_part T n (zl_P T n 2)) := by
  intro u p s h1 h2 h3 h4 h5
  have z := zl_jC (c := 38) ha hn (by decide) (zl_Pc_L4 ha hn) (zl_P_g 2) u p s h1 h2 h3 h4 h5
  have e : f_X4_readPart_L4 u q 4 = gl_J 38 (fun u => f_X4_readPiece_L4 u q 4) q 241 (f_X4_readPiece_L4 u q 4).1 0 (f_X4_readPiece_L4 u q 4).2 := by
    unfold f_X4_readPart_L4
    simp only [fz_lr, fz_lc]
    rw [show Int.toNat (240 - 0) + 1 = 241 from rfl, zl_kPart_L4]
  show zl_R q la sg vl s u _ (f_X4_readPart_L4 u q 4)
  rw [e]
  exact z
theorem zl_Qc_L4 (ha : zl_ap q la sg vl ta) (hn : n ≤ 240) : zl_ok T q la sg vl ta n (fun u => f_X4_readParts_L4 u q 4) (zl_parts T n (zl_P T n 2)) := by
  intro u p s h1 h2 h3 h4 h5
  have z := zl_jC (c := 124) ha hn (by decide) (zl_Tc_L4 ha hn) (zl_part_g (zl_P_g 2)) u p s h1 h2 h3 h4 h5
  have e : f_X4_readParts_L4 u q 4 = gl_J 124 (fun u => f_X4_readPart_L4 u q 4) q 241 (f_X4_readPart_L4 u q 4).1 0 (f_X4_readPart_L4 u q 4).2 := by
    unfold f_X4_readParts_L4
    simp only [fz_lr, fz_lc]
    rw [show Int.toNat (240 - 0) + 1 = 241 from rfl, zl_kParts_L4]
  show zl_R q la sg vl s u _ (f_X4_readParts_L4 u q 4)
  rw [e]
  exact z
theorem zl_kPart_L3 (x : Int) : ∀ (m : Nat) (r k : Int) (w : fx_U), kL_X4_readPart_L3_8 q x m r k w = gl_J 38 (fun u => f_X4_readPiece_L3 u q x) q m r k w := by
  intro m
  induction m with
  | zero => intro r k w; rfl
  | succ m ih =>
    intro r k w
    have e : kL_X4_readPart_L3_8 q x m = gl_J 38 (fun u => f_X4_readPiece_L3 u q x) q m := by
      funext r k w
      exact ih r k w
    have eK : kL_X4_readPart_L3_8 q x (m + 1) r k w = kB_X4_readPart_L3_8 (kL_X4_readPart_L3_8 q x m) q x r k w := rfl
    rw [eK, e]
    rfl
theorem zl_kParts_L3 (x : Int) : ∀ (m : Nat) (r k : Int) (w : fx_U), kL_X4_readParts_L3_8 q x m r k w = gl_J 124 (fun u => f_X4_readPart_L3 u q x) q m r k w := by
  intro m
  induction m with
  | zero => intro r k w; rfl
  | succ m ih =>
    intro r k w
    have e : kL_X4_readParts_L3_8 q x m = gl_J 124 (fun u => f_X4_readPart_L3 u q x) q m := by
      funext r k w
      exact ih r k w
    have eK : kL_X4_readParts_L3_8 q x (m + 1) r k w = kB_X4_readParts_L3_8 (kL_X4_readParts_L3_8 q x m) q x r k w := rfl
    rw [eK, e]
    rfl
theorem zl_pf_L3 (u : fx_U) : f_X4_readPiece_L3 u q 3 = gl_P (fun u => f_X4_readPiece_L4 u q (3 + 1)) (fun u => f_X4_readParts_L4 u q (3 + 1)) (fun u => f_X4_readSum_L3 u q 3) q 3 u := by
  unfold f_X4_readPiece_L3 gl_P kJ_X4_readPiece_L3_123 gl_C
  simp only [fz_lt]
theorem zl_Pc_L3 (ha : zl_ap q la sg vl ta) (hn : n ≤ 240) : zl_ok T q la sg vl ta n (fun u => f_X4_readPiece_L3 u q 3) (zl_P T n 3) := by
  intro u p s h1 h2 h3 h4 h5
  have z := zl_pcC (k := 3) (room := true) (P := fun u => f_X4_readPiece_L4 u q (3 + 1)) (Q := fun u => f_X4_readParts_L4 u q (3 + 1)) (S := fun u => f_X4_readSum_L3 u q 3) (gP := (zl_P T n 2)) (gQ := (zl_parts T n (zl_P T n 2))) (gS := zl_S T n 3) ha hn (by decide) (fun r => by rw [show (3 : Int) + 1 = 4 from rfl]; exact zl_Pc_L4 ha hn) (fun r => by rw [show (3 : Int) + 1 = 4 from rfl]; exact zl_Qc_L4 ha hn) (zl_Sc_L3 ha hn) (fun r => zl_P_g 2) (fun r => zl_parts_g (zl_P_g 2)) (zl_S_g 3) u p s h1 h2 h3 h4 h5
  rw [← zl_pf_L3] at z
  exact z
theorem zl_Tc_L3 (ha : zl_ap q la sg vl ta) (hn : n ≤ 240) : zl_ok T q la sg vl ta n (fun u => f_X4_readPart_L3 u q 3) (zl_part T n (zl_P T n 3)) := by
  intro u p s h1 h2 h3 h4 h5
  have z := zl_jC (c := 38) ha hn (by decide) (zl_Pc_L3 ha hn) (zl_P_g 3) u p s h1 h2 h3 h4 h5
  have e : f_X4_readPart_L3 u q 3 = gl_J 38 (fun u => f_X4_readPiece_L3 u q 3) q 241 (f_X4_readPiece_L3 u q 3).1 0 (f_X4_readPiece_L3 u q 3).2 := by
    unfold f_X4_readPart_L3
    simp only [fz_lr, fz_lc]
    rw [show Int.toNat (240 - 0) + 1 = 241 from rfl, zl_kPart_L3]
  show zl_R q la sg vl s u _ (f_X4_readPart_L3 u q 3)
  rw [e]
  exact z
theorem zl_Qc_L3 (ha : zl_ap q la sg vl ta) (hn : n ≤ 240) : zl_ok T q la sg vl ta n (fun u => f_X4_readParts_L3 u q 3) (zl_parts T n (zl_P T n 3)) := by
  intro u p s h1 h2 h3 h4 h5
  have z := zl_jC (c := 124) ha hn (by decide) (zl_Tc_L3 ha hn) (zl_part_g (zl_P_g 3)) u p s h1 h2 h3 h4 h5
  have e : f_X4_readParts_L3 u q 3 = gl_J 124 (fun u => f_X4_readPart_L3 u q 3) q 241 (f_X4_readPart_L3 u q 3).1 0 (f_X4_readPart_L3 u q 3).2 := by
    unfold f_X4_readParts_L3
    simp only [fz_lr, fz_lc]
    rw [show Int.toNat (240 - 0) + 1 = 241 from rfl, zl_kParts_L3]
  show zl_R q la sg vl s u _ (f_X4_readParts_L3 u q 3)
  rw [e]
  exact z
theorem zl_kPart_L2 (x : Int) : ∀ (m : Nat) (r k : Int) (w : fx_U), kL_X4_readPart_L2_8 q x m r k w = gl_J 38 (fun u => f_X4_readPiece_L2 u q x) q m r k w := by
  intro m
  induction m with
  | zero => intro r k w; rfl
  | succ m ih =>
    intro r k w
    have e : kL_X4_readPart_L2_8 q x m = gl_J 38 (fun u => f_X4_readPiece_L2 u q x) q m := by
      funext r k w
      exact ih r k w
    have eK : kL_X4_readPart_L2_8 q x (m + 1) r k w = kB_X4_readPart_L2_8 (kL_X4_readPart_L2_8 q x m) q x r k w := rfl
    rw [eK, e]
    rfl
theorem zl_kParts_L2 (x : Int) : ∀ (m : Nat) (r k : Int) (w : fx_U), kL_X4_readParts_L2_8 q x m r k w = gl_J 124 (fun u => f_X4_readPart_L2 u q x) q m r k w := by
  intro m
  induction m with
  | zero => intro r k w; rfl
  | succ m ih =>
    intro r k w
    have e : kL_X4_readParts_L2_8 q x m = gl_J 124 (fun u => f_X4_readPart_L2 u q x) q m := by
      funext r k w
      exact ih r k w
    have eK : kL_X4_readParts_L2_8 q x (m + 1) r k w = kB_X4_readParts_L2_8 (kL_X4_readParts_L2_8 q x m) q x r k w := rfl
    rw [eK, e]
    rfl
theorem zl_pf_L2 (u : fx_U) : f_X4_readPiece_L2 u q 2 = gl_P (fun u => f_X4_readPiece_L3 u q (2 + 1)) (fun u => f_X4_readParts_L3 u q (2 + 1)) (fun u => f_X4_readSum_L2 u q 2) q 2 u := by
  unfold f_X4_readPiece_L2 gl_P kJ_X4_readPiece_L2_123 gl_C
  simp only [fz_lt]
theorem zl_Pc_L2 (ha : zl_ap q la sg vl ta) (hn : n ≤ 240) : zl_ok T q la sg vl ta n (fun u => f_X4_readPiece_L2 u q 2) (zl_P T n 4) := by
  intro u p s h1 h2 h3 h4 h5
  have z := zl_pcC (k := 2) (room := true) (P := fun u => f_X4_readPiece_L3 u q (2 + 1)) (Q := fun u => f_X4_readParts_L3 u q (2 + 1)) (S := fun u => f_X4_readSum_L2 u q 2) (gP := (zl_P T n 3)) (gQ := (zl_parts T n (zl_P T n 3))) (gS := zl_S T n 4) ha hn (by decide) (fun r => by rw [show (2 : Int) + 1 = 3 from rfl]; exact zl_Pc_L3 ha hn) (fun r => by rw [show (2 : Int) + 1 = 3 from rfl]; exact zl_Qc_L3 ha hn) (zl_Sc_L2 ha hn) (fun r => zl_P_g 3) (fun r => zl_parts_g (zl_P_g 3)) (zl_S_g 4) u p s h1 h2 h3 h4 h5
  rw [← zl_pf_L2] at z
  exact z
theorem zl_Tc_L2 (ha : zl_ap q la sg vl ta) (hn : n ≤ 240) : zl_ok T q la sg vl ta n (fun u => f_X4_readPart_L2 u q 2) (zl_part T n (zl_P T n 4)) := by
  intro u p s h1 h2 h3 h4 h5
  have z := zl_jC (c := 38) ha hn (by decide) (zl_Pc_L2 ha hn) (zl_P_g 4) u p s h1 h2 h3 h4 h5
  have e : f_X4_readPart_L2 u q 2 = gl_J 38 (fun u => f_X4_readPiece_L2 u q 2) q 241 (f_X4_readPiece_L2 u q 2).1 0 (f_X4_readPiece_L2 u q 2).2 := by
    unfold f_X4_readPart_L2
    simp only [fz_lr, fz_lc]
    rw [show Int.toNat (240 - 0) + 1 = 241 from rfl, zl_kPart_L2]
  show zl_R q la sg vl s u _ (f_X4_readPart_L2 u q 2)
  rw [e]
  exact z
theorem zl_Qc_L2 (ha : zl_ap q la sg vl ta) (hn : n ≤ 240) : zl_ok T q la sg vl ta n (fun u => f_X4_readParts_L2 u q 2) (zl_parts T n (zl_P T n 4)) := by
  intro u p s h1 h2 h3 h4 h5
  have z := zl_jC (c := 124) ha hn (by decide) (zl_Tc_L2 ha hn) (zl_part_g (zl_P_g 4)) u p s h1 h2 h3 h4 h5
  have e : f_X4_readParts_L2 u q 2 = gl_J 124 (fun u => f_X4_readPart_L2 u q 2) q 241 (f_X4_readPart_L2 u q 2).1 0 (f_X4_readPart_L2 u q 2).2 := by
    unfold f_X4_readParts_L2
    simp only [fz_lr, fz_lc]
    rw [show Int.toNat (240 - 0) + 1 = 241 from rfl, zl_kParts_L2]
  show zl_R q la sg vl s u _ (f_X4_readParts_L2 u q 2)
  rw [e]
  exact z
theorem zl_kPart_L1 (x : Int) : ∀ (m : Nat) (r k : Int) (w : fx_U), kL_X4_readPart_L1_8 q x m r k w = gl_J 38 (fun u => f_X4_readPiece_L1 u q x) q m r k w := by
  intro m
  induction m with
  | zero => intro r k w; rfl
  | succ m ih =>
    intro r k w
    have e : kL_X4_readPart_L1_8 q x m = gl_J 38 (fun u => f_X4_readPiece_L1 u q x) q m := by
      funext r k w
      exact ih r k w
    have eK : kL_X4_readPart_L1_8 q x (m + 1) r k w = kB_X4_readPart_L1_8 (kL_X4_readPart_L1_8 q x m) q x r k w := rfl
    rw [eK, e]
    rfl
theorem zl_kParts_L1 (x : Int) : ∀ (m : Nat) (r k : Int) (w : fx_U), kL_X4_readParts_L1_8 q x m r k w = gl_J 124 (fun u => f_X4_readPart_L1 u q x) q m r k w := by
  intro m
  induction m with
  | zero => intro r k w; rfl
  | succ m ih =>
    intro r k w
    have e : kL_X4_readParts_L1_8 q x m = gl_J 124 (fun u => f_X4_readPart_L1 u q x) q m := by
      funext r k w
      exact ih r k w
    have eK : kL_X4_readParts_L1_8 q x (m + 1) r k w = kB_X4_readParts_L1_8 (kL_X4_readParts_L1_8 q x m) q x r k w := rfl
    rw [eK, e]
    rfl
theorem zl_pf_L1 (u : fx_U) : f_X4_readPiece_L1 u q 1 = gl_P (fun u => f_X4_readPiece_L2 u q (1 + 1)) (fun u => f_X4_readParts_L2 u q (1 + 1)) (fun u => f_X4_readSum_L1 u q 1) q 1 u := by
  unfold f_X4_readPiece_L1 gl_P kJ_X4_readPiece_L1_123 gl_C
  simp only [fz_lt]
theorem zl_Pc_L1 (ha : zl_ap q la sg vl ta) (hn : n ≤ 240) : zl_ok T q la sg vl ta n (fun u => f_X4_readPiece_L1 u q 1) (zl_P T n 5) := by
  intro u p s h1 h2 h3 h4 h5
  have z := zl_pcC (k := 1) (room := true) (P := fun u => f_X4_readPiece_L2 u q (1 + 1)) (Q := fun u => f_X4_readParts_L2 u q (1 + 1)) (S := fun u => f_X4_readSum_L1 u q 1) (gP := (zl_P T n 4)) (gQ := (zl_parts T n (zl_P T n 4))) (gS := zl_S T n 5) ha hn (by decide) (fun r => by rw [show (1 : Int) + 1 = 2 from rfl]; exact zl_Pc_L2 ha hn) (fun r => by rw [show (1 : Int) + 1 = 2 from rfl]; exact zl_Qc_L2 ha hn) (zl_Sc_L1 ha hn) (fun r => zl_P_g 4) (fun r => zl_parts_g (zl_P_g 4)) (zl_S_g 5) u p s h1 h2 h3 h4 h5
  rw [← zl_pf_L1] at z
  exact z
theorem zl_Tc_L1 (ha : zl_ap q la sg vl ta) (hn : n ≤ 240) : zl_ok T q la sg vl ta n (fun u => f_X4_readPart_L1 u q 1) (zl_part T n (zl_P T n 5)) := by
  intro u p s h1 h2 h3 h4 h5
  have z := zl_jC (c := 38) ha hn (by decide) (zl_Pc_L1 ha hn) (zl_P_g 5) u p s h1 h2 h3 h4 h5
  have e : f_X4_readPart_L1 u q 1 = gl_J 38 (fun u => f_X4_readPiece_L1 u q 1) q 241 (f_X4_readPiece_L1 u q 1).1 0 (f_X4_readPiece_L1 u q 1).2 := by
    unfold f_X4_readPart_L1
    simp only [fz_lr, fz_lc]
    rw [show Int.toNat (240 - 0) + 1 = 241 from rfl, zl_kPart_L1]
  show zl_R q la sg vl s u _ (f_X4_readPart_L1 u q 1)
  rw [e]
  exact z
theorem zl_Qc_L1 (ha : zl_ap q la sg vl ta) (hn : n ≤ 240) : zl_ok T q la sg vl ta n (fun u => f_X4_readParts_L1 u q 1) (zl_parts T n (zl_P T n 5)) := by
  intro u p s h1 h2 h3 h4 h5
  have z := zl_jC (c := 124) ha hn (by decide) (zl_Tc_L1 ha hn) (zl_part_g (zl_P_g 5)) u p s h1 h2 h3 h4 h5
  have e : f_X4_readParts_L1 u q 1 = gl_J 124 (fun u => f_X4_readPart_L1 u q 1) q 241 (f_X4_readPart_L1 u q 1).1 0 (f_X4_readPart_L1 u q 1).2 := by
    unfold f_X4_readParts_L1
    simp only [fz_lr, fz_lc]
    rw [show Int.toNat (240 - 0) + 1 = 241 from rfl, zl_kParts_L1]
  show zl_R q la sg vl s u _ (f_X4_readParts_L1 u q 1)
  rw [e]
  exact z
end LawLw
