/-! THE TAPE: what is fed comes to the same bytes on both sides -/
theorem zz_ps {u : fx_U} {a j : Nat} {v : Int} : fx_pt u a j v a j = v := by simp [fx_pt]
theorem zz_pa {u : fx_U} {a b i j : Nat} {v : Int} (h : b ≠ a) : fx_pt u a j v b i = u b i := by simp [fx_pt, h]
theorem zz_pj {u : fx_U} {a b i j : Nat} {v : Int} (h : i ≠ j) : fx_pt u a j v b i = u b i := by simp [fx_pt, h]
def zz_in (x : Int) : Prop := -2147483648 ≤ x ∧ x ≤ 2147483647
theorem zz_toInt (x : Int32) : zz_in x.toInt := ⟨Int32.le_toInt x, Int32.toInt_le x⟩
theorem zz_ofInt {x : Int} (h : zz_in x) : (Int32.ofInt x).toInt = x := by
  rw [Int32.toInt_ofInt]
  exact q_bm h
theorem zz_wadd {x y : Int} (hx : zz_in x) (hy : zz_in y) (h : zz_in (x + y)) : fx_b_add x y = x + y := by
  unfold fx_b_add
  rw [Int32.toInt_add, zz_ofInt hx, zz_ofInt hy]
  exact q_bm h
theorem zz_wsub {x y : Int} (hx : zz_in x) (hy : zz_in y) (h : zz_in (x - y)) : fx_b_sub x y = x - y := by
  unfold fx_b_sub
  rw [Int32.toInt_sub, zz_ofInt hx, zz_ofInt hy]
  exact q_bm h
theorem zz_wmul {x y : Int} (hx : zz_in x) (hy : zz_in y) (h : zz_in (x * y)) : fx_b_mul x y = x * y := by
  unfold fx_b_mul
  rw [Int32.toInt_mul, zz_ofInt hx, zz_ofInt hy]
  exact q_bm h
theorem zz_i2b {x : Int} (hx : zz_in x) : fx_b_i2b x = x.bmod 256 := by
  unfold fx_b_i2b
  rw [Int8.toInt_toInt32, Int32.toInt_toInt8, zz_ofInt hx]
theorem zz_bmod {x : Int} : x.bmod 256 % 256 = x % 256 ∧ -128 ≤ x.bmod 256 ∧ x.bmod 256 ≤ 127 := by
  rw [Int.bmod_def]
  split <;> omega
theorem zz_i2b2 {x : Int} (hx : zz_in x) : fx_b_i2b (fx_b_i2b x) % 256 = x % 256 := by
  have h := (zz_bmod (x := x)).2
  rw [zz_i2b hx, zz_i2b ⟨by omega, by omega⟩, (zz_bmod (x := x.bmod 256)).1, zz_bmod.1]
theorem zz_and255 (Y : Int32) : (Y &&& Int32.ofInt 255).toInt = ((Y.toBitVec.toNat % 256 : Nat) : Int) := by
  have h : (Y &&& Int32.ofInt 255).toBitVec.toNat = Y.toBitVec.toNat % 256 := by
    rw [Int32.toBitVec_and, BitVec.toNat_and]
    exact Nat.and_two_pow_sub_one_eq_mod _ 8
  show (Y &&& Int32.ofInt 255).toBitVec.toInt = _
  rw [BitVec.toInt_eq_toNat_of_lt (by omega), h]
theorem zz_nat (X : Int32) : X.toInt = if X.toBitVec.toNat < 2147483648 then (X.toBitVec.toNat : Int) else (X.toBitVec.toNat : Int) - 4294967296 := by
  show X.toBitVec.toInt = _
  rw [BitVec.toInt_eq_toNat_cond]
  split <;> split <;> omega
theorem zz_lt (X : Int32) : X.toBitVec.toNat < 4294967296 := X.toBitVec.isLt
/-- a byte of a number, by both ways of cutting it out -/
theorem zz_byte {x p : Int} (hx : zz_in x) (hp : p = 24 ∨ p = 16 ∨ p = 8 ∨ p = 0) : fx_b_and (fx_b_ushr x p) 255 = fx_b_i2b (fx_b_i2b (fx_b_shr x p)) % 256 := by
  have key : ∀ (s : Nat) (d : Int), (Int32.ofInt p &&& 31 : Int32) = Int32.ofNat s → s < 32 → (2 : Int) ^ s = d → (d = 1 ∨ d = 256 ∨ d = 65536 ∨ d = 16777216) → fx_b_and (fx_b_ushr x p) 255 = fx_b_i2b (fx_b_i2b (fx_b_shr x p)) % 256 := by
    intro s d hs h32 hd hdd
    obtain ⟨X, hX⟩ : ∃ X : Int32, X = Int32.ofInt x := ⟨_, rfl⟩
    have hxX : x = X.toInt := by rw [hX, zz_ofInt hx]
    have e1 : fx_b_shr x p = X.toInt / d := by
      unfold fx_b_shr
      rw [← hX, hs]
      show (BitVec.sshiftRight' X.toBitVec ((Int32.ofNat s).toBitVec.smod 32)).toInt = _
      have e2 : ((Int32.ofNat s).toBitVec.smod 32).toNat = s := by
        have h9 : ∀ s : Fin 32, ((Int32.ofNat s.val).toBitVec.smod 32).toNat = s.val := by decide +kernel
        exact h9 ⟨s, h32⟩
      rw [BitVec.toInt_sshiftRight', e2, Int.shiftRight_eq_div_pow, ← hd]
      rfl
    have e3 : fx_b_and (fx_b_ushr x p) 255 = (((X.toBitVec.toNat / 2 ^ s) % 256 : Nat) : Int) := by
      unfold fx_b_and fx_b_ushr
      rw [Int32.ofInt_toInt, zz_and255, ← hX]
      congr 2
      show ((X.toUInt32 >>> ((Int32.ofInt p).toUInt32 &&& Int32.toUInt32 31))).toNat = _
      have e4 : ((Int32.ofInt p).toUInt32 &&& Int32.toUInt32 31) = (Int32.ofNat s).toUInt32 := by
        have := congrArg Int32.toUInt32 hs
        exact this
      rw [e4, UInt32.toNat_shiftRight]
      have e5 : (Int32.ofNat s).toUInt32.toNat % 32 = s := by
        have h9 : ∀ s : Fin 32, (Int32.ofNat s.val).toUInt32.toNat % 32 = s.val := by decide +kernel
        exact h9 ⟨s, h32⟩
      rw [e5, Nat.shiftRight_eq_div_pow]
      rfl
    have hin : zz_in (X.toInt / d) := by
      have := zz_toInt X
      unfold zz_in at *
      rcases hdd with rfl | rfl | rfl | rfl <;> omega
    rw [e1, zz_i2b2 hin, e3]
    have hn := zz_nat X
    have hl := zz_lt X
    have hp2 : (((2 ^ s : Nat)) : Int) = d := by rw [← hd]; exact Int.natCast_pow 2 s
    have hq : ((X.toBitVec.toNat / 2 ^ s : Nat) : Int) = (X.toBitVec.toNat : Int) / d := by rw [← hp2]; exact Int.natCast_ediv _ _
    rw [Int.natCast_emod, hq]
    generalize X.toBitVec.toNat = N at hn hl
    generalize X.toInt = Z at hn
    rcases hdd with rfl | rfl | rfl | rfl <;> (split at hn <;> omega)
  rcases hp with rfl | rfl | rfl | rfl
  · exact key 24 16777216 (by decide +kernel) (by decide) (by decide +kernel) (by decide)
  · exact key 16 65536 (by decide +kernel) (by decide) (by decide +kernel) (by decide)
  · exact key 8 256 (by decide +kernel) (by decide) (by decide +kernel) (by decide)
  · exact key 0 1 (by decide +kernel) (by decide) (by decide +kernel) (by decide)
def zz_tc (u v : fx_U) (ta tb : Nat) (n : Int) : Prop := ∀ i : Nat, (i : Int) < n → u ta i = v tb i % 256
theorem zz_tc.one {u v : fx_U} {ta tb a1 a2 : Nat} {t c r : Int} (h : zz_tc u v ta tb t) (h0 : 0 ≤ t) (e : c = r % 256) (n1 : ta ≠ a1) (n2 : tb ≠ a2) : zz_tc (fx_pt (fx_pt u ta t.toNat c) a1 1 (t + 1)) (fx_pt (fx_pt v tb t.toNat r) a2 4 (t + 1)) ta tb (t + 1) := by
  intro i hi
  rw [zz_pa n1, zz_pa n2]
  by_cases hit : i = t.toNat
  · subst hit
    rw [zz_ps, zz_ps]
    exact e
  · rw [zz_pj hit, zz_pj hit]
    exact h i (by omega)
/-- what holds of both tapes: their sizes, their cells, their bytes -/
def zz_tp (u v : fx_U) (a1 a2 ta tb : Nat) (t : Int) : Prop := (u a1 1 = t ∧ v a2 4 = t) ∧ (u a1 0 = (ta : Int) ∧ v a2 3 = (tb : Int)) ∧ zz_tc u v ta tb t
theorem zz_po_step (a0 : Nat) (x : Int) (n : Nat) (p : Int) (w : fx_U) (F : Int) (hp : ¬ p < 0) (h2 : F < 260) :
    kL_X11_putOnTape_3 a0 x (n + 1) p w F = kL_X11_putOnTape_3 a0 x n (p + (-8)) (fx_pt (fx_pt w (w a0 0).toNat F.toNat (fx_b_and (fx_b_ushr x p) 255)) a0 1 (F + 1)) (F + 1) := by
  show kB_X11_putOnTape_3 _ a0 x p w F = _
  unfold kB_X11_putOnTape_3
  rw [if_neg hp, if_pos h2]
  rfl
theorem zz_po_end (a0 : Nat) (x : Int) (n : Nat) (p : Int) (w : fx_U) (F : Int) (hp : p < 0) : kL_X11_putOnTape_3 a0 x (n + 1) p w F = w := by
  show kB_X11_putOnTape_3 _ a0 x p w F = _
  unfold kB_X11_putOnTape_3
  rw [if_pos hp]
theorem zz_ty_step (a0 : Nat) (x : Int) (n : Nat) (p : Int) (w : fx_U) (F : Int) (hp : ¬ p < 0) :
    kL_X12_types_2 a0 x (n + 1) p w F = kL_X12_types_2 a0 x n (p + (-1)) (fx_pt (fx_pt w (w a0 3).toNat F.toNat (fx_b_i2b (fx_b_i2b (fx_b_shr x (8 * p))))) a0 4 (F + 1)) (F + 1) := by
  show kB_X12_types_2 _ a0 x p w F = _
  unfold kB_X12_types_2
  rw [if_neg hp]
  simp only [fz_lt, fz_lr, fz_ls]
theorem zz_ty_end (a0 : Nat) (x : Int) (n : Nat) (p : Int) (w : fx_U) (F : Int) (hp : p < 0) : kL_X12_types_2 a0 x (n + 1) p w F = w := by
  show kB_X12_types_2 _ a0 x p w F = _
  unfold kB_X12_types_2
  rw [if_pos hp]
/-- one byte more, in the class and in the reference -/
def zz_ob (w : fx_U) (a : Nat) (x p F : Int) : fx_U := fx_pt (fx_pt w (w a 0).toNat F.toNat (fx_b_and (fx_b_ushr x p) 255)) a 1 (F + 1)
def zz_rb (w : fx_U) (a : Nat) (x p F : Int) : fx_U := fx_pt (fx_pt w (w a 3).toNat F.toNat (fx_b_i2b (fx_b_i2b (fx_b_shr x p)))) a 4 (F + 1)
theorem zz_po_s {a0 : Nat} {x : Int} {N n : Nat} {p p2 : Int} {w : fx_U} {F F2 : Int} (hN : N = n + 1) (hp : ¬ p < 0) (h2 : F < 260) (e1 : p2 = p + (-8)) (e2 : F2 = F + 1) : kL_X11_putOnTape_3 a0 x N p w F = kL_X11_putOnTape_3 a0 x n p2 (zz_ob w a0 x p F) F2 := by
  subst hN e1 e2
  exact zz_po_step a0 x n p w F hp h2
theorem zz_po_e {a0 : Nat} {x : Int} {N n : Nat} {p : Int} {w : fx_U} {F : Int} (hN : N = n + 1) (hp : p < 0) : kL_X11_putOnTape_3 a0 x N p w F = w := by
  subst hN
  exact zz_po_end a0 x n p w F hp
theorem zz_ty_s {a0 : Nat} {x : Int} {N n : Nat} {p p2 p8 : Int} {w : fx_U} {F F2 : Int} (hN : N = n + 1) (hp : ¬ p < 0) (e1 : p2 = p + (-1)) (e8 : p8 = 8 * p) (e2 : F2 = F + 1) : kL_X12_types_2 a0 x N p w F = kL_X12_types_2 a0 x n p2 (zz_rb w a0 x p8 F) F2 := by
  subst hN e1 e2 e8
  exact zz_ty_step a0 x n p w F hp
theorem zz_ty_e {a0 : Nat} {x : Int} {N n : Nat} {p : Int} {w : fx_U} {F : Int} (hN : N = n + 1) (hp : p < 0) : kL_X12_types_2 a0 x N p w F = w := by
  subst hN
  exact zz_ty_end a0 x n p w F hp
theorem zz_tp.byte {u v : fx_U} {a1 a2 ta tb : Nat} {t t2 x p : Int} (h : zz_tp u v a1 a2 ta tb t) (hx : zz_in x) (hp : p = 24 ∨ p = 16 ∨ p = 8 ∨ p = 0) (h0 : 0 ≤ t) (n1 : ta ≠ a1) (n2 : tb ≠ a2) (ht : t2 = t + 1) : zz_tp (zz_ob u a1 x p t) (zz_rb v a2 x p t) a1 a2 ta tb t2 := by
  subst ht
  obtain ⟨⟨h1, h2⟩, ⟨h3, h4⟩, h5⟩ := h
  unfold zz_ob zz_rb
  rw [h3, h4, Int.toNat_natCast, Int.toNat_natCast]
  refine ⟨⟨zz_ps, zz_ps⟩, ⟨?_, ?_⟩, h5.one h0 (zz_byte hx hp) n1 n2⟩
  · rw [zz_pj (by decide), zz_pa (Ne.symm n1)]
    exact h3
  · rw [zz_pj (by decide), zz_pa (Ne.symm n2)]
    exact h4
theorem zz_po4 {u : fx_U} {a : Nat} {x t : Int} (ht : u a 1 = t) (h2 : t ≤ 256) : f_X11_putOnTape u a x = zz_ob (zz_ob (zz_ob (zz_ob u a x 24 t) a x 16 (t + 1)) a x 8 (t + 2)) a x 0 (t + 3) := by
  simp only [f_X11_putOnTape, fz_lt, ht]
  rw [zz_po_s (n := 32) (p2 := 16) (F2 := t + 1) (by decide) (by decide) (by omega) (by decide) rfl, zz_po_s (n := 31) (p2 := 8) (F2 := t + 2) (by decide) (by decide) (by omega) (by decide) (by omega), zz_po_s (n := 30) (p2 := 0) (F2 := t + 3) (by decide) (by decide) (by omega) (by decide) (by omega), zz_po_s (n := 29) (p2 := -8) (F2 := t + 4) (by decide) (by decide) (by omega) (by decide) (by omega), zz_po_e (n := 28) (by decide) (by decide)]
theorem zz_ty4 {u : fx_U} {a : Nat} {x t : Int} (ht : u a 4 = t) : f_X12_types u a x = zz_rb (zz_rb (zz_rb (zz_rb u a x 24 t) a x 16 (t + 1)) a x 8 (t + 2)) a x 0 (t + 3) := by
  have q0 : f_X12_types u a x = kL_X12_types_2 a x (Int.toNat (3 - (-1)) + 1) 3 u t := by
    simp only [f_X12_types, fz_lt, ht]
  have q1 := zz_ty_s (a0 := a) (x := x) (N := Int.toNat (3 - (-1)) + 1) (n := 4) (p := 3) (p2 := 2) (p8 := 24) (w := u) (F := t) (F2 := t + 1) (by decide) (by decide) (by decide) (by decide) rfl
  have q2 := zz_ty_s (a0 := a) (x := x) (N := 4) (n := 3) (p := 2) (p2 := 1) (p8 := 16) (w := zz_rb u a x 24 t) (F := t + 1) (F2 := t + 2) (by decide) (by decide) (by decide) (by decide) (by omega)
  have q3 := zz_ty_s (a0 := a) (x := x) (N := 3) (n := 2) (p := 1) (p2 := 0) (p8 := 8) (w := zz_rb (zz_rb u a x 24 t) a x 16 (t + 1)) (F := t + 2) (F2 := t + 3) (by decide) (by decide) (by decide) (by decide) (by omega)
  have q4 := zz_ty_s (a0 := a) (x := x) (N := 2) (n := 1) (p := 0) (p2 := -1) (p8 := 0) (w := zz_rb (zz_rb (zz_rb u a x 24 t) a x 16 (t + 1)) a x 8 (t + 2)) (F := t + 3) (F2 := t + 4) (by decide) (by decide) (by decide) (by decide) (by omega)
  have q5 := zz_ty_e (a0 := a) (x := x) (N := 1) (n := 0) (p := -1) (w := zz_rb (zz_rb (zz_rb (zz_rb u a x 24 t) a x 16 (t + 1)) a x 8 (t + 2)) a x 0 (t + 3)) (F := t + 4) (by decide) (by decide)
  exact q0.trans (q1.trans (q2.trans (q3.trans (q4.trans q5))))
theorem zz_tp.word {u v : fx_U} {a1 a2 ta tb : Nat} {t t4 x : Int} (h : zz_tp u v a1 a2 ta tb t) (hx : zz_in x) (h0 : 0 ≤ t) (h2 : t ≤ 256) (n1 : ta ≠ a1) (n2 : tb ≠ a2) (h4 : t4 = t + 4) : zz_tp (f_X11_putOnTape u a1 x) (f_X12_types v a2 x) a1 a2 ta tb t4 := by
  have k1 := h.byte (p := 24) (t2 := t + 1) hx (by decide) h0 n1 n2 rfl
  have k2 := k1.byte (p := 16) (t2 := t + 2) hx (by decide) (by omega) n1 n2 (by omega)
  have k3 := k2.byte (p := 8) (t2 := t + 3) hx (by decide) (by omega) n1 n2 (by omega)
  have k4 := k3.byte (p := 0) (t2 := t4) hx (by decide) (by omega) n1 n2 (by omega)
  rw [zz_po4 h.1.1 h2, zz_ty4 h.1.2]
  exact k4
theorem zz_feedC {u : fx_U} {a : Nat} {x1 x2 x3 x4 x5 : Int} (h : ¬ 240 < u a 1) : (f_X11_feed u a x1 x2 x3 x4 x5).2 = f_X11_putOnTape (f_X11_putOnTape (f_X11_putOnTape (f_X11_putOnTape (f_X11_putOnTape u a x1) a x2) a x3) a x4) a x5 := by
  simp only [f_X11_feed, fz_lt, fz_ls, if_neg h]
theorem zz_feedC0 {u : fx_U} {a : Nat} {x1 x2 x3 x4 x5 : Int} (h : 240 < u a 1) : (f_X11_feed u a x1 x2 x3 x4 x5).2 = u := by
  simp only [f_X11_feed, fz_lt, fz_ls, if_pos h]
theorem zz_feedD {u : fx_U} {a : Nat} {x1 x2 x3 x4 x5 : Int} (h : ¬ 260 < u a 4 + 20) : (f_X12_feed u a x1 x2 x3 x4 x5).2 = f_X12_types (f_X12_types (f_X12_types (f_X12_types (f_X12_types u a x1) a x2) a x3) a x4) a x5 := by
  simp only [f_X12_feed, fz_lt, fz_ls, if_neg h]
theorem zz_feedD0 {u : fx_U} {a : Nat} {x1 x2 x3 x4 x5 : Int} (h : 260 < u a 4 + 20) : (f_X12_feed u a x1 x2 x3 x4 x5).2 = u := by
  simp only [f_X12_feed, fz_lt, fz_ls, if_pos h]
theorem zz_tp.feed {u v : fx_U} {a1 a2 ta tb : Nat} {t x1 x2 x3 x4 x5 : Int} (h : zz_tp u v a1 a2 ta tb t) (g1 : zz_in x1) (g2 : zz_in x2) (g3 : zz_in x3) (g4 : zz_in x4) (g5 : zz_in x5) (h0 : 0 ≤ t) (n1 : ta ≠ a1) (n2 : tb ≠ a2) : ∃ t2 : Int, zz_tp (f_X11_feed u a1 x1 x2 x3 x4 x5).2 (f_X12_feed v a2 x1 x2 x3 x4 x5).2 a1 a2 ta tb t2 := by
  by_cases ht : 240 < t
  · rw [zz_feedC0 (by rw [h.1.1]; exact ht), zz_feedD0 (by rw [h.1.2]; omega)]
    exact ⟨t, h⟩
  · have k1 := h.word (t4 := t + 4) g1 h0 (by omega) n1 n2 rfl
    have k2 := k1.word (t4 := t + 8) g2 (by omega) (by omega) n1 n2 (by omega)
    have k3 := k2.word (t4 := t + 12) g3 (by omega) (by omega) n1 n2 (by omega)
    have k4 := k3.word (t4 := t + 16) g4 (by omega) (by omega) n1 n2 (by omega)
    have k5 := k4.word (t4 := t + 20) g5 (by omega) (by omega) n1 n2 (by omega)
    rw [zz_feedC (by rw [h.1.1]; exact ht), zz_feedD (by rw [h.1.2]; omega)]
    exact ⟨_, k5⟩
