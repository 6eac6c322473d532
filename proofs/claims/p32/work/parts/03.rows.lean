/-! numbers: an Int32 by its Int -/
theorem q_z_eq1 {x : Int32} (h : x = 0) : x.toInt = 0 := by
  first | (subst h; rfl) | (have h9 := h; simp only [Int32.lt_iff_toInt_lt, Int32.le_iff_toInt_le, Int32.toInt_zero] at h9; omega) | (intro q; exact h (Int32.toInt_inj.mp q)) | (intro q; exact h (Int32.toInt_inj.mp (q.trans Int32.toInt_zero.symm))) | (have h9 := Classical.not_not.mp h; subst h9; rfl)
theorem q_z_eq2 {x : Int32} (h : ¬ x = 0) : x.toInt ≠ 0 := by
  first | (subst h; rfl) | (have h9 := h; simp only [Int32.lt_iff_toInt_lt, Int32.le_iff_toInt_le, Int32.toInt_zero] at h9; omega) | (intro q; exact h (Int32.toInt_inj.mp q)) | (intro q; exact h (Int32.toInt_inj.mp (q.trans Int32.toInt_zero.symm))) | (have h9 := Classical.not_not.mp h; subst h9; rfl)
theorem q_c_eq1 {x y : Int32} (h : x = y) : x.toInt = y.toInt := by
  first | (subst h; rfl) | (have h9 := h; simp only [Int32.lt_iff_toInt_lt, Int32.le_iff_toInt_le, Int32.toInt_zero] at h9; omega) | (intro q; exact h (Int32.toInt_inj.mp q)) | (intro q; exact h (Int32.toInt_inj.mp (q.trans Int32.toInt_zero.symm))) | (have h9 := Classical.not_not.mp h; subst h9; rfl)
theorem q_c_eq2 {x y : Int32} (h : ¬ x = y) : x.toInt ≠ y.toInt := by
  first | (subst h; rfl) | (have h9 := h; simp only [Int32.lt_iff_toInt_lt, Int32.le_iff_toInt_le, Int32.toInt_zero] at h9; omega) | (intro q; exact h (Int32.toInt_inj.mp q)) | (intro q; exact h (Int32.toInt_inj.mp (q.trans Int32.toInt_zero.symm))) | (have h9 := Classical.not_not.mp h; subst h9; rfl)
theorem q_z_ne1 {x : Int32} (h : ¬ x = 0) : x.toInt ≠ 0 := by
  first | (subst h; rfl) | (have h9 := h; simp only [Int32.lt_iff_toInt_lt, Int32.le_iff_toInt_le, Int32.toInt_zero] at h9; omega) | (intro q; exact h (Int32.toInt_inj.mp q)) | (intro q; exact h (Int32.toInt_inj.mp (q.trans Int32.toInt_zero.symm))) | (have h9 := Classical.not_not.mp h; subst h9; rfl)
theorem q_z_ne2 {x : Int32} (h : ¬ ¬ x = 0) : x.toInt = 0 := by
  first | (subst h; rfl) | (have h9 := h; simp only [Int32.lt_iff_toInt_lt, Int32.le_iff_toInt_le, Int32.toInt_zero] at h9; omega) | (intro q; exact h (Int32.toInt_inj.mp q)) | (intro q; exact h (Int32.toInt_inj.mp (q.trans Int32.toInt_zero.symm))) | (have h9 := Classical.not_not.mp h; subst h9; rfl)
theorem q_c_ne1 {x y : Int32} (h : ¬ x = y) : x.toInt ≠ y.toInt := by
  first | (subst h; rfl) | (have h9 := h; simp only [Int32.lt_iff_toInt_lt, Int32.le_iff_toInt_le, Int32.toInt_zero] at h9; omega) | (intro q; exact h (Int32.toInt_inj.mp q)) | (intro q; exact h (Int32.toInt_inj.mp (q.trans Int32.toInt_zero.symm))) | (have h9 := Classical.not_not.mp h; subst h9; rfl)
theorem q_c_ne2 {x y : Int32} (h : ¬ ¬ x = y) : x.toInt = y.toInt := by
  first | (subst h; rfl) | (have h9 := h; simp only [Int32.lt_iff_toInt_lt, Int32.le_iff_toInt_le, Int32.toInt_zero] at h9; omega) | (intro q; exact h (Int32.toInt_inj.mp q)) | (intro q; exact h (Int32.toInt_inj.mp (q.trans Int32.toInt_zero.symm))) | (have h9 := Classical.not_not.mp h; subst h9; rfl)
theorem q_z_lt1 {x : Int32} (h : x < 0) : x.toInt < 0 := by
  first | (subst h; rfl) | (have h9 := h; simp only [Int32.lt_iff_toInt_lt, Int32.le_iff_toInt_le, Int32.toInt_zero] at h9; omega) | (intro q; exact h (Int32.toInt_inj.mp q)) | (intro q; exact h (Int32.toInt_inj.mp (q.trans Int32.toInt_zero.symm))) | (have h9 := Classical.not_not.mp h; subst h9; rfl)
theorem q_z_lt2 {x : Int32} (h : ¬ x < 0) : 0 ≤ x.toInt := by
  first | (subst h; rfl) | (have h9 := h; simp only [Int32.lt_iff_toInt_lt, Int32.le_iff_toInt_le, Int32.toInt_zero] at h9; omega) | (intro q; exact h (Int32.toInt_inj.mp q)) | (intro q; exact h (Int32.toInt_inj.mp (q.trans Int32.toInt_zero.symm))) | (have h9 := Classical.not_not.mp h; subst h9; rfl)
theorem q_c_lt1 {x y : Int32} (h : x < y) : x.toInt < y.toInt := by
  first | (subst h; rfl) | (have h9 := h; simp only [Int32.lt_iff_toInt_lt, Int32.le_iff_toInt_le, Int32.toInt_zero] at h9; omega) | (intro q; exact h (Int32.toInt_inj.mp q)) | (intro q; exact h (Int32.toInt_inj.mp (q.trans Int32.toInt_zero.symm))) | (have h9 := Classical.not_not.mp h; subst h9; rfl)
theorem q_c_lt2 {x y : Int32} (h : ¬ x < y) : y.toInt ≤ x.toInt := by
  first | (subst h; rfl) | (have h9 := h; simp only [Int32.lt_iff_toInt_lt, Int32.le_iff_toInt_le, Int32.toInt_zero] at h9; omega) | (intro q; exact h (Int32.toInt_inj.mp q)) | (intro q; exact h (Int32.toInt_inj.mp (q.trans Int32.toInt_zero.symm))) | (have h9 := Classical.not_not.mp h; subst h9; rfl)
theorem q_z_ge1 {x : Int32} (h : 0 ≤ x) : 0 ≤ x.toInt := by
  first | (subst h; rfl) | (have h9 := h; simp only [Int32.lt_iff_toInt_lt, Int32.le_iff_toInt_le, Int32.toInt_zero] at h9; omega) | (intro q; exact h (Int32.toInt_inj.mp q)) | (intro q; exact h (Int32.toInt_inj.mp (q.trans Int32.toInt_zero.symm))) | (have h9 := Classical.not_not.mp h; subst h9; rfl)
theorem q_z_ge2 {x : Int32} (h : ¬ 0 ≤ x) : x.toInt < 0 := by
  first | (subst h; rfl) | (have h9 := h; simp only [Int32.lt_iff_toInt_lt, Int32.le_iff_toInt_le, Int32.toInt_zero] at h9; omega) | (intro q; exact h (Int32.toInt_inj.mp q)) | (intro q; exact h (Int32.toInt_inj.mp (q.trans Int32.toInt_zero.symm))) | (have h9 := Classical.not_not.mp h; subst h9; rfl)
theorem q_c_ge1 {x y : Int32} (h : y ≤ x) : y.toInt ≤ x.toInt := by
  first | (subst h; rfl) | (have h9 := h; simp only [Int32.lt_iff_toInt_lt, Int32.le_iff_toInt_le, Int32.toInt_zero] at h9; omega) | (intro q; exact h (Int32.toInt_inj.mp q)) | (intro q; exact h (Int32.toInt_inj.mp (q.trans Int32.toInt_zero.symm))) | (have h9 := Classical.not_not.mp h; subst h9; rfl)
theorem q_c_ge2 {x y : Int32} (h : ¬ y ≤ x) : x.toInt < y.toInt := by
  first | (subst h; rfl) | (have h9 := h; simp only [Int32.lt_iff_toInt_lt, Int32.le_iff_toInt_le, Int32.toInt_zero] at h9; omega) | (intro q; exact h (Int32.toInt_inj.mp q)) | (intro q; exact h (Int32.toInt_inj.mp (q.trans Int32.toInt_zero.symm))) | (have h9 := Classical.not_not.mp h; subst h9; rfl)
theorem q_z_gt1 {x : Int32} (h : 0 < x) : 0 < x.toInt := by
  first | (subst h; rfl) | (have h9 := h; simp only [Int32.lt_iff_toInt_lt, Int32.le_iff_toInt_le, Int32.toInt_zero] at h9; omega) | (intro q; exact h (Int32.toInt_inj.mp q)) | (intro q; exact h (Int32.toInt_inj.mp (q.trans Int32.toInt_zero.symm))) | (have h9 := Classical.not_not.mp h; subst h9; rfl)
theorem q_z_gt2 {x : Int32} (h : ¬ 0 < x) : x.toInt ≤ 0 := by
  first | (subst h; rfl) | (have h9 := h; simp only [Int32.lt_iff_toInt_lt, Int32.le_iff_toInt_le, Int32.toInt_zero] at h9; omega) | (intro q; exact h (Int32.toInt_inj.mp q)) | (intro q; exact h (Int32.toInt_inj.mp (q.trans Int32.toInt_zero.symm))) | (have h9 := Classical.not_not.mp h; subst h9; rfl)
theorem q_c_gt1 {x y : Int32} (h : y < x) : y.toInt < x.toInt := by
  first | (subst h; rfl) | (have h9 := h; simp only [Int32.lt_iff_toInt_lt, Int32.le_iff_toInt_le, Int32.toInt_zero] at h9; omega) | (intro q; exact h (Int32.toInt_inj.mp q)) | (intro q; exact h (Int32.toInt_inj.mp (q.trans Int32.toInt_zero.symm))) | (have h9 := Classical.not_not.mp h; subst h9; rfl)
theorem q_c_gt2 {x y : Int32} (h : ¬ y < x) : x.toInt ≤ y.toInt := by
  first | (subst h; rfl) | (have h9 := h; simp only [Int32.lt_iff_toInt_lt, Int32.le_iff_toInt_le, Int32.toInt_zero] at h9; omega) | (intro q; exact h (Int32.toInt_inj.mp q)) | (intro q; exact h (Int32.toInt_inj.mp (q.trans Int32.toInt_zero.symm))) | (have h9 := Classical.not_not.mp h; subst h9; rfl)
theorem q_z_le1 {x : Int32} (h : x ≤ 0) : x.toInt ≤ 0 := by
  first | (subst h; rfl) | (have h9 := h; simp only [Int32.lt_iff_toInt_lt, Int32.le_iff_toInt_le, Int32.toInt_zero] at h9; omega) | (intro q; exact h (Int32.toInt_inj.mp q)) | (intro q; exact h (Int32.toInt_inj.mp (q.trans Int32.toInt_zero.symm))) | (have h9 := Classical.not_not.mp h; subst h9; rfl)
theorem q_z_le2 {x : Int32} (h : ¬ x ≤ 0) : 0 < x.toInt := by
  first | (subst h; rfl) | (have h9 := h; simp only [Int32.lt_iff_toInt_lt, Int32.le_iff_toInt_le, Int32.toInt_zero] at h9; omega) | (intro q; exact h (Int32.toInt_inj.mp q)) | (intro q; exact h (Int32.toInt_inj.mp (q.trans Int32.toInt_zero.symm))) | (have h9 := Classical.not_not.mp h; subst h9; rfl)
theorem q_c_le1 {x y : Int32} (h : x ≤ y) : x.toInt ≤ y.toInt := by
  first | (subst h; rfl) | (have h9 := h; simp only [Int32.lt_iff_toInt_lt, Int32.le_iff_toInt_le, Int32.toInt_zero] at h9; omega) | (intro q; exact h (Int32.toInt_inj.mp q)) | (intro q; exact h (Int32.toInt_inj.mp (q.trans Int32.toInt_zero.symm))) | (have h9 := Classical.not_not.mp h; subst h9; rfl)
theorem q_c_le2 {x y : Int32} (h : ¬ x ≤ y) : y.toInt < x.toInt := by
  first | (subst h; rfl) | (have h9 := h; simp only [Int32.lt_iff_toInt_lt, Int32.le_iff_toInt_le, Int32.toInt_zero] at h9; omega) | (intro q; exact h (Int32.toInt_inj.mp q)) | (intro q; exact h (Int32.toInt_inj.mp (q.trans Int32.toInt_zero.symm))) | (have h9 := Classical.not_not.mp h; subst h9; rfl)
section Rows
variable {X : q_X} {cc : ByteArray} {own : String} {nL : Nat} {ret : Option FieldType} {fr lo mc ms cells slots pc : Nat} {τ : q_T} {σ : q_V} {lv : List (Nat × Value)} {st : List Value} {x y : Int32}
theorem q_iadd (hG : q_G X cc own nL ret fr lo mc ms) (hd : decode cc pc = .ok (.iadd, 1)) (k : ∀ z : Int32, z = x + y → q_O X cells slots τ σ (pc + 1) lv (.int z :: st)) : q_O X cells slots τ σ pc lv (.int y :: .int x :: st) := by
  obtain ⟨p, l, e, R, s, m, args, below, meth, c, Q, A, D⟩ := X
  obtain ⟨hx, hb, hr, hml, hown, hts, hK, hlk, hA, hR⟩ := hG
  intro H locs ls h1 h2 h3
  exact lv_iadd hx hb hd (k _ rfl H locs ls h1 h2 h3)
theorem q_isub (hG : q_G X cc own nL ret fr lo mc ms) (hd : decode cc pc = .ok (.isub, 1)) (k : ∀ z : Int32, z = x - y → q_O X cells slots τ σ (pc + 1) lv (.int z :: st)) : q_O X cells slots τ σ pc lv (.int y :: .int x :: st) := by
  obtain ⟨p, l, e, R, s, m, args, below, meth, c, Q, A, D⟩ := X
  obtain ⟨hx, hb, hr, hml, hown, hts, hK, hlk, hA, hR⟩ := hG
  intro H locs ls h1 h2 h3
  exact lv_isub hx hb hd (k _ rfl H locs ls h1 h2 h3)
theorem q_imul (hG : q_G X cc own nL ret fr lo mc ms) (hd : decode cc pc = .ok (.imul, 1)) (k : ∀ z : Int32, z = x * y → q_O X cells slots τ σ (pc + 1) lv (.int z :: st)) : q_O X cells slots τ σ pc lv (.int y :: .int x :: st) := by
  obtain ⟨p, l, e, R, s, m, args, below, meth, c, Q, A, D⟩ := X
  obtain ⟨hx, hb, hr, hml, hown, hts, hK, hlk, hA, hR⟩ := hG
  intro H locs ls h1 h2 h3
  exact lv_imul hx hb hd (k _ rfl H locs ls h1 h2 h3)
theorem q_iand (hG : q_G X cc own nL ret fr lo mc ms) (hd : decode cc pc = .ok (.iand, 1)) (k : ∀ z : Int32, z = x &&& y → q_O X cells slots τ σ (pc + 1) lv (.int z :: st)) : q_O X cells slots τ σ pc lv (.int y :: .int x :: st) := by
  obtain ⟨p, l, e, R, s, m, args, below, meth, c, Q, A, D⟩ := X
  obtain ⟨hx, hb, hr, hml, hown, hts, hK, hlk, hA, hR⟩ := hG
  intro H locs ls h1 h2 h3
  exact lv_iand hx hb hd (k _ rfl H locs ls h1 h2 h3)
theorem q_ior (hG : q_G X cc own nL ret fr lo mc ms) (hd : decode cc pc = .ok (.ior, 1)) (k : ∀ z : Int32, z = x ||| y → q_O X cells slots τ σ (pc + 1) lv (.int z :: st)) : q_O X cells slots τ σ pc lv (.int y :: .int x :: st) := by
  obtain ⟨p, l, e, R, s, m, args, below, meth, c, Q, A, D⟩ := X
  obtain ⟨hx, hb, hr, hml, hown, hts, hK, hlk, hA, hR⟩ := hG
  intro H locs ls h1 h2 h3
  exact lv_ior hx hb hd (k _ rfl H locs ls h1 h2 h3)
theorem q_ixor (hG : q_G X cc own nL ret fr lo mc ms) (hd : decode cc pc = .ok (.ixor, 1)) (k : ∀ z : Int32, z = x ^^^ y → q_O X cells slots τ σ (pc + 1) lv (.int z :: st)) : q_O X cells slots τ σ pc lv (.int y :: .int x :: st) := by
  obtain ⟨p, l, e, R, s, m, args, below, meth, c, Q, A, D⟩ := X
  obtain ⟨hx, hb, hr, hml, hown, hts, hK, hlk, hA, hR⟩ := hG
  intro H locs ls h1 h2 h3
  exact lv_ixor hx hb hd (k _ rfl H locs ls h1 h2 h3)
theorem q_ishl (hG : q_G X cc own nL ret fr lo mc ms) (hd : decode cc pc = .ok (.ishl, 1)) (k : ∀ z : Int32, z = x <<< (y &&& 31) → q_O X cells slots τ σ (pc + 1) lv (.int z :: st)) : q_O X cells slots τ σ pc lv (.int y :: .int x :: st) := by
  obtain ⟨p, l, e, R, s, m, args, below, meth, c, Q, A, D⟩ := X
  obtain ⟨hx, hb, hr, hml, hown, hts, hK, hlk, hA, hR⟩ := hG
  intro H locs ls h1 h2 h3
  exact lv_ishl hx hb hd (k _ rfl H locs ls h1 h2 h3)
theorem q_ishr (hG : q_G X cc own nL ret fr lo mc ms) (hd : decode cc pc = .ok (.ishr, 1)) (k : ∀ z : Int32, z = x >>> (y &&& 31) → q_O X cells slots τ σ (pc + 1) lv (.int z :: st)) : q_O X cells slots τ σ pc lv (.int y :: .int x :: st) := by
  obtain ⟨p, l, e, R, s, m, args, below, meth, c, Q, A, D⟩ := X
  obtain ⟨hx, hb, hr, hml, hown, hts, hK, hlk, hA, hR⟩ := hG
  intro H locs ls h1 h2 h3
  exact lv_ishr hx hb hd (k _ rfl H locs ls h1 h2 h3)
theorem q_idiv (hG : q_G X cc own nL ret fr lo mc ms) (hd : decode cc pc = .ok (.idiv, 1)) (hne : ¬ y = 0) (k : ∀ z : Int32, z = x / y → q_O X cells slots τ σ (pc + 1) lv (.int z :: st)) : q_O X cells slots τ σ pc lv (.int y :: .int x :: st) := by
  obtain ⟨p, l, e, R, s, m, args, below, meth, c, Q, A, D⟩ := X
  obtain ⟨hx, hb, hr, hml, hown, hts, hK, hlk, hA, hR⟩ := hG
  intro H locs ls h1 h2 h3
  exact lv_idiv hx hb hd hne (k _ rfl H locs ls h1 h2 h3)
theorem q_irem (hG : q_G X cc own nL ret fr lo mc ms) (hd : decode cc pc = .ok (.irem, 1)) (hne : ¬ y = 0) (k : ∀ z : Int32, z = x - x / y * y → q_O X cells slots τ σ (pc + 1) lv (.int z :: st)) : q_O X cells slots τ σ pc lv (.int y :: .int x :: st) := by
  obtain ⟨p, l, e, R, s, m, args, below, meth, c, Q, A, D⟩ := X
  obtain ⟨hx, hb, hr, hml, hown, hts, hK, hlk, hA, hR⟩ := hG
  intro H locs ls h1 h2 h3
  exact lv_irem hx hb hd hne (k _ rfl H locs ls h1 h2 h3)
theorem q_ineg (hG : q_G X cc own nL ret fr lo mc ms) (hd : decode cc pc = .ok (.ineg, 1)) (k : ∀ z : Int32, z = 0 - x → q_O X cells slots τ σ (pc + 1) lv (.int z :: st)) : q_O X cells slots τ σ pc lv (.int x :: st) := by
  obtain ⟨p, l, e, R, s, m, args, below, meth, c, Q, A, D⟩ := X
  obtain ⟨hx, hb, hr, hml, hown, hts, hK, hlk, hA, hR⟩ := hG
  intro H locs ls h1 h2 h3
  exact lv_ineg hx hb hd (k _ rfl H locs ls h1 h2 h3)
theorem q_i2b (hG : q_G X cc own nL ret fr lo mc ms) (hd : decode cc pc = .ok (.i2b, 1)) (k : ∀ z : Int32, z = x.toInt8.toInt32 → q_O X cells slots τ σ (pc + 1) lv (.int z :: st)) : q_O X cells slots τ σ pc lv (.int x :: st) := by
  obtain ⟨p, l, e, R, s, m, args, below, meth, c, Q, A, D⟩ := X
  obtain ⟨hx, hb, hr, hml, hown, hts, hK, hlk, hA, hR⟩ := hG
  intro H locs ls h1 h2 h3
  exact lv_i2b hx hb hd rfl (k _ rfl H locs ls h1 h2 h3)
theorem q_iushr (hG : q_G X cc own nL ret fr lo mc ms) (hd : decode cc pc = .ok (.iushr, 1)) (k : ∀ z : Int32, z = (x.toUInt32 >>> (y.toUInt32 &&& Int32.toUInt32 31)).toInt32 → q_O X cells slots τ σ (pc + 1) lv (.int z :: st)) : q_O X cells slots τ σ pc lv (.int y :: .int x :: st) := by
  obtain ⟨p, l, e, R, s, m, args, below, meth, c, Q, A, D⟩ := X
  obtain ⟨hx, hb, hr, hml, hown, hts, hK, hlk, hA, hR⟩ := hG
  intro H locs ls h1 h2 h3
  exact lv_iushr hx hb hd rfl (k _ rfl H locs ls h1 h2 h3)
theorem q_if_eq {off : Int} (hG : q_G X cc own nL ret fr lo mc ms) (tgt : Nat) (hd : decode cc pc = .ok (.ifCond .eq off, 3)) (ht : (pc : Int) + off = (tgt : Int)) (k1 : x.toInt = 0 → q_O X cells slots τ σ tgt lv st) (k2 : x.toInt ≠ 0 → q_O X cells slots τ σ (pc + 3) lv st) : q_O X cells slots τ σ pc lv (.int x :: st) := by
  obtain ⟨p, l, e, R, s, m, args, below, meth, c, Q, A, D⟩ := X
  obtain ⟨hx, hb, hr, hml, hown, hts, hK, hlk, hA, hR⟩ := hG
  intro H locs ls h1 h2 h3
  exact lv_if_eq hx hb hd ht (fun h => k1 (q_z_eq1 h) H locs ls h1 h2 h3) (fun h => k2 (q_z_eq2 h) H locs ls h1 h2 h3)
theorem q_icmp_eq {off : Int} (hG : q_G X cc own nL ret fr lo mc ms) (tgt : Nat) (hd : decode cc pc = .ok (.if_icmp .eq off, 3)) (ht : (pc : Int) + off = (tgt : Int)) (k1 : x.toInt = y.toInt → q_O X cells slots τ σ tgt lv st) (k2 : x.toInt ≠ y.toInt → q_O X cells slots τ σ (pc + 3) lv st) : q_O X cells slots τ σ pc lv (.int y :: .int x :: st) := by
  obtain ⟨p, l, e, R, s, m, args, below, meth, c, Q, A, D⟩ := X
  obtain ⟨hx, hb, hr, hml, hown, hts, hK, hlk, hA, hR⟩ := hG
  intro H locs ls h1 h2 h3
  exact lv_icmp_eq hx hb hd ht (fun h => k1 (q_c_eq1 h) H locs ls h1 h2 h3) (fun h => k2 (q_c_eq2 h) H locs ls h1 h2 h3)
theorem q_if_ne {off : Int} (hG : q_G X cc own nL ret fr lo mc ms) (tgt : Nat) (hd : decode cc pc = .ok (.ifCond .ne off, 3)) (ht : (pc : Int) + off = (tgt : Int)) (k1 : x.toInt ≠ 0 → q_O X cells slots τ σ tgt lv st) (k2 : x.toInt = 0 → q_O X cells slots τ σ (pc + 3) lv st) : q_O X cells slots τ σ pc lv (.int x :: st) := by
  obtain ⟨p, l, e, R, s, m, args, below, meth, c, Q, A, D⟩ := X
  obtain ⟨hx, hb, hr, hml, hown, hts, hK, hlk, hA, hR⟩ := hG
  intro H locs ls h1 h2 h3
  exact lv_if_ne hx hb hd ht (fun h => k1 (q_z_ne1 h) H locs ls h1 h2 h3) (fun h => k2 (q_z_eq1 h) H locs ls h1 h2 h3)
theorem q_icmp_ne {off : Int} (hG : q_G X cc own nL ret fr lo mc ms) (tgt : Nat) (hd : decode cc pc = .ok (.if_icmp .ne off, 3)) (ht : (pc : Int) + off = (tgt : Int)) (k1 : x.toInt ≠ y.toInt → q_O X cells slots τ σ tgt lv st) (k2 : x.toInt = y.toInt → q_O X cells slots τ σ (pc + 3) lv st) : q_O X cells slots τ σ pc lv (.int y :: .int x :: st) := by
  obtain ⟨p, l, e, R, s, m, args, below, meth, c, Q, A, D⟩ := X
  obtain ⟨hx, hb, hr, hml, hown, hts, hK, hlk, hA, hR⟩ := hG
  intro H locs ls h1 h2 h3
  exact lv_icmp_ne hx hb hd ht (fun h => k1 (q_c_ne1 h) H locs ls h1 h2 h3) (fun h => k2 (q_c_eq1 h) H locs ls h1 h2 h3)
theorem q_if_lt {off : Int} (hG : q_G X cc own nL ret fr lo mc ms) (tgt : Nat) (hd : decode cc pc = .ok (.ifCond .lt off, 3)) (ht : (pc : Int) + off = (tgt : Int)) (k1 : x.toInt < 0 → q_O X cells slots τ σ tgt lv st) (k2 : 0 ≤ x.toInt → q_O X cells slots τ σ (pc + 3) lv st) : q_O X cells slots τ σ pc lv (.int x :: st) := by
  obtain ⟨p, l, e, R, s, m, args, below, meth, c, Q, A, D⟩ := X
  obtain ⟨hx, hb, hr, hml, hown, hts, hK, hlk, hA, hR⟩ := hG
  intro H locs ls h1 h2 h3
  exact lv_if_lt hx hb hd ht (fun h => k1 (q_z_lt1 h) H locs ls h1 h2 h3) (fun h => k2 (q_z_lt2 h) H locs ls h1 h2 h3)
theorem q_icmp_lt {off : Int} (hG : q_G X cc own nL ret fr lo mc ms) (tgt : Nat) (hd : decode cc pc = .ok (.if_icmp .lt off, 3)) (ht : (pc : Int) + off = (tgt : Int)) (k1 : x.toInt < y.toInt → q_O X cells slots τ σ tgt lv st) (k2 : y.toInt ≤ x.toInt → q_O X cells slots τ σ (pc + 3) lv st) : q_O X cells slots τ σ pc lv (.int y :: .int x :: st) := by
  obtain ⟨p, l, e, R, s, m, args, below, meth, c, Q, A, D⟩ := X
  obtain ⟨hx, hb, hr, hml, hown, hts, hK, hlk, hA, hR⟩ := hG
  intro H locs ls h1 h2 h3
  exact lv_icmp_lt hx hb hd ht (fun h => k1 (q_c_lt1 h) H locs ls h1 h2 h3) (fun h => k2 (q_c_lt2 h) H locs ls h1 h2 h3)
theorem q_if_ge {off : Int} (hG : q_G X cc own nL ret fr lo mc ms) (tgt : Nat) (hd : decode cc pc = .ok (.ifCond .ge off, 3)) (ht : (pc : Int) + off = (tgt : Int)) (k1 : 0 ≤ x.toInt → q_O X cells slots τ σ tgt lv st) (k2 : x.toInt < 0 → q_O X cells slots τ σ (pc + 3) lv st) : q_O X cells slots τ σ pc lv (.int x :: st) := by
  obtain ⟨p, l, e, R, s, m, args, below, meth, c, Q, A, D⟩ := X
  obtain ⟨hx, hb, hr, hml, hown, hts, hK, hlk, hA, hR⟩ := hG
  intro H locs ls h1 h2 h3
  exact lv_if_ge hx hb hd ht (fun h => k1 (q_z_ge1 h) H locs ls h1 h2 h3) (fun h => k2 (q_z_ge2 h) H locs ls h1 h2 h3)
theorem q_icmp_ge {off : Int} (hG : q_G X cc own nL ret fr lo mc ms) (tgt : Nat) (hd : decode cc pc = .ok (.if_icmp .ge off, 3)) (ht : (pc : Int) + off = (tgt : Int)) (k1 : y.toInt ≤ x.toInt → q_O X cells slots τ σ tgt lv st) (k2 : x.toInt < y.toInt → q_O X cells slots τ σ (pc + 3) lv st) : q_O X cells slots τ σ pc lv (.int y :: .int x :: st) := by
  obtain ⟨p, l, e, R, s, m, args, below, meth, c, Q, A, D⟩ := X
  obtain ⟨hx, hb, hr, hml, hown, hts, hK, hlk, hA, hR⟩ := hG
  intro H locs ls h1 h2 h3
  exact lv_icmp_ge hx hb hd ht (fun h => k1 (q_c_ge1 h) H locs ls h1 h2 h3) (fun h => k2 (q_c_ge2 h) H locs ls h1 h2 h3)
theorem q_if_gt {off : Int} (hG : q_G X cc own nL ret fr lo mc ms) (tgt : Nat) (hd : decode cc pc = .ok (.ifCond .gt off, 3)) (ht : (pc : Int) + off = (tgt : Int)) (k1 : 0 < x.toInt → q_O X cells slots τ σ tgt lv st) (k2 : x.toInt ≤ 0 → q_O X cells slots τ σ (pc + 3) lv st) : q_O X cells slots τ σ pc lv (.int x :: st) := by
  obtain ⟨p, l, e, R, s, m, args, below, meth, c, Q, A, D⟩ := X
  obtain ⟨hx, hb, hr, hml, hown, hts, hK, hlk, hA, hR⟩ := hG
  intro H locs ls h1 h2 h3
  exact lv_if_gt hx hb hd ht (fun h => k1 (q_z_gt1 h) H locs ls h1 h2 h3) (fun h => k2 (q_z_gt2 h) H locs ls h1 h2 h3)
theorem q_icmp_gt {off : Int} (hG : q_G X cc own nL ret fr lo mc ms) (tgt : Nat) (hd : decode cc pc = .ok (.if_icmp .gt off, 3)) (ht : (pc : Int) + off = (tgt : Int)) (k1 : y.toInt < x.toInt → q_O X cells slots τ σ tgt lv st) (k2 : x.toInt ≤ y.toInt → q_O X cells slots τ σ (pc + 3) lv st) : q_O X cells slots τ σ pc lv (.int y :: .int x :: st) := by
  obtain ⟨p, l, e, R, s, m, args, below, meth, c, Q, A, D⟩ := X
  obtain ⟨hx, hb, hr, hml, hown, hts, hK, hlk, hA, hR⟩ := hG
  intro H locs ls h1 h2 h3
  exact lv_icmp_gt hx hb hd ht (fun h => k1 (q_c_gt1 h) H locs ls h1 h2 h3) (fun h => k2 (q_c_gt2 h) H locs ls h1 h2 h3)
theorem q_if_le {off : Int} (hG : q_G X cc own nL ret fr lo mc ms) (tgt : Nat) (hd : decode cc pc = .ok (.ifCond .le off, 3)) (ht : (pc : Int) + off = (tgt : Int)) (k1 : x.toInt ≤ 0 → q_O X cells slots τ σ tgt lv st) (k2 : 0 < x.toInt → q_O X cells slots τ σ (pc + 3) lv st) : q_O X cells slots τ σ pc lv (.int x :: st) := by
  obtain ⟨p, l, e, R, s, m, args, below, meth, c, Q, A, D⟩ := X
  obtain ⟨hx, hb, hr, hml, hown, hts, hK, hlk, hA, hR⟩ := hG
  intro H locs ls h1 h2 h3
  exact lv_if_le hx hb hd ht (fun h => k1 (q_z_le1 h) H locs ls h1 h2 h3) (fun h => k2 (q_z_le2 h) H locs ls h1 h2 h3)
theorem q_icmp_le {off : Int} (hG : q_G X cc own nL ret fr lo mc ms) (tgt : Nat) (hd : decode cc pc = .ok (.if_icmp .le off, 3)) (ht : (pc : Int) + off = (tgt : Int)) (k1 : x.toInt ≤ y.toInt → q_O X cells slots τ σ tgt lv st) (k2 : y.toInt < x.toInt → q_O X cells slots τ σ (pc + 3) lv st) : q_O X cells slots τ σ pc lv (.int y :: .int x :: st) := by
  obtain ⟨p, l, e, R, s, m, args, below, meth, c, Q, A, D⟩ := X
  obtain ⟨hx, hb, hr, hml, hown, hts, hK, hlk, hA, hR⟩ := hG
  intro H locs ls h1 h2 h3
  exact lv_icmp_le hx hb hd ht (fun h => k1 (q_c_le1 h) H locs ls h1 h2 h3) (fun h => k2 (q_c_le2 h) H locs ls h1 h2 h3)
end Rows
