/-! WHAT A METHOD COMPUTES, as a function over numbers: a state is a number for each address and place; a walk holds beside each step what is left to compute -/
abbrev fx_U : Type := Nat → Nat → Int
def fx_num : Value → Int
  | .int x => x.toInt
  | .ref a => (a : Int)
  | .null => -1
  | _ => 0
def fx_N (σ : q_V) : fx_U := fun a j => fx_num (σ a j)
def fx_pt (u : fx_U) (a j : Nat) (v : Int) : fx_U := fun b i => if b = a ∧ i = j then v else u b i
def fx_cy (u : fx_U) (a0 a N : Nat) : fx_U := fun b i => if b = a ∧ i < N then u a0 i else u b i
def fx_lt {α : Type} (e : Int) (f : Int → α) : α := f e
def fx_lr {α : Type} (e : Int) (f : Nat → α) : α := f e.toNat
def fx_lq {α : Type} (e : Nat) (f : Nat → α) : α := f e
def fx_ls {α : Type} (e : fx_U) (f : fx_U → α) : α := f e
def fx_lc {α : Type} (e : Int × fx_U) (f : Int → fx_U → α) : α := f e.1 e.2
def fx_eq {α : Type} (a b : α) : Prop := a = b
/-! the same as rows to rewrite by, not by unfolding (the kernel would unfold a loop) -/
theorem fz_lt {α : Type} (e : Int) (f : Int → α) : fx_lt e f = f e := Eq.trans (Eq.refl _) (Eq.refl _)
theorem fz_lr {α : Type} (e : Int) (f : Nat → α) : fx_lr e f = f e.toNat := Eq.trans (Eq.refl _) (Eq.refl _)
theorem fz_lq {α : Type} (e : Nat) (f : Nat → α) : fx_lq e f = f e := Eq.trans (Eq.refl _) (Eq.refl _)
theorem fz_ls {α : Type} (e : fx_U) (f : fx_U → α) : fx_ls e f = f e := Eq.trans (Eq.refl _) (Eq.refl _)
theorem fz_lc {α : Type} (e : Int × fx_U) (f : Int → fx_U → α) : fx_lc e f = f e.1 e.2 := Eq.trans (Eq.refl _) (Eq.refl _)
theorem fx_N_up {σ : q_V} {a j : Nat} {v : Value} : fx_N (q_up σ a j v) = fx_pt (fx_N σ) a j (fx_num v) := by
  funext b i
  unfold fx_N fx_pt
  by_cases hb : b = a
  · subst hb
    by_cases hi : i = j
    · subst hi
      rw [q_up_same, if_pos ⟨rfl, rfl⟩]
    · rw [q_up_slot hi, if_neg (fun q => hi q.2)]
  · rw [q_up_ne hb, if_neg (fun q => hb q.1)]
theorem fx_N_cp {σ : q_V} {a0 a N : Nat} : fx_N (q_cp σ a0 a N) = fx_cy (fx_N σ) a0 a N := by
  funext b i
  unfold fx_N fx_cy
  by_cases hb : b = a
  · subst hb
    by_cases hi : i < N
    · rw [q_cp_at hi, if_pos ⟨rfl, hi⟩]
    · rw [q_cp_on (by omega), if_neg (fun q => hi q.2)]
  · rw [q_cp_ne hb, if_neg (fun q => hb q.1)]
section Steps
variable {α : Type} {Fv : α} {σ σ1 : q_V}
theorem fx_rf {a : α} : fx_eq a a := rfl
theorem fx_end {a b c : α} (h : fx_eq a b) (h0 : fx_eq a c) : b = c := Eq.trans (Eq.symm h) h0
theorem fx_I {a j j2 : Nat} {f : Int → α} {v : Int32} (h : fx_eq Fv (fx_lt (fx_N σ a j) f)) (e : σ a j2 = .int v) (hj : j2 = j) : fx_eq Fv (f v.toInt) := by
  subst hj
  unfold fx_eq fx_lt fx_N at h
  rw [e] at h
  exact h
theorem fx_R {a j j2 b : Nat} {f : Nat → α} (h : fx_eq Fv (fx_lr (fx_N σ a j) f)) (e : σ a j2 = .ref b) (hj : j2 = j) : fx_eq Fv (f b) := by
  subst hj
  unfold fx_eq fx_lr fx_N at h
  rw [e] at h
  exact h
theorem fx_E {e v : Int} {f : Int → α} (h : fx_eq Fv (fx_lt e f)) (he : v = e) : fx_eq Fv (f v) := by
  subst he
  exact h
theorem fx_Q {e v : Nat} {f : Nat → α} (h : fx_eq Fv (fx_lq e f)) (he : v = e) : fx_eq Fv (f v) := by
  subst he
  exact h
theorem fx_add {x y x2 y2 v : Int} {f : Int → α} (h : fx_eq Fv (fx_lt (x + y) f)) (ex : x2 = x) (ey : y2 = y) (e : v = x2 + y2) : fx_eq Fv (f v) := by
  subst ex ey e
  exact h
theorem fx_sub {x y x2 y2 v : Int} {f : Int → α} (h : fx_eq Fv (fx_lt (x - y) f)) (ex : x2 = x) (ey : y2 = y) (e : v = x2 - y2) : fx_eq Fv (f v) := by
  subst ex ey e
  exact h
theorem fx_mul {x y x2 y2 v : Int} {f : Int → α} (h : fx_eq Fv (fx_lt (x * y) f)) (ex : x2 = x) (ey : y2 = y) (e : v = x2 * y2) : fx_eq Fv (f v) := by
  subst ex ey e
  exact h
theorem fx_div {x y x2 y2 v : Int} {f : Int → α} (h : fx_eq Fv (fx_lt (x / y) f)) (ex : x2 = x) (ey : y2 = y) (e : v = x2 / y2) : fx_eq Fv (f v) := by
  subst ex ey e
  exact h
theorem fx_mod {x y x2 y2 v : Int} {f : Int → α} (h : fx_eq Fv (fx_lt (x % y) f)) (ex : x2 = x) (ey : y2 = y) (e : v = x2 % y2) : fx_eq Fv (f v) := by
  subst ex ey e
  exact h
theorem fx_tdiv {x y x2 y2 v : Int} {f : Int → α} (h : fx_eq Fv (fx_lt (Int.tdiv x y) f)) (ex : x2 = x) (ey : y2 = y) (e : v = Int.tdiv x2 y2) : fx_eq Fv (f v) := by
  subst ex ey e
  exact h
theorem fx_tmod {x y x2 y2 v : Int} {f : Int → α} (h : fx_eq Fv (fx_lt (Int.tmod x y) f)) (ex : x2 = x) (ey : y2 = y) (e : v = Int.tmod x2 y2) : fx_eq Fv (f v) := by
  subst ex ey e
  exact h
theorem fx_neg {x x2 v : Int} {f : Int → α} (h : fx_eq Fv (fx_lt (-x) f)) (ex : x2 = x) (e : v = -x2) : fx_eq Fv (f v) := by
  subst ex e
  exact h
def fx_b_add (x y : Int) : Int := ((Int32.ofInt x) + (Int32.ofInt y)).toInt
theorem fx_B_add {x y : Int} {x2 y2 v : Int32} {f : Int → α} (h : fx_eq Fv (fx_lt (fx_b_add x y) f)) (ex : x2.toInt = x) (ey : y2.toInt = y) (e : v = x2 + y2) : fx_eq Fv (f v.toInt) := by
  subst ex ey
  unfold fx_b_add at h
  rw [Int32.ofInt_toInt, Int32.ofInt_toInt, ← e] at h
  exact h
def fx_b_sub (x y : Int) : Int := ((Int32.ofInt x) - (Int32.ofInt y)).toInt
theorem fx_B_sub {x y : Int} {x2 y2 v : Int32} {f : Int → α} (h : fx_eq Fv (fx_lt (fx_b_sub x y) f)) (ex : x2.toInt = x) (ey : y2.toInt = y) (e : v = x2 - y2) : fx_eq Fv (f v.toInt) := by
  subst ex ey
  unfold fx_b_sub at h
  rw [Int32.ofInt_toInt, Int32.ofInt_toInt, ← e] at h
  exact h
def fx_b_mul (x y : Int) : Int := ((Int32.ofInt x) * (Int32.ofInt y)).toInt
theorem fx_B_mul {x y : Int} {x2 y2 v : Int32} {f : Int → α} (h : fx_eq Fv (fx_lt (fx_b_mul x y) f)) (ex : x2.toInt = x) (ey : y2.toInt = y) (e : v = x2 * y2) : fx_eq Fv (f v.toInt) := by
  subst ex ey
  unfold fx_b_mul at h
  rw [Int32.ofInt_toInt, Int32.ofInt_toInt, ← e] at h
  exact h
def fx_b_div (x y : Int) : Int := ((Int32.ofInt x) / (Int32.ofInt y)).toInt
theorem fx_B_div {x y : Int} {x2 y2 v : Int32} {f : Int → α} (h : fx_eq Fv (fx_lt (fx_b_div x y) f)) (ex : x2.toInt = x) (ey : y2.toInt = y) (e : v = x2 / y2) : fx_eq Fv (f v.toInt) := by
  subst ex ey
  unfold fx_b_div at h
  rw [Int32.ofInt_toInt, Int32.ofInt_toInt, ← e] at h
  exact h
def fx_b_rem (x y : Int) : Int := ((Int32.ofInt x) - (Int32.ofInt x) / (Int32.ofInt y) * (Int32.ofInt y)).toInt
theorem fx_B_rem {x y : Int} {x2 y2 v : Int32} {f : Int → α} (h : fx_eq Fv (fx_lt (fx_b_rem x y) f)) (ex : x2.toInt = x) (ey : y2.toInt = y) (e : v = x2 - x2 / y2 * y2) : fx_eq Fv (f v.toInt) := by
  subst ex ey
  unfold fx_b_rem at h
  rw [Int32.ofInt_toInt, Int32.ofInt_toInt, ← e] at h
  exact h
def fx_b_and (x y : Int) : Int := ((Int32.ofInt x) &&& (Int32.ofInt y)).toInt
theorem fx_B_and {x y : Int} {x2 y2 v : Int32} {f : Int → α} (h : fx_eq Fv (fx_lt (fx_b_and x y) f)) (ex : x2.toInt = x) (ey : y2.toInt = y) (e : v = x2 &&& y2) : fx_eq Fv (f v.toInt) := by
  subst ex ey
  unfold fx_b_and at h
  rw [Int32.ofInt_toInt, Int32.ofInt_toInt, ← e] at h
  exact h
def fx_b_or (x y : Int) : Int := ((Int32.ofInt x) ||| (Int32.ofInt y)).toInt
theorem fx_B_or {x y : Int} {x2 y2 v : Int32} {f : Int → α} (h : fx_eq Fv (fx_lt (fx_b_or x y) f)) (ex : x2.toInt = x) (ey : y2.toInt = y) (e : v = x2 ||| y2) : fx_eq Fv (f v.toInt) := by
  subst ex ey
  unfold fx_b_or at h
  rw [Int32.ofInt_toInt, Int32.ofInt_toInt, ← e] at h
  exact h
def fx_b_xor (x y : Int) : Int := ((Int32.ofInt x) ^^^ (Int32.ofInt y)).toInt
theorem fx_B_xor {x y : Int} {x2 y2 v : Int32} {f : Int → α} (h : fx_eq Fv (fx_lt (fx_b_xor x y) f)) (ex : x2.toInt = x) (ey : y2.toInt = y) (e : v = x2 ^^^ y2) : fx_eq Fv (f v.toInt) := by
  subst ex ey
  unfold fx_b_xor at h
  rw [Int32.ofInt_toInt, Int32.ofInt_toInt, ← e] at h
  exact h
def fx_b_shl (x y : Int) : Int := ((Int32.ofInt x) <<< ((Int32.ofInt y) &&& 31)).toInt
theorem fx_B_shl {x y : Int} {x2 y2 v : Int32} {f : Int → α} (h : fx_eq Fv (fx_lt (fx_b_shl x y) f)) (ex : x2.toInt = x) (ey : y2.toInt = y) (e : v = x2 <<< (y2 &&& 31)) : fx_eq Fv (f v.toInt) := by
  subst ex ey
  unfold fx_b_shl at h
  rw [Int32.ofInt_toInt, Int32.ofInt_toInt, ← e] at h
  exact h
def fx_b_shr (x y : Int) : Int := ((Int32.ofInt x) >>> ((Int32.ofInt y) &&& 31)).toInt
theorem fx_B_shr {x y : Int} {x2 y2 v : Int32} {f : Int → α} (h : fx_eq Fv (fx_lt (fx_b_shr x y) f)) (ex : x2.toInt = x) (ey : y2.toInt = y) (e : v = x2 >>> (y2 &&& 31)) : fx_eq Fv (f v.toInt) := by
  subst ex ey
  unfold fx_b_shr at h
  rw [Int32.ofInt_toInt, Int32.ofInt_toInt, ← e] at h
  exact h
def fx_b_ushr (x y : Int) : Int := (((Int32.ofInt x).toUInt32 >>> ((Int32.ofInt y).toUInt32 &&& Int32.toUInt32 31)).toInt32).toInt
theorem fx_B_ushr {x y : Int} {x2 y2 v : Int32} {f : Int → α} (h : fx_eq Fv (fx_lt (fx_b_ushr x y) f)) (ex : x2.toInt = x) (ey : y2.toInt = y) (e : v = (x2.toUInt32 >>> (y2.toUInt32 &&& Int32.toUInt32 31)).toInt32) : fx_eq Fv (f v.toInt) := by
  subst ex ey
  unfold fx_b_ushr at h
  rw [Int32.ofInt_toInt, Int32.ofInt_toInt, ← e] at h
  exact h
def fx_b_neg (x : Int) : Int := (0 - (Int32.ofInt x)).toInt
theorem fx_B_neg {x : Int} {x2 v : Int32} {f : Int → α} (h : fx_eq Fv (fx_lt (fx_b_neg x) f)) (ex : x2.toInt = x) (e : v = 0 - x2) : fx_eq Fv (f v.toInt) := by
  subst ex
  unfold fx_b_neg at h
  rw [Int32.ofInt_toInt, ← e] at h
  exact h
def fx_b_i2b (x : Int) : Int := ((Int32.ofInt x).toInt8.toInt32).toInt
theorem fx_B_i2b {x : Int} {x2 v : Int32} {f : Int → α} (h : fx_eq Fv (fx_lt (fx_b_i2b x) f)) (ex : x2.toInt = x) (e : v = x2.toInt8.toInt32) : fx_eq Fv (f v.toInt) := by
  subst ex
  unfold fx_b_i2b at h
  rw [Int32.ofInt_toInt, ← e] at h
  exact h
theorem fx_P {a j j2 : Nat} {x : Int} {x2 : Int32} {f : fx_U → α} (h : fx_eq Fv (fx_ls (fx_pt (fx_N σ) a j x) f)) (e : σ1 = q_up σ a j2 (.int x2)) (hj : j2 = j) (hx : x2.toInt = x) : fx_eq Fv (f (fx_N σ1)) := by
  subst hj hx e
  rw [fx_N_up]
  exact h
theorem fx_PB {a j j2 : Nat} {x : Int} {x2 : Int32} {f : fx_U → α} (h : fx_eq Fv (fx_ls (fx_pt (fx_N σ) a j (fx_b_i2b x)) f)) (e : σ1 = q_up σ a j2 (.int x2.toInt8.toInt32)) (hj : j2 = j) (hx : x2.toInt = x) : fx_eq Fv (f (fx_N σ1)) := by
  subst hj hx e
  rw [fx_N_up]
  unfold fx_b_i2b at h
  rw [Int32.ofInt_toInt] at h
  exact h
theorem fx_PR {a j j2 b : Nat} {f : fx_U → α} (h : fx_eq Fv (fx_ls (fx_pt (fx_N σ) a j (b : Int)) f)) (e : σ1 = q_up σ a j2 (.ref b)) (hj : j2 = j) : fx_eq Fv (f (fx_N σ1)) := by
  subst hj e
  rw [fx_N_up]
  exact h
theorem fx_K {a0 a N : Nat} {f : fx_U → α} (h : fx_eq Fv (fx_ls (fx_cy (fx_N σ) a0 a N) f)) (e : σ1 = q_cp σ a0 a N) : fx_eq Fv (f (fx_N σ1)) := by
  subst e
  rw [fx_N_cp]
  exact h
theorem fx_C {g : Int × fx_U} {r : Int} {u1 : fx_U} {f : Int → fx_U → α} (h : fx_eq Fv (fx_lc g f)) (e : (r, u1) = g) : fx_eq Fv (f r u1) := by
  subst e
  exact h
theorem fx_S {g u1 : fx_U} {f : fx_U → α} (h : fx_eq Fv (fx_ls g f)) (e : u1 = g) : fx_eq Fv (f u1) := by
  subst e
  exact h
theorem fx_lt1 {x y x2 y2 : Int} {A B : α} (h : fx_eq Fv (if x < y then A else B)) (ex : x2 = x) (ey : y2 = y) (c : x2 < y2) : fx_eq Fv A := by
  subst ex ey
  rw [if_pos c] at h
  exact h
theorem fx_lt2 {x y x2 y2 : Int} {A B : α} (h : fx_eq Fv (if x < y then A else B)) (ex : x2 = x) (ey : y2 = y) (c : y2 ≤ x2) : fx_eq Fv B := by
  subst ex ey
  rw [if_neg (Int.not_lt.mpr c)] at h
  exact h
theorem fx_eq1 {x y x2 y2 : Int} {A B : α} (h : fx_eq Fv (if x = y then A else B)) (ex : x2 = x) (ey : y2 = y) (c : x2 = y2) : fx_eq Fv A := by
  subst ex ey
  rw [if_pos c] at h
  exact h
theorem fx_eq2 {x y x2 y2 : Int} {A B : α} (h : fx_eq Fv (if x = y then A else B)) (ex : x2 = x) (ey : y2 = y) (c : x2 ≠ y2) : fx_eq Fv B := by
  subst ex ey
  rw [if_neg c] at h
  exact h
theorem fx_inc {x n : Int} {x2 v : Int32} {f : Int → α} (h : fx_eq Fv (fx_lt (fx_b_add x n) f)) (ex : x2.toInt = x) (e : v = x2 + Int32.ofInt n) : fx_eq Fv (f v.toInt) := by
  subst ex
  unfold fx_b_add at h
  rw [Int32.ofInt_toInt, ← e] at h
  exact h
end Steps
/-- the reference's rows and its number of dots are as they were -/
def fx_kr (σ σ1 : q_V) (b : Nat) : Prop := ∀ j : Nat, (j < 192 ∨ j = 512) → σ1 b j = σ b j
section Kr
variable {σ σ1 σ2 : q_V} {τ : q_T} {b a k n k2 n2 j : Nat} {v : Value}
theorem fx_kr.rf : fx_kr σ σ b := fun _ _ => rfl
theorem fx_kr.T (h : fx_kr σ σ1 b) (h2 : fx_kr σ1 σ2 b) : fx_kr σ σ2 b := fun j hj => (h2 j hj).trans (h j hj)
theorem fx_kr.K (h : fx_kr σ σ1 b) (e : σ2 = q_up σ1 a j v) (hT : τ b = some (100, n)) (hA : τ a = some (k2, n2)) (hk : 100 ≠ k2) : fx_kr σ σ2 b := fun i hi => by
  rw [e, q_keepK hT hA hk]
  exact h i hi
theorem fx_kr.P {i : Int32} {lo hi : Int} (h : fx_kr σ σ1 b) (e : σ2 = q_up σ1 a i.toInt.toNat v) (r : q_r i lo hi) (hd : (192 ≤ lo ∧ hi < 512) ∨ 513 ≤ lo) : fx_kr σ σ2 b := fun x hx => by
  unfold q_r at r
  rw [e, q_up_else (Or.inr (by omega))]
  exact h x hx
theorem fx_kr.C {md : List (Nat × Nat)} (h : fx_kr σ σ1 b) (hS : q_S md τ σ1 σ2) (hT : τ b = some (100, n)) (hm : md.contains (100, 0) = false) : fx_kr σ σ2 b := fun i hi => by
  rw [hS.2.arr hT (by decide) hm]
  exact h i hi
end Kr
