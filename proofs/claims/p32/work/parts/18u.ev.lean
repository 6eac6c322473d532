/-! WHAT THE LAW COMES TO: the steps of an E and of a C, and how much of a stack they need -/
def zv_E (m : Nat) (L : List (Int × Int)) : Prop := ∀ P : Nat → List (Int × Int) → Prop, (∀ (m : Nat) (v : Int), 1 ≤ m → (0 ≤ v ∧ v < 1048576) → P m [(48, v)]) → (∀ (m : Nat) (x : Int), 1 ≤ m → zl_fo x ≠ -1 → P m [(105, x)]) → (∀ (m h k : Nat) (a b : List (Int × Int)) (c : Int), P h a → P k b → (c = 43 ∨ c = 45 ∨ c = 42 ∨ c = 47 ∨ c = 37) → h ≤ m → k + 1 ≤ m → P m (a ++ b ++ [(c, 0)])) → P m L
theorem zv_E.nu {m : Nat} (hm : 1 ≤ m) (v : Int) (h : 0 ≤ v ∧ v < 1048576) : zv_E m [(48, v)] := fun _ f1 _ _ => f1 m v hm h
theorem zv_E.fa {m : Nat} (hm : 1 ≤ m) (x : Int) (h : zl_fo x ≠ -1) : zv_E m [(105, x)] := fun _ _ f2 _ => f2 m x hm h
theorem zv_E.op {m h k : Nat} {a b : List (Int × Int)} {c : Int} (ha : zv_E h a) (hb : zv_E k b) (hc : c = 43 ∨ c = 45 ∨ c = 42 ∨ c = 47 ∨ c = 37) (h1 : h ≤ m) (h2 : k + 1 ≤ m) : zv_E m (a ++ b ++ [(c, 0)]) := fun P f1 f2 f3 => f3 m h k a b c (ha P f1 f2 f3) (hb P f1 f2 f3) hc h1 h2
def zv_C (L : List (Int × Int)) : Prop := ∀ P : List (Int × Int) → Prop, (∀ (h k : Nat) (a b : List (Int × Int)) (c : Int), zv_E h a → zv_E k b → (c = 60 ∨ c = 62 ∨ c = 61) → h ≤ 16 → k + 1 ≤ 16 → P (a ++ b ++ [(c, 0)])) → (∀ a : List (Int × Int), P a → P (a ++ [(33, 0)])) → (∀ (a b : List (Int × Int)) (c : Int), P a → P b → (c = 38 ∨ c = 124) → P (a ++ (c, (b.length : Int) + 1) :: b)) → P L
theorem zv_C.cm {h k : Nat} {a b : List (Int × Int)} {c : Int} (ha : zv_E h a) (hb : zv_E k b) (hc : c = 60 ∨ c = 62 ∨ c = 61) (h1 : h ≤ 16) (h2 : k + 1 ≤ 16) : zv_C (a ++ b ++ [(c, 0)]) := fun _ f1 _ _ => f1 h k a b c ha hb hc h1 h2
theorem zv_C.nt {a : List (Int × Int)} (ha : zv_C a) : zv_C (a ++ [(33, 0)]) := fun P f1 f2 f3 => f2 a (ha P f1 f2 f3)
theorem zv_C.jp {a b : List (Int × Int)} {c : Int} (ha : zv_C a) (hb : zv_C b) (hc : c = 38 ∨ c = 124) : zv_C (a ++ (c, (b.length : Int) + 1) :: b) := fun P f1 f2 f3 => f3 a b c (ha P f1 f2 f3) (hb P f1 f2 f3) hc
section Ev
variable {T : Nat → Int} {n : Int}
theorem zv_E.mono {h m : Nat} {a : List (Int × Int)} (k : zv_E h a) (hm : h ≤ m) : zv_E m a := by
  refine k (fun h a => ∀ m : Nat, h ≤ m → zv_E m a) ?_ ?_ ?_ m hm
  · intro h v h1 h2 m hm
    exact zv_E.nu (by omega) v h2
  · intro h x h1 h2 m hm
    exact zv_E.fa (by omega) x h2
  · intro h p q a b c ia ib hc h1 h2 m hm
    exact zv_E.op (ia p (Nat.le_refl p)) (ib q (Nat.le_refl q)) hc (by omega) (by omega)
theorem zv_p10 : ∀ f : Nat, (1 : Int) ≤ (10 : Int) ^ f
  | 0 => by
    rw [Int.pow_zero]
    exact Int.le_refl 1
  | f + 1 => by
    have h := zv_p10 f
    rw [Int.pow_succ]
    omega
theorem zv_num : ∀ (f : Nat) (b v p : Int), 0 ≤ v → v < b → b * (10 : Int) ^ f ≤ 1048576 → (zl_num T n f v p).1 = 0 → zv_E 1 (zl_num T n f v p).2.2 := by
  intro f
  induction f with
  | zero =>
    intro b v p h0 h1 h2 h3
    unfold zl_num at h3 ⊢
    by_cases g : 48 ≤ zz_pk T n p ∧ zz_pk T n p ≤ 57
    · rw [if_pos g] at h3
      exact absurd h3 (show ¬ ((2 : Int) = 0) by decide)
    · rw [if_neg g]
      have e : b * (10 : Int) ^ 0 = b := by
        rw [Int.pow_zero, Int.mul_one]
      exact zv_E.nu (Nat.le_refl 1) v ⟨h0, by omega⟩
  | succ f ih =>
    intro b v p h0 h1 h2 h3
    unfold zl_num at h3 ⊢
    by_cases g : 48 ≤ zz_pk T n p ∧ zz_pk T n p ≤ 57
    · rw [if_pos g] at h3 ⊢
      refine ih (b * 10) _ (p + 1) (by omega) (by omega) ?_ h3
      have e : b * 10 * (10 : Int) ^ f = b * (10 : Int) ^ (f + 1) := by
        rw [Int.pow_succ, Int.mul_assoc, Int.mul_comm 10]
      rw [e]
      exact h2
    · rw [if_neg g]
      refine zv_E.nu (Nat.le_refl 1) v ⟨h0, ?_⟩
      have p1 : (1 : Int) ≤ (10 : Int) ^ (f + 1) := zv_p10 (f + 1)
      have p2 : b * 1 ≤ b * (10 : Int) ^ (f + 1) := Int.mul_le_mul_of_nonneg_left p1 (by omega)
      omega
theorem zv_fac {F : Int → zl_O} {room : Bool} {h : Nat} (hh : 1 ≤ h) (hF : room = true → ∀ p, (F p).1 = 0 → zv_E h (F p).2.2) (p : Int) (e : (zl_fac T n F room p).1 = 0) : zv_E h (zl_fac T n F room p).2.2 := by
  unfold zl_fac at e ⊢
  by_cases g1 : zz_pk T n p = 91
  · rw [if_pos g1] at e ⊢
    by_cases r : room = true
    · rw [if_pos r] at e ⊢
      unfold zl_ex at e ⊢
      by_cases g2 : (F (p + 1)).1 = 0
      · rw [if_pos g2] at e ⊢
        by_cases g3 : zz_pk T n (F (p + 1)).2.1 = 93
        · rw [if_pos g3]
          exact hF r (p + 1) g2
        · rw [if_neg g3] at e
          exact absurd e (show ¬ ((1 : Int) = 0) by decide)
      · rw [if_neg g2] at e
        exact absurd e g2
    · rw [if_neg r] at e
      exact absurd e (show ¬ ((5 : Int) = 0) by decide)
  · rw [if_neg g1] at e ⊢
    by_cases g2 : 48 ≤ zz_pk T n p ∧ zz_pk T n p ≤ 57
    · rw [if_pos g2] at e ⊢
      exact (zv_num 5 1 0 p (by decide) (by decide) (by decide) e).mono hh
    · rw [if_neg g2] at e ⊢
      by_cases g3 : zl_fo (zz_pk T n p) = -1
      · rw [if_pos g3] at e
        exact absurd e (show ¬ ((1 : Int) = 0) by decide)
      · rw [if_neg g3]
        exact zv_E.fa hh _ g3
theorem zv_op {F : Int → zl_O} {h m : Nat} {o : zl_O} (hF : ∀ p, (F p).1 = 0 → zv_E h (F p).2.2) (hm : h + 1 ≤ m) (ho : o.1 = 0 → zv_E m o.2.2) (o0 : o.1 = 0) (hc : zz_pk T n o.2.1 = 43 ∨ zz_pk T n o.2.1 = 45 ∨ zz_pk T n o.2.1 = 42 ∨ zz_pk T n o.2.1 = 47 ∨ zz_pk T n o.2.1 = 37) : (zl_op T n F o).1 = 0 → zv_E m (zl_op T n F o).2.2 := by
  intro e
  unfold zl_op at e ⊢
  by_cases g : (F (o.2.1 + 1)).1 = 0
  · rw [if_pos g]
    exact zv_E.op (ho o0) (hF _ g) hc (Nat.le_refl m) hm
  · rw [if_neg g] at e
    exact absurd e g
theorem zv_tl {F : Int → zl_O} {h m : Nat} (hF : ∀ p, (F p).1 = 0 → zv_E h (F p).2.2) (hm : h + 1 ≤ m) : ∀ (f : Nat) (o : zl_O), (o.1 = 0 → zv_E m o.2.2) → (zl_tl T n F f o).1 = 0 → zv_E m (zl_tl T n F f o).2.2 := by
  intro f
  induction f with
  | zero => intro o h; exact h
  | succ f ih =>
    intro o ho
    unfold zl_tl
    by_cases g : o.1 = 0 ∧ (zz_pk T n o.2.1 = 42 ∨ zz_pk T n o.2.1 = 47 ∨ zz_pk T n o.2.1 = 37)
    · rw [if_pos g]
      exact ih _ (zv_op hF hm ho g.1 (by omega))
    · rw [if_neg g]
      exact ho
theorem zv_sl {F : Int → zl_O} {h m : Nat} (hF : ∀ p, (F p).1 = 0 → zv_E h (F p).2.2) (hm : h + 1 ≤ m) : ∀ (f : Nat) (o : zl_O), (o.1 = 0 → zv_E m o.2.2) → (zl_sl T n F f o).1 = 0 → zv_E m (zl_sl T n F f o).2.2 := by
  intro f
  induction f with
  | zero => intro o h; exact h
  | succ f ih =>
    intro o ho
    unfold zl_sl
    by_cases g : o.1 = 0 ∧ (zz_pk T n o.2.1 = 43 ∨ zz_pk T n o.2.1 = 45)
    · rw [if_pos g]
      exact ih _ (zv_op hF hm ho g.1 (by omega))
    · rw [if_neg g]
      exact ho
theorem zv_sum {F : Int → zl_O} {h : Nat} (hF : ∀ p, (F p).1 = 0 → zv_E h (F p).2.2) (p : Int) : (zl_sum T n F p).1 = 0 → zv_E (h + 2) (zl_sum T n F p).2.2 := by
  have t : ∀ p, (zl_term T n F p).1 = 0 → zv_E (h + 1) (zl_term T n F p).2.2 := fun p => zv_tl hF (Nat.le_refl _) 241 (F p) (fun e => (hF p e).mono (by omega))
  exact zv_sl t (Nat.le_refl _) 241 (zl_term T n F p) (fun e => (t p e).mono (by omega))
theorem zv_S : ∀ (d : Nat) (p : Int), (zl_S T n d p).1 = 0 → zv_E (2 * d + 3) (zl_S T n d p).2.2 := by
  intro d
  induction d with
  | zero => exact fun p => zv_sum (h := 1) (zv_fac (by decide) (fun z => absurd z (by decide))) p
  | succ d ih =>
    intro p e
    have z := zv_sum (h := 2 * d + 3) (zv_fac (by omega) (fun _ => ih)) p e
    exact z.mono (by omega)
theorem zv_jl {F : Int → zl_O} {c : Int} (hc : c = 38 ∨ c = 124) (hF : ∀ p, (F p).1 = 0 → zv_C (F p).2.2) : ∀ (f : Nat) (o : zl_O), (o.1 = 0 → zv_C o.2.2) → (zl_jl T n c F f o).1 = 0 → zv_C (zl_jl T n c F f o).2.2 := by
  intro f
  induction f with
  | zero => intro o h; exact h
  | succ f ih =>
    intro o ho
    unfold zl_jl
    by_cases g : o.1 = 0 ∧ zz_pk T n o.2.1 = c
    · rw [if_pos g]
      refine ih _ (fun e => ?_)
      unfold zl_jp at e ⊢
      by_cases q : (F (o.2.1 + 1)).1 = 0
      · rw [if_pos q]
        exact zv_C.jp (ho g.1) (hF _ q) (by omega)
      · rw [if_neg q] at e
        exact absurd e q
    · rw [if_neg g]
      exact ho
theorem zv_parts {F : Int → zl_O} (hF : ∀ p, (F p).1 = 0 → zv_C (F p).2.2) (p : Int) : (zl_parts T n F p).1 = 0 → zv_C (zl_parts T n F p).2.2 := by
  have t : ∀ p, (zl_part T n F p).1 = 0 → zv_C (zl_part T n F p).2.2 := fun p => zv_jl (Or.inl rfl) hF 241 (F p) (hF p)
  exact zv_jl (Or.inr rfl) t 241 (zl_part T n F p) (t p)
theorem zv_cm {d : Nat} (hd : d ≤ 6) (p : Int) (e : (zl_cm T n (zl_S T n d) p).1 = 0) : zv_C (zl_cm T n (zl_S T n d) p).2.2 := by
  unfold zl_cm at e ⊢
  by_cases g : (zl_S T n d p).1 = 0
  · rw [if_pos g] at e ⊢
    by_cases g2 : zz_pk T n (zl_S T n d p).2.1 = 60 ∨ zz_pk T n (zl_S T n d p).2.1 = 62 ∨ zz_pk T n (zl_S T n d p).2.1 = 61
    · rw [if_pos g2] at e ⊢
      unfold zl_op at e ⊢
      by_cases g3 : (zl_S T n d ((zl_S T n d p).2.1 + 1)).1 = 0
      · rw [if_pos g3]
        exact zv_C.cm (zv_S d p g) (zv_S d _ g3) g2 (by omega) (by omega)
      · rw [if_neg g3] at e
        exact absurd e g3
    · rw [if_neg g2] at e
      exact absurd e (show ¬ ((1 : Int) = 0) by decide)
  · rw [if_neg g] at e
    exact absurd e g
theorem zv_P : ∀ (d : Nat), d ≤ 6 → ∀ p : Int, (zl_P T n d p).1 = 0 → zv_C (zl_P T n d p).2.2 := by
  intro d
  induction d with
  | zero =>
    intro hd p e
    unfold zl_P zl_pc1 at e ⊢
    by_cases g1 : zz_pk T n p = 33
    · rw [if_pos g1, if_neg (by decide)] at e
      exact absurd e (show ¬ ((5 : Int) = 0) by decide)
    · rw [if_neg g1] at e ⊢
      by_cases g2 : zz_pk T n p = 40
      · rw [if_pos g2, if_neg (by decide)] at e
        exact absurd e (show ¬ ((5 : Int) = 0) by decide)
      · rw [if_neg g2] at e ⊢
        exact zv_cm hd p e
  | succ d ih =>
    intro hd p e
    have i := ih (by omega)
    have eP : zl_P T n (d + 1) p = zl_pc1 T n (zl_P T n d) (zl_parts T n (zl_P T n d)) (zl_S T n (d + 1)) true p := rfl
    rw [eP] at e ⊢
    unfold zl_pc1 at e ⊢
    by_cases g1 : zz_pk T n p = 33
    · rw [if_pos g1, if_pos rfl] at e ⊢
      unfold zl_nt at e ⊢
      by_cases g3 : (zl_P T n d (p + 1)).1 = 0
      · rw [if_pos g3]
        exact zv_C.nt (i (p + 1) g3)
      · rw [if_neg g3] at e
        exact absurd e g3
    · rw [if_neg g1] at e ⊢
      by_cases g2 : zz_pk T n p = 40
      · rw [if_pos g2, if_pos rfl] at e ⊢
        unfold zl_ex at e ⊢
        by_cases g3 : (zl_parts T n (zl_P T n d) (p + 1)).1 = 0
        · rw [if_pos g3] at e ⊢
          by_cases g4 : zz_pk T n (zl_parts T n (zl_P T n d) (p + 1)).2.1 = 41
          · rw [if_pos g4]
            exact zv_parts i (p + 1) g3
          · rw [if_neg g4] at e
            exact absurd e (show ¬ ((1 : Int) = 0) by decide)
        · rw [if_neg g3] at e
          exact absurd e g3
      · rw [if_neg g2] at e ⊢
        exact zv_cm hd p e
end Ev
