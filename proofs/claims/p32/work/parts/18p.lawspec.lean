/-! THE LAW'S TEXT: what both readers do, in our own words. A result: 0 or a fault's number, the place, the steps; a step is a sign and a value, a jump's value says how far -/
abbrev zl_O : Type := Int × Int × List (Int × Int)
def zl_fo (x : Int) : Int := (if x = 97 then 7 else (if x = 98 then (-1) else (if x = 99 then 6 else (if x = 100 then (-1) else (if x = 101 then (-1) else (if x = 102 then (-1) else (if x = 103 then (-1) else (if x = 104 then 3 else (if x = 105 then 0 else (if x = 106 then (-1) else (if x = 107 then 2 else (if x = 108 then (-1) else (if x = 109 then (-1) else (if x = 110 then 1 else (if x = 111 then (-1) else (if x = 112 then (-1) else (if x = 113 then (-1) else (if x = 114 then 8 else (if x = 115 then (-1) else (if x = 116 then 5 else (if x = 117 then (-1) else (if x = 118 then (-1) else (if x = 119 then 4 else (-1))))))))))))))))))))))))
def zl_num (T : Nat → Int) (n : Int) : Nat → Int → Int → zl_O
  | 0, v, p => if 48 ≤ zz_pk T n p ∧ zz_pk T n p ≤ 57 then (2, p, []) else (0, p, [(48, v)])
  | f + 1, v, p => if 48 ≤ zz_pk T n p ∧ zz_pk T n p ≤ 57 then zl_num T n f (v * 10 + zz_pk T n p - 48) (p + 1) else (0, p, [(48, v)])
/-- a sign that must stand there -/
def zl_ex (T : Nat → Int) (n c : Int) (o : zl_O) : zl_O := if o.1 = 0 then (if zz_pk T n o.2.1 = c then (0, o.2.1 + 1, o.2.2) else (1, o.2.1, [])) else o
def zl_fac (T : Nat → Int) (n : Int) (S : Int → zl_O) (room : Bool) (p : Int) : zl_O :=
  if zz_pk T n p = 91 then (if room then zl_ex T n 93 (S (p + 1)) else (5, p, []))
  else if 48 ≤ zz_pk T n p ∧ zz_pk T n p ≤ 57 then zl_num T n 5 0 p
  else if zl_fo (zz_pk T n p) = -1 then (1, p, []) else (0, p + 1, [(105, zz_pk T n p)])
/-- two with a sign between: the sign's step behind both -/
def zl_op (T : Nat → Int) (n : Int) (F : Int → zl_O) (o : zl_O) : zl_O := if (F (o.2.1 + 1)).1 = 0 then (0, (F (o.2.1 + 1)).2.1, o.2.2 ++ (F (o.2.1 + 1)).2.2 ++ [(zz_pk T n o.2.1, 0)]) else ((F (o.2.1 + 1)).1, (F (o.2.1 + 1)).2.1, [])
/-- two with a jump between -/
def zl_jp (T : Nat → Int) (n : Int) (F : Int → zl_O) (o : zl_O) : zl_O := if (F (o.2.1 + 1)).1 = 0 then (0, (F (o.2.1 + 1)).2.1, o.2.2 ++ (zz_pk T n o.2.1, ((F (o.2.1 + 1)).2.2.length : Int) + 1) :: (F (o.2.1 + 1)).2.2) else ((F (o.2.1 + 1)).1, (F (o.2.1 + 1)).2.1, [])
def zl_tl (T : Nat → Int) (n : Int) (F : Int → zl_O) : Nat → zl_O → zl_O
  | 0, o => o
  | f + 1, o => if o.1 = 0 ∧ (zz_pk T n o.2.1 = 42 ∨ zz_pk T n o.2.1 = 47 ∨ zz_pk T n o.2.1 = 37) then zl_tl T n F f (zl_op T n F o) else o
def zl_sl (T : Nat → Int) (n : Int) (F : Int → zl_O) : Nat → zl_O → zl_O
  | 0, o => o
  | f + 1, o => if o.1 = 0 ∧ (zz_pk T n o.2.1 = 43 ∨ zz_pk T n o.2.1 = 45) then zl_sl T n F f (zl_op T n F o) else o
def zl_jl (T : Nat → Int) (n c : Int) (F : Int → zl_O) : Nat → zl_O → zl_O
  | 0, o => o
  | f + 1, o => if o.1 = 0 ∧ zz_pk T n o.2.1 = c then zl_jl T n c F f (zl_jp T n F o) else o
def zl_term (T : Nat → Int) (n : Int) (F : Int → zl_O) (p : Int) : zl_O := zl_tl T n F 241 (F p)
def zl_sum (T : Nat → Int) (n : Int) (F : Int → zl_O) (p : Int) : zl_O := zl_sl T n (zl_term T n F) 241 (zl_term T n F p)
/-- an E: so many of ( [ ! may still be opened -/
def zl_S (T : Nat → Int) (n : Int) : Nat → Int → zl_O
  | 0 => zl_sum T n (zl_fac T n (fun p => (5, p, [])) false)
  | d + 1 => zl_sum T n (zl_fac T n (zl_S T n d) true)
def zl_part (T : Nat → Int) (n : Int) (P : Int → zl_O) (p : Int) : zl_O := zl_jl T n 38 P 241 (P p)
def zl_parts (T : Nat → Int) (n : Int) (P : Int → zl_O) (p : Int) : zl_O := zl_jl T n 124 (zl_part T n P) 241 (zl_part T n P p)
/-- two sums compared -/
def zl_cm (T : Nat → Int) (n : Int) (S : Int → zl_O) (p : Int) : zl_O := if (S p).1 = 0 then (if zz_pk T n (S p).2.1 = 60 ∨ zz_pk T n (S p).2.1 = 62 ∨ zz_pk T n (S p).2.1 = 61 then zl_op T n S (S p) else (1, (S p).2.1, [])) else ((S p).1, (S p).2.1, [])
def zl_nt (o : zl_O) : zl_O := if o.1 = 0 then (0, o.2.1, o.2.2 ++ [(33, 0)]) else o
def zl_pc1 (T : Nat → Int) (n : Int) (P Q S : Int → zl_O) (room : Bool) (p : Int) : zl_O :=
  if zz_pk T n p = 33 then (if room then zl_nt (P (p + 1)) else (5, p, []))
  else if zz_pk T n p = 40 then (if room then zl_ex T n 41 (Q (p + 1)) else (5, p, []))
  else zl_cm T n S p
/-- a PIECE -/
def zl_P (T : Nat → Int) (n : Int) : Nat → Int → zl_O
  | 0 => zl_pc1 T n (fun p => (5, p, [])) (fun p => (5, p, [])) (zl_S T n 0) false
  | d + 1 => zl_pc1 T n (zl_P T n d) (zl_parts T n (zl_P T n d)) (zl_S T n (d + 1)) true
/-! what a result is like: the place goes on, a place gives one step at most -/
def zl_g1 (n p : Int) (o : zl_O) : Prop := (p ≤ o.2.1 ∧ o.2.1 ≤ n) ∧ (o.1 = 0 → p < o.2.1 ∧ (o.2.2.length : Int) ≤ o.2.1 - p) ∧ (0 ≤ o.1 ∧ o.1 ≤ 5)
def zl_gd (n : Int) (F : Int → zl_O) : Prop := ∀ p, 0 ≤ p → p ≤ n → zl_g1 n p (F p)
section LawSpec
variable {T : Nat → Int} {n : Int} {F : Int → zl_O}
theorem zl_num_g : ∀ (f : Nat) (v p q : Int), q ≤ p → p ≤ n → (q < p ∨ (48 ≤ zz_pk T n p ∧ zz_pk T n p ≤ 57 ∧ 0 < f)) → zl_g1 n q (zl_num T n f v p) := by
  intro f
  induction f with
  | zero =>
    intro v p q h1 h2 h3
    unfold zl_num
    by_cases g : 48 ≤ zz_pk T n p ∧ zz_pk T n p ≤ 57
    · rw [if_pos g]
      exact ⟨⟨h1, h2⟩, fun z => absurd z (by first | decide | (dsimp only; decide) | (dsimp only)), by first | decide | (dsimp only; decide) | (dsimp only)⟩
    · rw [if_neg g]
      refine ⟨⟨h1, h2⟩, fun _ => ⟨?_, ?_⟩, by first | decide | (dsimp only; decide) | (dsimp only)⟩
      · show q < p
        omega
      · show (1 : Int) ≤ p - q
        omega
  | succ f ih =>
    intro v p q h1 h2 h3
    unfold zl_num
    by_cases g : 48 ≤ zz_pk T n p ∧ zz_pk T n p ≤ 57
    · have hp := zz_pk_lt (T := T) (n := n) (p := p) (by omega)
      rw [if_pos g]
      exact ih _ (p + 1) q (by omega) (by omega) (Or.inl (by omega))
    · rw [if_neg g]
      refine ⟨⟨h1, h2⟩, fun _ => ⟨?_, ?_⟩, by first | decide | (dsimp only; decide) | (dsimp only)⟩
      · show q < p
        omega
      · show (1 : Int) ≤ p - q
        omega
theorem zl_fac_g {room : Bool} (h : room = true → zl_gd n F) : zl_gd n (zl_fac T n F room) := by
  intro p h0 h1
  unfold zl_fac
  by_cases g1 : zz_pk T n p = 91
  · have hp := zz_pk_lt (T := T) (n := n) (p := p) (by omega)
    rw [if_pos g1]
    by_cases r : room = true
    · obtain ⟨⟨a1, a2⟩, a3, a4⟩ := h r (p + 1) (by omega) (by omega)
      rw [if_pos r]
      unfold zl_ex
      by_cases g2 : (F (p + 1)).1 = 0
      · obtain ⟨b1, b2⟩ := a3 g2
        rw [if_pos g2]
        by_cases g3 : zz_pk T n (F (p + 1)).2.1 = 93
        · have hq := zz_pk_lt (T := T) (n := n) (p := (F (p + 1)).2.1) (by omega)
          rw [if_pos g3]
          refine ⟨⟨?_, ?_⟩, fun _ => ⟨?_, ?_⟩, by first | decide | (dsimp only; decide) | (dsimp only)⟩
          · show p ≤ (F (p + 1)).2.1 + 1
            omega
          · show (F (p + 1)).2.1 + 1 ≤ n
            omega
          · show p < (F (p + 1)).2.1 + 1
            omega
          · show ((F (p + 1)).2.2.length : Int) ≤ (F (p + 1)).2.1 + 1 - p
            omega
        · rw [if_neg g3]
          refine ⟨⟨?_, ?_⟩, fun z => absurd z (by first | decide | (dsimp only; decide) | (dsimp only)), by first | decide | (dsimp only; decide) | (dsimp only)⟩
          · show p ≤ (F (p + 1)).2.1
            omega
          · show (F (p + 1)).2.1 ≤ n
            omega
      · rw [if_neg g2]
        exact ⟨⟨by omega, a2⟩, fun z => absurd z g2, a4⟩
    · rw [if_neg r]
      exact ⟨⟨Int.le_refl p, h1⟩, fun z => absurd z (by first | decide | (dsimp only; decide) | (dsimp only)), by first | decide | (dsimp only; decide) | (dsimp only)⟩
  · rw [if_neg g1]
    by_cases g2 : 48 ≤ zz_pk T n p ∧ zz_pk T n p ≤ 57
    · rw [if_pos g2]
      exact zl_num_g 5 0 p p (Int.le_refl p) h1 (Or.inr ⟨g2.1, g2.2, by first | decide | (dsimp only; decide) | (dsimp only)⟩)
    · rw [if_neg g2]
      by_cases g3 : zl_fo (zz_pk T n p) = -1
      · rw [if_pos g3]
        exact ⟨⟨Int.le_refl p, h1⟩, fun z => absurd z (by first | decide | (dsimp only; decide) | (dsimp only)), by first | decide | (dsimp only; decide) | (dsimp only)⟩
      · have hp := zz_pk_lt (T := T) (n := n) (p := p) (fun z => g3 (by rw [z]; decide))
        rw [if_neg g3]
        refine ⟨⟨?_, ?_⟩, fun _ => ⟨?_, ?_⟩, by first | decide | (dsimp only; decide) | (dsimp only)⟩
        · show p ≤ p + 1
          omega
        · show p + 1 ≤ n
          omega
        · show p < p + 1
          omega
        · show (1 : Int) ≤ p + 1 - p
          omega
theorem zl_op_g {o : zl_O} {p : Int} (h : zl_gd n F) (h0 : 0 ≤ p) (ho : zl_g1 n p o) (h1 : o.1 = 0) (h2 : zz_pk T n o.2.1 ≠ -1) : zl_g1 n p (zl_op T n F o) ∧ o.2.1 + 1 ≤ (zl_op T n F o).2.1 := by
  have hp := zz_pk_lt h2
  obtain ⟨⟨a1, a2⟩, a3, a4⟩ := ho
  obtain ⟨b1, b2⟩ := a3 h1
  obtain ⟨⟨c1, c2⟩, c3, c4⟩ := h (o.2.1 + 1) (by omega) (by omega)
  unfold zl_op
  by_cases g : (F (o.2.1 + 1)).1 = 0
  · obtain ⟨d1, d2⟩ := c3 g
    rw [if_pos g]
    refine ⟨⟨⟨?_, c2⟩, fun _ => ⟨?_, ?_⟩, by first | decide | (dsimp only; decide) | (dsimp only)⟩, c1⟩
    · show p ≤ (F (o.2.1 + 1)).2.1
      omega
    · show p < (F (o.2.1 + 1)).2.1
      omega
    · show ((o.2.2 ++ (F (o.2.1 + 1)).2.2 ++ [(zz_pk T n o.2.1, 0)]).length : Int) ≤ (F (o.2.1 + 1)).2.1 - p
      rw [List.length_append, List.length_append]
      show ((o.2.2.length + (F (o.2.1 + 1)).2.2.length + 1 : Nat) : Int) ≤ (F (o.2.1 + 1)).2.1 - p
      omega
  · rw [if_neg g]
    refine ⟨⟨⟨?_, c2⟩, fun z => absurd z g, c4⟩, c1⟩
    show p ≤ (F (o.2.1 + 1)).2.1
    omega
theorem zl_jp_g {o : zl_O} {p : Int} (h : zl_gd n F) (h0 : 0 ≤ p) (ho : zl_g1 n p o) (h1 : o.1 = 0) (h2 : zz_pk T n o.2.1 ≠ -1) : zl_g1 n p (zl_jp T n F o) ∧ o.2.1 + 1 ≤ (zl_jp T n F o).2.1 := by
  have hp := zz_pk_lt h2
  obtain ⟨⟨a1, a2⟩, a3, a4⟩ := ho
  obtain ⟨b1, b2⟩ := a3 h1
  obtain ⟨⟨c1, c2⟩, c3, c4⟩ := h (o.2.1 + 1) (by omega) (by omega)
  unfold zl_jp
  by_cases g : (F (o.2.1 + 1)).1 = 0
  · obtain ⟨d1, d2⟩ := c3 g
    rw [if_pos g]
    refine ⟨⟨⟨?_, c2⟩, fun _ => ⟨?_, ?_⟩, by first | decide | (dsimp only; decide) | (dsimp only)⟩, c1⟩
    · show p ≤ (F (o.2.1 + 1)).2.1
      omega
    · show p < (F (o.2.1 + 1)).2.1
      omega
    · show ((o.2.2 ++ (zz_pk T n o.2.1, ((F (o.2.1 + 1)).2.2.length : Int) + 1) :: (F (o.2.1 + 1)).2.2).length : Int) ≤ (F (o.2.1 + 1)).2.1 - p
      rw [List.length_append, List.length_cons]
      omega
  · rw [if_neg g]
    refine ⟨⟨⟨?_, c2⟩, fun z => absurd z g, c4⟩, c1⟩
    show p ≤ (F (o.2.1 + 1)).2.1
    omega
theorem zl_tl_g {p : Int} (h : zl_gd n F) (h0 : 0 ≤ p) : ∀ (f : Nat) (o : zl_O), zl_g1 n p o → zl_g1 n p (zl_tl T n F f o) := by
  intro f
  induction f with
  | zero => intro o ho; exact ho
  | succ f ih =>
    intro o ho
    unfold zl_tl
    by_cases g : o.1 = 0 ∧ (zz_pk T n o.2.1 = 42 ∨ zz_pk T n o.2.1 = 47 ∨ zz_pk T n o.2.1 = 37)
    · rw [if_pos g]
      exact ih _ (zl_op_g h h0 ho g.1 (by omega)).1
    · rw [if_neg g]
      exact ho
theorem zl_sl_g {p : Int} (h : zl_gd n F) (h0 : 0 ≤ p) : ∀ (f : Nat) (o : zl_O), zl_g1 n p o → zl_g1 n p (zl_sl T n F f o) := by
  intro f
  induction f with
  | zero => intro o ho; exact ho
  | succ f ih =>
    intro o ho
    unfold zl_sl
    by_cases g : o.1 = 0 ∧ (zz_pk T n o.2.1 = 43 ∨ zz_pk T n o.2.1 = 45)
    · rw [if_pos g]
      exact ih _ (zl_op_g h h0 ho g.1 (by omega)).1
    · rw [if_neg g]
      exact ho
theorem zl_jl_g {p c : Int} (hc : c ≠ -1) (h : zl_gd n F) (h0 : 0 ≤ p) : ∀ (f : Nat) (o : zl_O), zl_g1 n p o → zl_g1 n p (zl_jl T n c F f o) := by
  intro f
  induction f with
  | zero => intro o ho; exact ho
  | succ f ih =>
    intro o ho
    unfold zl_jl
    by_cases g : o.1 = 0 ∧ zz_pk T n o.2.1 = c
    · rw [if_pos g]
      exact ih _ (zl_jp_g h h0 ho g.1 (by omega)).1
    · rw [if_neg g]
      exact ho
theorem zl_term_g (h : zl_gd n F) : zl_gd n (zl_term T n F) := fun p h0 h1 => zl_tl_g h h0 241 _ (h p h0 h1)
theorem zl_sum_g (h : zl_gd n F) : zl_gd n (zl_sum T n F) := fun p h0 h1 => zl_sl_g (zl_term_g h) h0 241 _ (zl_term_g h p h0 h1)
theorem zl_S_g : ∀ d : Nat, zl_gd n (zl_S T n d) := by
  intro d
  induction d with
  | zero => exact zl_sum_g (zl_fac_g (fun z => absurd z (by first | decide | (dsimp only; decide) | (dsimp only))))
  | succ d ih => exact zl_sum_g (zl_fac_g (fun _ => ih))
theorem zl_part_g (h : zl_gd n F) : zl_gd n (zl_part T n F) := fun p h0 h1 => zl_jl_g (by decide) h h0 241 _ (h p h0 h1)
theorem zl_parts_g (h : zl_gd n F) : zl_gd n (zl_parts T n F) := fun p h0 h1 => zl_jl_g (by decide) (zl_part_g h) h0 241 _ (zl_part_g h p h0 h1)
theorem zl_cm_g (h : zl_gd n F) : zl_gd n (zl_cm T n F) := by
  intro p h0 h1
  have a := h p h0 h1
  unfold zl_cm
  by_cases g : (F p).1 = 0
  · rw [if_pos g]
    by_cases g2 : zz_pk T n (F p).2.1 = 60 ∨ zz_pk T n (F p).2.1 = 62 ∨ zz_pk T n (F p).2.1 = 61
    · rw [if_pos g2]
      exact (zl_op_g h h0 a g (by omega)).1
    · rw [if_neg g2]
      exact ⟨a.1, fun z => absurd z (by first | decide | (dsimp only; decide) | (dsimp only)), by first | decide | (dsimp only; decide) | (dsimp only)⟩
  · rw [if_neg g]
    exact ⟨a.1, fun z => absurd z g, a.2.2⟩
theorem zl_pc1_g {P Q : Int → zl_O} {room : Bool} (hP : room = true → zl_gd n P) (hQ : room = true → zl_gd n Q) (h : zl_gd n F) : zl_gd n (zl_pc1 T n P Q F room) := by
  intro p h0 h1
  unfold zl_pc1
  by_cases g1 : zz_pk T n p = 33
  · have hp := zz_pk_lt (T := T) (n := n) (p := p) (by omega)
    rw [if_pos g1]
    by_cases r : room = true
    · obtain ⟨⟨a1, a2⟩, a3, a4⟩ := hP r (p + 1) (by omega) (by omega)
      rw [if_pos r]
      unfold zl_nt
      by_cases g2 : (P (p + 1)).1 = 0
      · obtain ⟨b1, b2⟩ := a3 g2
        rw [if_pos g2]
        refine ⟨⟨?_, a2⟩, fun _ => ⟨?_, ?_⟩, by first | decide | (dsimp only; decide) | (dsimp only)⟩
        · show p ≤ (P (p + 1)).2.1
          omega
        · show p < (P (p + 1)).2.1
          omega
        · show (((P (p + 1)).2.2 ++ [(33, 0)]).length : Int) ≤ (P (p + 1)).2.1 - p
          rw [List.length_append]
          show (((P (p + 1)).2.2.length + 1 : Nat) : Int) ≤ (P (p + 1)).2.1 - p
          omega
      · rw [if_neg g2]
        exact ⟨⟨by omega, a2⟩, fun z => absurd z g2, a4⟩
    · rw [if_neg r]
      exact ⟨⟨Int.le_refl p, h1⟩, fun z => absurd z (by first | decide | (dsimp only; decide) | (dsimp only)), by first | decide | (dsimp only; decide) | (dsimp only)⟩
  · rw [if_neg g1]
    by_cases g2 : zz_pk T n p = 40
    · have hp := zz_pk_lt (T := T) (n := n) (p := p) (by omega)
      rw [if_pos g2]
      by_cases r : room = true
      · obtain ⟨⟨a1, a2⟩, a3, a4⟩ := hQ r (p + 1) (by omega) (by omega)
        rw [if_pos r]
        unfold zl_ex
        by_cases g3 : (Q (p + 1)).1 = 0
        · obtain ⟨b1, b2⟩ := a3 g3
          rw [if_pos g3]
          by_cases g4 : zz_pk T n (Q (p + 1)).2.1 = 41
          · have hq := zz_pk_lt (T := T) (n := n) (p := (Q (p + 1)).2.1) (by omega)
            rw [if_pos g4]
            refine ⟨⟨?_, ?_⟩, fun _ => ⟨?_, ?_⟩, by first | decide | (dsimp only; decide) | (dsimp only)⟩
            · show p ≤ (Q (p + 1)).2.1 + 1
              omega
            · show (Q (p + 1)).2.1 + 1 ≤ n
              omega
            · show p < (Q (p + 1)).2.1 + 1
              omega
            · show ((Q (p + 1)).2.2.length : Int) ≤ (Q (p + 1)).2.1 + 1 - p
              omega
          · rw [if_neg g4]
            refine ⟨⟨?_, a2⟩, fun z => absurd z (by first | decide | (dsimp only; decide) | (dsimp only)), by first | decide | (dsimp only; decide) | (dsimp only)⟩
            show p ≤ (Q (p + 1)).2.1
            omega
        · rw [if_neg g3]
          exact ⟨⟨by omega, a2⟩, fun z => absurd z g3, a4⟩
      · rw [if_neg r]
        exact ⟨⟨Int.le_refl p, h1⟩, fun z => absurd z (by first | decide | (dsimp only; decide) | (dsimp only)), by first | decide | (dsimp only; decide) | (dsimp only)⟩
    · rw [if_neg g2]
      exact zl_cm_g h p h0 h1
theorem zl_P_g : ∀ d : Nat, zl_gd n (zl_P T n d) := by
  intro d
  induction d with
  | zero => exact zl_pc1_g (fun z => absurd z (by first | decide | (dsimp only; decide) | (dsimp only))) (fun z => absurd z (by first | decide | (dsimp only; decide) | (dsimp only))) (zl_S_g 0)
  | succ d ih => exact zl_pc1_g (fun _ => ih) (fun _ => zl_parts_g ih) (zl_S_g (d + 1))
end LawSpec
