/-! THE LAW'S TEXT in the class -/
def zl_C (T : Nat → Int) (q la sg vl ta : Nat) (n p s : Int) (u : fx_U) : Prop := (u q 0 = (ta : Int) ∧ u q 1 = n ∧ u q 4 = (la : Int) ∧ u la 3 = (sg : Int) ∧ u la 4 = (vl : Int)) ∧ u q 2 = p ∧ u la 1 = s ∧ ∀ i : Nat, (i : Int) < n → u ta i = T i
def zl_ap (q la sg vl ta : Nat) : Prop := (ta ≠ q ∧ ta ≠ la ∧ ta ≠ sg ∧ ta ≠ vl) ∧ (q ≠ la ∧ q ≠ sg ∧ q ≠ vl) ∧ (la ≠ q ∧ la ≠ sg ∧ la ≠ vl) ∧ (sg ≠ q ∧ sg ≠ la ∧ sg ≠ vl) ∧ (vl ≠ q ∧ vl ≠ la ∧ vl ≠ sg)
/-- what lies elsewhere is as it was -/
def zl_el (q la sg vl : Nat) (u u1 : fx_U) : Prop := (∀ b : Nat, b ≠ q → b ≠ la → b ≠ sg → b ≠ vl → ∀ i : Nat, u1 b i = u b i) ∧ (∀ j : Nat, j ≠ 1 → j ≠ 2 → u1 la j = u la j) ∧ ∀ j : Nat, j ≠ 2 → j ≠ 3 → u1 q j = u q j
/-- the steps ahead of one are as they were -/
def zl_st (sg vl : Nat) (s : Int) (u u1 : fx_U) : Prop := ∀ i : Nat, (i : Int) < s → u1 sg i = u sg i ∧ u1 vl i = u vl i
def zl_v (i : Int) (c : Int × Int) : Int := if c.1 = 38 ∨ c.1 = 124 then i + c.2 else c.2
def zl_cd (sg vl : Nat) (u : fx_U) : Int → List (Int × Int) → Prop
  | _, [] => True
  | s, c :: cs => (u sg s.toNat = c.1 ∧ u vl s.toNat = zl_v s c) ∧ zl_cd sg vl u (s + 1) cs
/-- whether t stands in it -/
def zl_am : List (Int × Int) → Int → Int
  | [], x => x
  | c :: cs, x => zl_am cs (if c = (105, 116) then 1 else x)
theorem zl_am_app : ∀ (a b : List (Int × Int)) (x : Int), zl_am (a ++ b) x = zl_am b (zl_am a x)
  | [], _, _ => rfl
  | c :: cs, b, x => zl_am_app cs b (if c = (105, 116) then 1 else x)
theorem zl_cd_app {sg vl : Nat} {u : fx_U} : ∀ (a b : List (Int × Int)) (s : Int), zl_cd sg vl u s a → zl_cd sg vl u (s + (a.length : Int)) b → zl_cd sg vl u s (a ++ b)
  | [], b, s, _, h => by
    have e : s + (([] : List (Int × Int)).length : Int) = s := by
      show s + ((0 : Nat) : Int) = s
      omega
    rw [e] at h
    exact h
  | c :: cs, b, s, h, h2 => by
    have e : s + ((c :: cs).length : Int) = s + 1 + (cs.length : Int) := by
      rw [List.length_cons]
      omega
    rw [e] at h2
    exact ⟨h.1, zl_cd_app cs b (s + 1) h.2 h2⟩
theorem zl_cd_keep {sg vl : Nat} {u u1 : fx_U} {e : Int} (k : zl_st sg vl e u u1) : ∀ (a : List (Int × Int)) (s : Int), 0 ≤ s → s + (a.length : Int) ≤ e → zl_cd sg vl u s a → zl_cd sg vl u1 s a
  | [], _, _, _, _ => True.intro
  | c :: cs, s, h0, h1, h => by
    rw [List.length_cons] at h1
    obtain ⟨k1, k2⟩ := k s.toNat (by omega)
    refine ⟨⟨k1.trans h.1.1, k2.trans h.1.2⟩, zl_cd_keep k cs (s + 1) (by omega) (by omega) h.2⟩
/-- a method of the reader answers as the words say -/
def zl_R (q la sg vl : Nat) (s : Int) (u : fx_U) (o : zl_O) (x : Int × fx_U) : Prop :=
  zl_el q la sg vl u x.2 ∧ ((o.1 = 0 ∧ x.1 = 1 ∧ (x.2 q 2 = o.2.1 ∧ x.2 la 1 = s + (o.2.2.length : Int)) ∧ zl_st sg vl s u x.2 ∧ zl_cd sg vl x.2 s o.2.2 ∧ x.2 la 2 = zl_am o.2.2 (u la 2) ∧ x.2 q 3 = u q 3) ∨ (o.1 ≠ 0 ∧ x.1 = 0 ∧ x.2 q 3 = zz_ft o.1 o.2.1))
def zl_ok (T : Nat → Int) (q la sg vl ta : Nat) (n : Int) (G : fx_U → Int × fx_U) (g : Int → zl_O) : Prop := ∀ (u : fx_U) (p s : Int), zl_C T q la sg vl ta n p s u → 0 ≤ p → p ≤ n → 0 ≤ s → s ≤ p → zl_R q la sg vl s u (g p) (G u)
section LawC
variable {T : Nat → Int} {q la sg vl ta : Nat} {n p s : Int} {u u1 u2 : fx_U}
theorem zl_el.rf : zl_el q la sg vl u u := ⟨fun _ _ _ _ _ _ => rfl, fun _ _ _ => rfl, fun _ _ _ => rfl⟩
theorem zl_el.tr (h : zl_el q la sg vl u u1) (k : zl_el q la sg vl u1 u2) : zl_el q la sg vl u u2 := ⟨fun b h1 h2 h3 h4 i => (k.1 b h1 h2 h3 h4 i).trans (h.1 b h1 h2 h3 h4 i), fun j h1 h2 => (k.2.1 j h1 h2).trans (h.2.1 j h1 h2), fun j h1 h2 => (k.2.2 j h1 h2).trans (h.2.2 j h1 h2)⟩
theorem zl_el.pq (ha : zl_ap q la sg vl ta) {j : Nat} {x : Int} (hj : j = 2 ∨ j = 3) : zl_el q la sg vl u (fx_pt u q j x) := ⟨fun b h1 _ _ _ i => zz_pa h1, fun i _ _ => zz_pa ha.2.2.1.1, fun i h1 h2 => zz_pj (by omega)⟩
theorem zl_C.mv (ha : zl_ap q la sg vl ta) {p2 s2 : Int} (h : zl_C T q la sg vl ta n p s u) (k : zl_el q la sg vl u u1) (h1 : u1 q 2 = p2) (h2 : u1 la 1 = s2) : zl_C T q la sg vl ta n p2 s2 u1 := by
  obtain ⟨⟨a1, a2, a3, a4, a5⟩, -, -, a8⟩ := h
  obtain ⟨k1, k2, k3⟩ := k
  exact ⟨⟨(k3 0 (by decide) (by decide)).trans a1, (k3 1 (by decide) (by decide)).trans a2, (k3 4 (by decide) (by decide)).trans a3, (k2 3 (by decide) (by decide)).trans a4, (k2 4 (by decide) (by decide)).trans a5⟩, h1, h2, fun i hi => (k1 ta ha.1.1 ha.1.2.1 ha.1.2.2.1 ha.1.2.2.2 i).trans (a8 i hi)⟩
theorem zl_peek (h : zl_C T q la sg vl ta n p s u) (h0 : 0 ≤ p) : f_X4_peek u q = zz_pk T n p := by
  obtain ⟨⟨h1, h2, -, -, -⟩, h3, -, h4⟩ := h
  unfold f_X4_peek zz_pk
  simp only [fz_lt, fz_lr, h1, h2, h3, Int.toNat_natCast]
  rw [if_neg (by omega)]
  by_cases k : p < n
  · rw [if_pos k, if_pos k]
    exact h4 p.toNat (by omega)
  · rw [if_neg k, if_neg k]
theorem zl_fail {k : Int} (h : u q 2 = p) : f_X4_fail u q k = (0, fx_pt u q 3 (zz_ft k p)) := by
  unfold f_X4_fail zz_ft
  simp only [fz_lt, fz_ls, h]
theorem zl_bad (ha : zl_ap q la sg vl ta) {k : Int} {c : List (Int × Int)} (hk : k ≠ 0) : zl_R q la sg vl s u (k, p, c) (0, fx_pt u q 3 (zz_ft k p)) := ⟨zl_el.pq ha (Or.inr rfl), Or.inr ⟨hk, rfl, zz_ps⟩⟩
theorem zl_one (h : u q 2 = p) (h0 : 0 ≤ p ∧ p ≤ 1000) : fx_b_add (u q 2) 1 = p + 1 := by
  rw [h]
  exact zz_wadd (zz_sml ⟨by omega, by omega⟩) (zz_sml ⟨by decide, by decide⟩) (zz_sml ⟨by omega, by omega⟩)
/-- a step more -/
theorem zl_add (ha : zl_ap q la sg vl ta) {a b : Int} (h3 : u la 3 = (sg : Int)) (h4 : u la 4 = (vl : Int)) (h1 : u la 1 = s) (hs : 0 ≤ s ∧ s < 240) : ∃ w : fx_U, f_X3_add u la a b = (s, w) ∧ zl_el q la sg vl u w ∧ (∀ j, w q j = u q j) ∧ w la 1 = s + 1 ∧ zl_st sg vl s u w ∧ w sg s.toNat = a ∧ w vl s.toNat = b ∧ w la 2 = if (a, b) = ((105, 116) : Int × Int) then 1 else u la 2 := by
  obtain ⟨-, ⟨q1, q2, q3⟩, ⟨l1, l2, l3⟩, ⟨g1, g2, g3⟩, v1, v2, v3⟩ := ha
  have key : ∀ (z : fx_U), zl_el q la sg vl u z → (∀ j, z q j = u q j) → (∀ i, z sg i = u sg i) → (∀ i, z vl i = u vl i) → z la 2 = (if (a, b) = ((105, 116) : Int × Int) then 1 else u la 2) → ∃ w : fx_U, kJ_X3_add_29 la s a b z = (s, w) ∧ zl_el q la sg vl u w ∧ (∀ j, w q j = u q j) ∧ w la 1 = s + 1 ∧ zl_st sg vl s u w ∧ w sg s.toNat = a ∧ w vl s.toNat = b ∧ w la 2 = if (a, b) = ((105, 116) : Int × Int) then 1 else u la 2 := by
    intro z e1 e2 e3 e4 e5
    have z3 : z la 3 = (sg : Int) := (e1.2.1 3 (by decide) (by decide)).trans h3
    have z4 : fx_pt z sg s.toNat a la 4 = (vl : Int) := by
      rw [zz_pa l2]
      exact (e1.2.1 4 (by decide) (by decide)).trans h4
    unfold kJ_X3_add_29
    simp only [fz_lt, fz_lr, fz_ls, z3, z4, Int.toNat_natCast]
    rw [show s + 1 - 1 = s by omega]
    refine ⟨_, rfl, e1.tr ⟨fun c h1 h2 h3 h4 i => ?_, fun j h1 h2 => ?_, fun j h1 h2 => ?_⟩, fun j => ?_, zz_ps, fun i hi => ⟨?_, ?_⟩, ?_, ?_, ?_⟩
    · rw [zz_pa h2, zz_pa h4, zz_pa h3]
    · rw [zz_pj h1, zz_pa l3, zz_pa l2]
    · rw [zz_pa q1, zz_pa q3, zz_pa q2]
    · rw [zz_pa q1, zz_pa q3, zz_pa q2]
      exact e2 j
    · rw [zz_pa g2, zz_pa g3, zz_pj (by omega)]
      exact e3 i
    · rw [zz_pa v2, zz_pj (by omega), zz_pa v3]
      exact e4 i
    · rw [zz_pa g2, zz_pa g3, zz_ps]
    · rw [zz_pa v2, zz_ps]
    · rw [zz_pj (by decide), zz_pa l3, zz_pa l2]
      exact e5
  unfold f_X3_add
  simp only [fz_lt, fz_ls, h1]
  rw [if_pos hs.2]
  by_cases c1 : a = 105
  · by_cases c2 : b = 116
    · rw [if_pos c1, if_pos c2]
      refine key _ ⟨fun c _ h2 _ _ i => zz_pa h2, fun j _ h2 => zz_pj h2, fun j _ _ => zz_pa q1⟩ (fun j => zz_pa q1) (fun i => zz_pa g2) (fun i => zz_pa v2) ?_
      rw [if_pos (by rw [c1, c2])]
      exact zz_ps
    · rw [if_pos c1, if_neg c2]
      exact key u zl_el.rf (fun _ => rfl) (fun _ => rfl) (fun _ => rfl) (by rw [if_neg (fun z => c2 (congrArg Prod.snd z))])
  · rw [if_neg c1]
    exact key u zl_el.rf (fun _ => rfl) (fun _ => rfl) (fun _ => rfl) (by rw [if_neg (fun z => c1 (congrArg Prod.fst z))])
/-- a step more, wherever one is -/
theorem zl_add_el (ha : zl_ap q la sg vl ta) {a b : Int} (h3 : u la 3 = (sg : Int)) (h4 : u la 4 = (vl : Int)) : zl_el q la sg vl u (f_X3_add u la a b).2 ∧ ∀ j, (f_X3_add u la a b).2 q j = u q j := by
  obtain ⟨-, ⟨q1, q2, q3⟩, ⟨l1, l2, l3⟩, ⟨g1, g2, g3⟩, v1, v2, v3⟩ := ha
  have key : ∀ (z : fx_U) (r : Int), zl_el q la sg vl u z → (∀ j, z q j = u q j) → zl_el q la sg vl u (kJ_X3_add_29 la r a b z).2 ∧ ∀ j, (kJ_X3_add_29 la r a b z).2 q j = u q j := by
    intro z r e1 e2
    have z3 : z la 3 = (sg : Int) := (e1.2.1 3 (by decide) (by decide)).trans h3
    have z4 : fx_pt z sg r.toNat a la 4 = (vl : Int) := by
      rw [zz_pa l2]
      exact (e1.2.1 4 (by decide) (by decide)).trans h4
    unfold kJ_X3_add_29
    simp only [fz_lt, fz_lr, fz_ls, z3, z4, Int.toNat_natCast]
    refine ⟨e1.tr ⟨fun c h1 h2 h3 h4 i => ?_, fun j h1 h2 => ?_, fun j h1 h2 => ?_⟩, fun j => ?_⟩
    · rw [zz_pa h2, zz_pa h4, zz_pa h3]
    · rw [zz_pj h1, zz_pa l3, zz_pa l2]
    · rw [zz_pa q1, zz_pa q3, zz_pa q2]
    · rw [zz_pa q1, zz_pa q3, zz_pa q2]
      exact e2 j
  unfold f_X3_add
  simp only [fz_lt, fz_ls]
  by_cases c0 : u la 1 < 240
  · rw [if_pos c0]
    by_cases c1 : a = 105
    · by_cases c2 : b = 116
      · rw [if_pos c1, if_pos c2]
        exact key _ _ ⟨fun c _ h2 _ _ i => zz_pa h2, fun j _ h2 => zz_pj h2, fun j _ _ => zz_pa q1⟩ (fun j => zz_pa q1)
      · rw [if_pos c1, if_neg c2]
        exact key u _ zl_el.rf (fun _ => rfl)
    · rw [if_neg c1]
      exact key u _ zl_el.rf (fun _ => rfl)
  · rw [if_neg c0]
    exact ⟨zl_el.rf, fun _ => rfl⟩
theorem zl_expect (ha : zl_ap q la sg vl ta) {c k : Int} {o : zl_O} (hc : c ≠ -1) (hn : n ≤ 240) (hs : 0 ≤ s) (h : zl_C T q la sg vl ta n p k u) (h0 : 0 ≤ p) (ho : o.1 = 0 ∧ o.2.1 = p) {w : fx_U} (hr : zl_R q la sg vl s w o (1, u)) : zl_R q la sg vl s w (zl_ex T n c o) (f_X4_expect u q c) := by
  have pk := zl_peek h h0
  unfold zl_ex
  rw [if_pos ho.1, ho.2]
  unfold f_X4_expect
  simp only [fz_lr, fz_lt, pk]
  obtain ⟨r1, r2⟩ := hr
  rcases r2 with ⟨-, -, ⟨r3, r4⟩, r5, r6, r7, r8⟩ | ⟨r2, -⟩
  · by_cases g : zz_pk T n p = c
    · have hp := zz_pk_lt (T := T) (n := n) (p := p) (by omega)
      rw [if_pos g, if_pos g]
      simp only [fz_ls]
      rw [zl_one h.2.1 ⟨h0, by omega⟩]
      have n1 := ha.2.2.1.1
      refine ⟨r1.tr (zl_el.pq ha (Or.inl rfl)), Or.inl ⟨rfl, rfl, ⟨zz_ps, ?_⟩, fun i hi => ?_, ?_, ?_, ?_⟩⟩
      · exact (zz_pa n1).trans r4
      · exact ⟨(zz_pa ha.2.2.2.1.1).trans (r5 i hi).1, (zz_pa ha.2.2.2.2.1).trans (r5 i hi).2⟩
      · exact zl_cd_keep (e := s + (o.2.2.length : Int)) (fun i _ => ⟨zz_pa ha.2.2.2.1.1, zz_pa ha.2.2.2.2.1⟩) o.2.2 s hs (Int.le_refl _) r6
      · exact (zz_pa n1).trans r7
      · exact (zz_pj (by decide)).trans r8
    · rw [if_neg g, if_neg g]
      simp only [fz_lc, zl_fail h.2.1]
      exact ⟨r1.tr (zl_el.pq ha (Or.inr rfl)), Or.inr ⟨by first | decide | (dsimp only; decide) | (dsimp only), rfl, zz_ps⟩⟩
  · exact absurd ho.1 r2
end LawC
