/-! THE LAW'S TEXT in the reference: its cells, what waits, what is said -/
/-- what waits, the last first: each a kind and a place -/
def zl_sk (bw : Nat) (w : fx_U) : List (Int × Int) → Prop
  | [] => True
  | x :: R => (w bw R.length = 1048576 * x.1 + x.2 ∧ 0 ≤ x.2 ∧ x.2 < 1048576) ∧ zl_sk bw w R
theorem zl_sk_keep {bw : Nat} {w v : fx_U} : ∀ (R : List (Int × Int)), (∀ i : Nat, i < R.length → v bw i = w bw i) → zl_sk bw w R → zl_sk bw v R
  | [], _, _ => True.intro
  | x :: R, h, k => by
    rw [List.length_cons] at h
    exact ⟨⟨(h R.length (by omega)).trans k.1.1, k.1.2⟩, zl_sk_keep R (fun i hi => h i (by omega)) k.2⟩
def zl_o0 (c : Int) : Int := if c = 48 then 0 else if c = 105 then 1 else if c = 43 then 2 else if c = 45 then 3 else if c = 42 then 4 else if c = 47 then 5 else if c = 37 then 6 else if c = 60 then 7 else if c = 62 then 8 else if c = 61 then 9 else if c = 33 then 10 else if c = 38 then 11 else 12
def zl_e (i : Int) (c : Int × Int) : Int := if c.1 = 48 then c.2 else if c.1 = 105 then zl_fo c.2 else if c.1 = 38 ∨ c.1 = 124 then i + c.2 else 0
/-- the codes that are said from a place on -/
def zl_ce (bs : Nat) (w : fx_U) : Int → List (Int × Int) → Prop
  | _, [] => True
  | s, c :: cs => w bs s.toNat = 1048576 * zl_o0 c.1 + zl_e s c ∧ zl_ce bs w (s + 1) cs
theorem zl_ce_app {bs : Nat} {u : fx_U} : ∀ (a b : List (Int × Int)) (s : Int), zl_ce bs u s a → zl_ce bs u (s + (a.length : Int)) b → zl_ce bs u s (a ++ b)
  | [], b, s, _, h => by
    have e : s + (([] : List (Int × Int)).length : Int) = s := by
      show s + ((0 : Nat) : Int) = s
      omega
    rw [e] at h
    exact h
  | c :: cs, b, s, h, h2 => by
    have e : s + ((c :: cs).length : Int) = s + 1 + (cs.length : Int) := by
      rw [List.length_cons]
      omega
    rw [e] at h2
    exact ⟨h.1, zl_ce_app cs b (s + 1) h.2 h2⟩
theorem zl_ce_keep {bs : Nat} {u u1 : fx_U} {e : Int} (k : ∀ i : Nat, (i : Int) < e → u1 bs i = u bs i) : ∀ (a : List (Int × Int)) (s : Int), 0 ≤ s → s + (a.length : Int) ≤ e → zl_ce bs u s a → zl_ce bs u1 s a
  | [], _, _, _, _ => True.intro
  | c :: cs, s, h0, h1, h => by
    rw [List.length_cons] at h1
    exact ⟨(k s.toNat (by omega)).trans h.1, zl_ce_keep k cs (s + 1) (by omega) (by omega) h.2⟩
def zl_D (T : Nat → Int) (a2 tb bs bw : Nat) (n p o c : Int) (W : List (Int × Int)) (w : fx_U) : Prop := (w a2 3 = (tb : Int) ∧ w a2 6 = n ∧ w a2 15 = (bs : Int) ∧ w a2 16 = (bw : Int)) ∧ (w a2 5 = p ∧ w a2 9 = o ∧ w a2 10 = c ∧ w a2 11 = (W.length : Int)) ∧ zl_sk bw w W ∧ ∀ i : Nat, (i : Int) < n → fx_b_and (w tb i) 255 = T i
def zl_aq (a2 tb bs bw : Nat) : Prop := (tb ≠ a2 ∧ tb ≠ bs ∧ tb ≠ bw) ∧ (a2 ≠ bs ∧ a2 ≠ bw) ∧ (bs ≠ a2 ∧ bs ≠ bw) ∧ (bw ≠ a2 ∧ bw ≠ bs)
/-- elsewhere nothing has changed; what was said ahead of a place neither -/
def zl_eq (a2 bs bw : Nat) (c : Int) (w v : fx_U) : Prop := (∀ b : Nat, b ≠ a2 → b ≠ bs → b ≠ bw → ∀ i : Nat, v b i = w b i) ∧ (∀ j : Nat, j ≠ 5 → j ≠ 7 → j ≠ 8 → j ≠ 9 → j ≠ 10 → j ≠ 11 → v a2 j = w a2 j) ∧ ∀ i : Nat, (i : Int) < c → v bs i = w bs i
section LawR
variable {T : Nat → Int} {a2 tb bs bw : Nat} {n p o c c2 : Int} {W : List (Int × Int)} {w v y : fx_U}
theorem zl_eq.rf : zl_eq a2 bs bw c w w := ⟨fun _ _ _ _ _ => rfl, fun _ _ _ _ _ _ _ => rfl, fun _ _ => rfl⟩
theorem zl_eq.tr (h : zl_eq a2 bs bw c w v) (k : zl_eq a2 bs bw c2 v y) (hc : c ≤ c2) : zl_eq a2 bs bw c w y := ⟨fun b h1 h2 h3 i => (k.1 b h1 h2 h3 i).trans (h.1 b h1 h2 h3 i), fun j h1 h2 h3 h4 h5 h6 => (k.2.1 j h1 h2 h3 h4 h5 h6).trans (h.2.1 j h1 h2 h3 h4 h5 h6), fun i hi => (k.2.2 i (by omega)).trans (h.2.2 i hi)⟩
theorem zl_eq.pt (ha : zl_aq a2 tb bs bw) {j : Nat} {x : Int} (hj : j = 5 ∨ j = 7 ∨ j = 8 ∨ j = 9 ∨ j = 10 ∨ j = 11) : zl_eq a2 bs bw c w (fx_pt w a2 j x) := ⟨fun b h1 _ _ i => zz_pa h1, fun i h1 h2 h3 h4 h5 h6 => zz_pj (by omega), fun i _ => zz_pa ha.2.2.1.1⟩
theorem zl_eq.wt (ha : zl_aq a2 tb bs bw) {j : Nat} {x : Int} : zl_eq a2 bs bw c w (fx_pt w bw j x) := ⟨fun b _ _ h3 i => zz_pa h3, fun i _ _ _ _ _ _ => zz_pa ha.2.1.2, fun i _ => zz_pa ha.2.2.1.2⟩
theorem zl_eq.sd (ha : zl_aq a2 tb bs bw) {j : Nat} {x : Int} (hj : c ≤ (j : Int)) : zl_eq a2 bs bw c w (fx_pt w bs j x) := ⟨fun b _ h2 _ i => zz_pa h2, fun i _ _ _ _ _ _ => zz_pa ha.2.1.1, fun i hi => zz_pj (by omega)⟩
theorem zl_D.mv (ha : zl_aq a2 tb bs bw) {p2 o2 c3 : Int} {V : List (Int × Int)} (h : zl_D T a2 tb bs bw n p o c W w) (k : zl_eq a2 bs bw c2 w v) (h1 : v a2 5 = p2) (h2 : v a2 9 = o2) (h3 : v a2 10 = c3) (h4 : v a2 11 = (V.length : Int)) (h5 : zl_sk bw v V) : zl_D T a2 tb bs bw n p2 o2 c3 V v := by
  obtain ⟨⟨a1, a3, a4, a5⟩, -, -, a8⟩ := h
  obtain ⟨k1, k2, -⟩ := k
  exact ⟨⟨(k2 3 (by decide) (by decide) (by decide) (by decide) (by decide) (by decide)).trans a1, (k2 6 (by decide) (by decide) (by decide) (by decide) (by decide) (by decide)).trans a3, (k2 15 (by decide) (by decide) (by decide) (by decide) (by decide) (by decide)).trans a4, (k2 16 (by decide) (by decide) (by decide) (by decide) (by decide) (by decide)).trans a5⟩, ⟨h1, h2, h3, h4⟩, h5, fun i hi => by rw [k1 tb ha.1.1 ha.1.2.1 ha.1.2.2 i]; exact a8 i hi⟩
theorem zl_hr (h : zl_D T a2 tb bs bw n p o c W w) (h0 : 0 ≤ p) : f_X12_here w a2 = zz_pk T n p := by
  obtain ⟨⟨h1, h2, -, -⟩, ⟨h3, -⟩, -, h4⟩ := h
  unfold f_X12_here zz_pk
  simp only [fz_lt, fz_lr, h1, h2, h3, Int.toNat_natCast]
  by_cases k : p < n
  · rw [if_pos k, if_pos k]
    exact h4 p.toNat (by omega)
  · rw [if_neg k, if_neg k]
theorem zl_dg (h : zl_D T a2 tb bs bw n p o c W w) (h0 : 0 ≤ p) : f_X12_isDigit w a2 = if 48 ≤ zz_pk T n p ∧ zz_pk T n p ≤ 57 then 1 else 0 := by
  unfold f_X12_isDigit
  simp only [fz_lt, zl_hr h h0]
  by_cases k1 : zz_pk T n p < 48
  · rw [if_pos k1, if_neg (by omega)]
  · by_cases k2 : 57 < zz_pk T n p
    · rw [if_neg k1, if_pos k2, if_neg (by omega)]
    · rw [if_neg k1, if_neg k2, if_pos (by omega)]
theorem zl_fq {x : Int} : f_X12_factOf w x = zl_fo x := rfl
theorem zl_top {x : Int × Int} {R : List (Int × Int)} (h : zl_D T a2 tb bs bw n p o c (x :: R) w) : f_X12_waitTop w a2 = x.1 := by
  obtain ⟨⟨-, -, -, h1⟩, ⟨-, -, -, h2⟩, ⟨⟨h3, h4, h5⟩, -⟩, -⟩ := h
  rw [List.length_cons] at h2
  unfold f_X12_waitTop
  simp only [fz_lt, fz_lr, h1, h2, Int.toNat_natCast]
  rw [if_neg (by omega), show (((R.length + 1 : Nat) : Int) - 1).toNat = R.length by omega, h3]
  omega
theorem zl_top0 (h : zl_D T a2 tb bs bw n p o c [] w) : f_X12_waitTop w a2 = -1 := by
  obtain ⟨⟨-, -, -, h1⟩, ⟨-, -, -, h2⟩, -, -⟩ := h
  unfold f_X12_waitTop
  simp only [fz_lt, fz_lr, h1, h2]
  rw [if_pos (show ((([] : List (Int × Int)).length : Nat) : Int) = 0 from rfl)]
/-- one code more -/
theorem zl_nts (ha : zl_aq a2 tb bs bw) {a b : Int} (h : zl_D T a2 tb bs bw n p o c W w) (hc : 0 ≤ c) : zl_D T a2 tb bs bw n p o (c + 1) W (f_X12_notes w a2 a b) ∧ zl_eq a2 bs bw c w (f_X12_notes w a2 a b) ∧ f_X12_notes w a2 a b bs c.toNat = 1048576 * a + b ∧ ∀ j : Nat, j ≠ 10 → f_X12_notes w a2 a b a2 j = w a2 j := by
  have e : f_X12_notes w a2 a b = fx_pt (fx_pt w bs c.toNat (1048576 * a + b)) a2 10 (c + 1) := by
    unfold f_X12_notes
    simp only [fz_lt, fz_lr, fz_ls, h.1.2.2.1, h.2.1.2.2.1, Int.toNat_natCast]
  have k : zl_eq a2 bs bw c w (fx_pt (fx_pt w bs c.toNat (1048576 * a + b)) a2 10 (c + 1)) := (zl_eq.sd ha (by omega)).tr (zl_eq.pt ha (by decide)) (Int.le_refl c)
  have q : ∀ j : Nat, j ≠ 10 → fx_pt (fx_pt w bs c.toNat (1048576 * a + b)) a2 10 (c + 1) a2 j = w a2 j := fun j hj => (zz_pj hj).trans (zz_pa ha.2.1.1)
  rw [e]
  refine ⟨h.mv ha k ((q 5 (by decide)).trans h.2.1.1) ((q 9 (by decide)).trans h.2.1.2.1) zz_ps ((q 11 (by decide)).trans h.2.1.2.2.2) (zl_sk_keep W (fun i _ => (zz_pa ha.2.2.2.1).trans (zz_pa ha.2.2.2.2)) h.2.2.1), k, (zz_pa ha.2.2.1.1).trans zz_ps, q⟩
/-- one that waits no more -/
theorem zl_pop (ha : zl_aq a2 tb bs bw) {x : Int × Int} {R : List (Int × Int)} {r : Int} (h : zl_D T a2 tb bs bw n p o c (x :: R) w) (hr : r = (R.length : Int)) : zl_D T a2 tb bs bw n p o c R (fx_pt w a2 11 r) ∧ zl_eq a2 bs bw c w (fx_pt w a2 11 r) := by
  have k : zl_eq a2 bs bw c w (fx_pt w a2 11 r) := zl_eq.pt ha (by decide)
  exact ⟨h.mv ha k ((zz_pj (by decide)).trans h.2.1.1) ((zz_pj (by decide)).trans h.2.1.2.1) ((zz_pj (by decide)).trans h.2.1.2.2.1) (zz_ps.trans hr) (zl_sk_keep R (fun i _ => zz_pa ha.2.2.2.1) h.2.2.1.2), k⟩
/-- one more waits -/
theorem zl_push (ha : zl_aq a2 tb bs bw) {k b : Int} (hb : 0 ≤ b ∧ b < 1048576) (h : zl_D T a2 tb bs bw n p o c W w) : zl_D T a2 tb bs bw n p o c ((k, b) :: W) (fx_pt (fx_pt w bw W.length (1048576 * k + b)) a2 11 ((W.length : Int) + 1)) ∧ zl_eq a2 bs bw c w (fx_pt (fx_pt w bw W.length (1048576 * k + b)) a2 11 ((W.length : Int) + 1)) := by
  have e : zl_eq a2 bs bw c w (fx_pt (fx_pt w bw W.length (1048576 * k + b)) a2 11 ((W.length : Int) + 1)) := (zl_eq.wt ha).tr (zl_eq.pt ha (by decide)) (Int.le_refl c)
  have q : ∀ j : Nat, j ≠ 11 → fx_pt (fx_pt w bw W.length (1048576 * k + b)) a2 11 ((W.length : Int) + 1) a2 j = w a2 j := fun j hj => (zz_pj hj).trans (zz_pa ha.2.1.2)
  refine ⟨h.mv ha e ((q 5 (by decide)).trans h.2.1.1) ((q 9 (by decide)).trans h.2.1.2.1) ((q 10 (by decide)).trans h.2.1.2.2.1) (zz_ps.trans (by rw [List.length_cons]; omega)) ⟨⟨(zz_pa ha.2.2.2.1).trans zz_ps, hb⟩, zl_sk_keep W (fun i hi => (zz_pa ha.2.2.2.1).trans (zz_pj (by omega))) h.2.2.1⟩, e⟩
/-- the place moves on -/
theorem zl_at (ha : zl_aq a2 tb bs bw) {x : Int} (h : zl_D T a2 tb bs bw n p o c W w) : zl_D T a2 tb bs bw n x o c W (fx_pt w a2 5 x) ∧ zl_eq a2 bs bw c w (fx_pt w a2 5 x) := by
  have k : zl_eq a2 bs bw c w (fx_pt w a2 5 x) := zl_eq.pt ha (by decide)
  exact ⟨h.mv ha k zz_ps ((zz_pj (by decide)).trans h.2.1.2.1) ((zz_pj (by decide)).trans h.2.1.2.2.1) ((zz_pj (by decide)).trans h.2.1.2.2.2) (zl_sk_keep W (fun i _ => zz_pa ha.2.2.2.1) h.2.2.1), k⟩
theorem zl_opn (ha : zl_aq a2 tb bs bw) {x : Int} (h : zl_D T a2 tb bs bw n p o c W w) : zl_D T a2 tb bs bw n p x c W (fx_pt w a2 9 x) ∧ zl_eq a2 bs bw c w (fx_pt w a2 9 x) := by
  have k : zl_eq a2 bs bw c w (fx_pt w a2 9 x) := zl_eq.pt ha (by decide)
  exact ⟨h.mv ha k ((zz_pj (by decide)).trans h.2.1.1) zz_ps ((zz_pj (by decide)).trans h.2.1.2.2.1) ((zz_pj (by decide)).trans h.2.1.2.2.2) (zl_sk_keep W (fun i _ => zz_pa ha.2.2.2.1) h.2.2.1), k⟩
/-- the sign of a kind -/
def zl_sg (k : Int) : Int := if k = 2 then 43 else if k = 3 then 45 else if k = 4 then 42 else if k = 5 then 47 else 37
theorem zl_sg_o {k : Int} (h : 2 ≤ k ∧ k ≤ 6) (i : Int) : zl_o0 (zl_sg k) = k ∧ zl_e i (zl_sg k, 0) = 0 := by
  rcases (show k = 2 ∨ k = 3 ∨ k = 4 ∨ k = 5 ∨ k = 6 by omega) with rfl | rfl | rfl | rfl | rfl <;> exact ⟨by decide, by unfold zl_e; rfl⟩
/-- the signs of a sum that wait become codes -/
theorem zl_close (ha : zl_aq a2 tb bs bw) {b lo pq : Int} (hb : (b = 0 ∧ lo = 4) ∨ (b = 1 ∧ lo = 2)) (hW : ∀ x R, W = x :: R → ¬ (lo ≤ x.1 ∧ x.1 ≤ 6)) :
    ∀ (P : List (Int × Int)) (f : Nat) (c cq wq : Int) (w : fx_U), (∀ x ∈ P, lo ≤ x.1 ∧ x.1 ≤ 6) → P.length < f → wq = ((P ++ W).length : Int) → 0 ≤ c → zl_D T a2 tb bs bw n p o c (P ++ W) w → zl_D T a2 tb bs bw n p o (c + (P.length : Int)) W (kL_X12_closesSums_0 a2 b pq f w cq wq pq) ∧ zl_eq a2 bs bw c w (kL_X12_closesSums_0 a2 b pq f w cq wq pq) ∧ zl_ce bs (kL_X12_closesSums_0 a2 b pq f w cq wq pq) c (P.map (fun x => (zl_sg x.1, 0))) := by
  intro P
  induction P with
  | nil =>
    intro f c cq wq w _ hf hw hc hD
    obtain ⟨g, rfl⟩ : ∃ g : Nat, f = g + 1 := ⟨f - 1, by omega⟩
    have eK : kL_X12_closesSums_0 a2 b pq (g + 1) w cq wq pq = kB_X12_closesSums_0 (kL_X12_closesSums_0 a2 b pq g) a2 b pq w cq wq pq := rfl
    have top : ∃ k : Int, f_X12_waitTop w a2 = k ∧ ¬ (lo ≤ k ∧ k ≤ 6) := by
      cases W with
      | nil => exact ⟨-1, zl_top0 hD, by omega⟩
      | cons x R => exact ⟨x.1, zl_top hD, hW x R rfl⟩
    obtain ⟨k, k1, k2⟩ := top
    have e17 : kJ_X12_closesSums_17 b w a2 wq (kL_X12_closesSums_0 a2 b pq g) pq = w := by
      unfold kJ_X12_closesSums_17
      simp only [fz_lt, k1]
      rcases hb with ⟨b1, b2⟩ | ⟨b1, b2⟩
      · rw [if_pos b1]
      · rw [if_neg (by omega), if_neg (by omega), if_neg (by omega)]
    have e : kL_X12_closesSums_0 a2 b pq (g + 1) w cq wq pq = w := by
      rw [eK]
      unfold kB_X12_closesSums_0
      simp only [fz_lt, k1, e17]
      by_cases q1 : k < 4
      · rw [if_pos q1]
      · rw [if_neg q1, if_pos (by omega)]
    rw [e]
    refine ⟨?_, zl_eq.rf, True.intro⟩
    have ec : c + ((([] : List (Int × Int)).length : Nat) : Int) = c := by
      show c + ((0 : Nat) : Int) = c
      omega
    rw [ec]
    exact hD
  | cons x P ih =>
    intro f c cq wq w hP hf hw hc hD
    rw [List.length_cons] at hf
    obtain ⟨g, rfl⟩ : ∃ g : Nat, f = g + 1 := ⟨f - 1, by omega⟩
    have hx := hP x (List.mem_cons_self ..)
    have k1 : f_X12_waitTop w a2 = x.1 := zl_top (R := P ++ W) hD
    have eK : kL_X12_closesSums_0 a2 b pq (g + 1) w cq wq pq = kB_X12_closesSums_0 (kL_X12_closesSums_0 a2 b pq g) a2 b pq w cq wq pq := rfl
    obtain ⟨n1, n2, n3, n4⟩ := zl_nts ha (a := x.1) (b := 0) hD hc
    have hw2 : wq - 1 = ((P ++ W).length : Int) := by
      rw [hw]
      show (((P ++ W).length + 1 : Nat) : Int) - 1 = ((P ++ W).length : Int)
      omega
    obtain ⟨p1, p2⟩ := zl_pop ha (x := x) (R := P ++ W) n1 hw2
    have e : kL_X12_closesSums_0 a2 b pq (g + 1) w cq wq pq = kL_X12_closesSums_0 a2 b pq g (fx_pt (f_X12_notes w a2 x.1 0) a2 11 (wq - 1)) (c + 1) (wq - 1) pq := by
      have e37 : kJ_X12_closesSums_37 w a2 wq (kL_X12_closesSums_0 a2 b pq g) pq = kL_X12_closesSums_0 a2 b pq g (fx_pt (f_X12_notes w a2 x.1 0) a2 11 (wq - 1)) (c + 1) (wq - 1) pq := by
        unfold kJ_X12_closesSums_37
        simp only [fz_lt, fz_ls, k1, n1.2.1.2.2.1]
      rw [eK]
      unfold kB_X12_closesSums_0 kJ_X12_closesSums_17
      simp only [fz_lt, k1, e37]
      by_cases q1 : x.1 < 4
      · rw [if_pos q1]
        rcases hb with ⟨b1, b2⟩ | ⟨b1, b2⟩
        · omega
        · rw [if_neg (by omega)]
          by_cases q2 : x.1 = 2
          · rw [if_pos q2]
          · rw [if_neg q2, if_pos (by omega)]
      · rw [if_neg q1, if_neg (by omega)]
    rw [e]
    obtain ⟨i1, i2, i3⟩ := ih g (c + 1) (c + 1) (wq - 1) _ (fun y hy => hP y (List.mem_cons_of_mem x hy)) (by omega) hw2 (by omega) p1
    refine ⟨?_, n2.tr (p2.tr i2 (by omega)) (by omega), ⟨?_, i3⟩⟩
    · rw [show c + (((x :: P).length : Nat) : Int) = c + 1 + (P.length : Int) by rw [List.length_cons]; omega]
      exact i1
    · obtain ⟨s1, s2⟩ := zl_sg_o (k := x.1) ⟨by omega, hx.2⟩ c
      show kL_X12_closesSums_0 a2 b pq g _ _ _ pq bs c.toNat = 1048576 * zl_o0 (zl_sg x.1) + zl_e c (zl_sg x.1, 0)
      rw [i2.2.2 c.toNat (by omega), s1, s2, zz_pa ha.2.2.1.1]
      exact n3
end LawR
