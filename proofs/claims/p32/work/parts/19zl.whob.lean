/-! WHO DROVE OVER: how many, and which first -/
def zy_n (g : Int → Int) : Nat → Int
  | 0 => 0
  | n + 1 => zy_n g n + g (n : Int)
theorem zy_nc {g : Int → Int} {a b : Int} (a0 : 0 ≤ a) (ab : a ≤ b) (c : Int) (h : ∀ m : Int, a ≤ m → m < b → g m = c) : zy_n g b.toNat = zy_n g a.toNat + c * (b - a) := by
  have key : ∀ n : Nat, a + (n : Int) ≤ b → zy_n g (a.toNat + n) = zy_n g a.toNat + c * (n : Int) := by
    intro n
    induction n with
    | zero =>
      intro _
      show zy_n g a.toNat = zy_n g a.toNat + c * 0
      rw [Int.mul_zero, Int.add_zero]
    | succ n ih =>
      intro hn
      show zy_n g (a.toNat + n) + g ((a.toNat + n : Nat) : Int) = _
      rw [ih (by omega), h ((a.toNat + n : Nat) : Int) (by omega) (by omega)]
      rw [show ((n + 1 : Nat) : Int) = (n : Int) + 1 by omega, Int.mul_add, Int.mul_one, Int.add_assoc]
  have k := key (b - a).toNat (by omega)
  rw [show a.toNat + (b - a).toNat = b.toNat by omega, show (((b - a).toNat : Nat) : Int) = b - a by omega] at k
  exact k
theorem zy_n0 {g : Int → Int} {a b : Int} (a0 : 0 ≤ a) (ab : a ≤ b) (h : ∀ m : Int, a ≤ m → m < b → g m = 0) : zy_n g b.toNat = zy_n g a.toNat := by
  rw [zy_nc a0 ab 0 h, Int.zero_mul, Int.add_zero]
theorem zy_n1 {g : Int → Int} {a b : Int} (a0 : 0 ≤ a) (ab : a ≤ b) (h : ∀ m : Int, a ≤ m → m < b → g m = 1) : zy_n g b.toNat = zy_n g a.toNat + (b - a) := by
  rw [zy_nc a0 ab 1 h, Int.one_mul]
theorem zy_nle {f g : Int → Int} : ∀ n : Nat, (∀ j : Nat, j < n → f (j : Int) ≤ g (j : Int)) → zy_n f n ≤ zy_n g n := by
  intro n
  induction n with
  | zero => intro _; exact Int.le_refl _
  | succ n ih =>
    intro h
    have h1 := ih (fun j hj => h j (by omega))
    have h2 := h n (by omega)
    show zy_n f n + f (n : Int) ≤ zy_n g n + g (n : Int)
    omega
theorem zy_nlt {f g : Int → Int} {k : Nat} (hk : f (k : Int) + 1 ≤ g (k : Int)) : ∀ n : Nat, k < n → (∀ j : Nat, j < n → f (j : Int) ≤ g (j : Int)) → zy_n f n + 1 ≤ zy_n g n := by
  intro n
  induction n with
  | zero => intro h; omega
  | succ n ih =>
    intro h1 h
    have h2 := h n (by omega)
    show zy_n f n + f (n : Int) + 1 ≤ zy_n g n + g (n : Int)
    by_cases e : k = n
    · have h3 := zy_nle (f := f) (g := g) n (fun j hj => h j (by omega))
      rw [e] at hk
      omega
    · have h3 := ih (by omega) (fun j hj => h j (by omega))
      omega
theorem zy_nb {f : Int → Int} : ∀ n : Nat, (∀ j : Int, 0 ≤ f j ∧ f j ≤ 1) → 0 ≤ zy_n f n ∧ zy_n f n ≤ (n : Int) := by
  intro n
  induction n with
  | zero => intro _; exact ⟨Int.le_refl _, Int.le_refl _⟩
  | succ n ih =>
    intro h
    have h1 := ih h
    have h2 := h (n : Int)
    show 0 ≤ zy_n f n + f (n : Int) ∧ zy_n f n + f (n : Int) ≤ ((n + 1 : Nat) : Int)
    omega
/-- how many still lie ahead -/
def zy_a (N : Nat → Nat) (D x : Int) (u : fx_U) (lo j : Int) : Int := if zy_sb N u j = 1 ∧ lo < zy_F N D x u j + u (N 7) j.toNat then 1 else 0
theorem zy_a01 {N : Nat → Nat} {D x : Int} {u : fx_U} (lo j : Int) : 0 ≤ zy_a N D x u lo j ∧ zy_a N D x u lo j ≤ 1 := by
  unfold zy_a
  by_cases c : zy_sb N u j = 1 ∧ lo < zy_F N D x u j + u (N 7) j.toNat
  · rw [if_pos c]
    decide
  · rw [if_neg c]
    decide
theorem zy_am {N : Nat → Nat} {D x : Int} {u : fx_U} {lo lo2 : Int} (h : lo ≤ lo2) (j : Int) : zy_a N D x u lo2 j ≤ zy_a N D x u lo j := by
  unfold zy_a
  by_cases c : zy_sb N u j = 1 ∧ lo2 < zy_F N D x u j + u (N 7) j.toNat
  · rw [if_pos c, if_pos (show zy_sb N u j = 1 ∧ lo < zy_F N D x u j + u (N 7) j.toNat from ⟨c.1, by omega⟩)]
    exact Int.le_refl _
  · rw [if_neg c]
    by_cases d : zy_sb N u j = 1 ∧ lo < zy_F N D x u j + u (N 7) j.toNat
    · rw [if_pos d]
      decide
    · rw [if_neg d]
      exact Int.le_refl _
/-- right or not, by the reference -/
def zy_c (a2 : Nat) (T x : Int) (v : fx_U) (m : Int) : Int := if 0 ≤ m ∧ m ≤ T then f_X12_couldBe v a2 m x else 0
/-- what one way tells -/
def zy_up (dr : Nat) (x s fm fw p : Int) (y : fx_U) : Prop := ((s = 0 ∨ p < fm) ∧ y dr 2 = p ∧ y dr 3 = x) ∨ ((s ≠ 0 ∧ fm ≤ p) ∧ y dr 2 = fm ∧ y dr 3 = fw)
def zy_st (g : Int → Int) (dr : Nat) (x s fm fw lo : Int) (y : fx_U) : Prop := y dr 1 = s + zy_n g lo.toNat ∧ (((∀ m : Int, m < lo → g m = 0) ∧ y dr 2 = fm ∧ y dr 3 = fw) ∨ ∃ p : Int, (0 ≤ p ∧ p < lo) ∧ g p = 1 ∧ (∀ m : Int, m < p → g m = 0) ∧ zy_up dr x s fm fw p y)
section WhoB
variable {N : Nat → Nat} {b a1 a2 dr : Nat} {D T x i m : Int} {u v w z : fx_U}
theorem zy_cg (H : zy_H N b a2 D T u v) : (zy_c a2 T x v m = 0 ∨ zy_c a2 T x v m = 1) ∧ (zy_c a2 T x v m = 1 ↔ ((0 ≤ m ∧ m ≤ T) ∧ ∀ j : Int, 0 ≤ j → j < D → zy_ok N D x u m j)) := by
  have hT : T ≤ 9999 := by
    have h := H.2.2.1.1.2.2.2.2.2
    rw [H.2.2.2.2] at h
    exact h
  have hD := H.2.2.2.1
  unfold zy_c
  by_cases c : 0 ≤ m ∧ m ≤ T
  · rw [if_pos c]
    unfold f_X12_couldBe
    rw [show Int.toNat (64 - 0) + 1 = 65 from rfl]
    rcases zy_could (x := x) (m := m) H ⟨c.1, by omega⟩ 65 0 (by omega) (by decide) (by decide) with ⟨k1, k2⟩ | ⟨k1, j, k2, k3, k4⟩
    · rw [k1]
      exact ⟨Or.inr rfl, ⟨fun _ => ⟨c, k2⟩, fun _ => rfl⟩⟩
    · rw [k1]
      exact ⟨Or.inl rfl, ⟨fun h => absurd h zz_n01, fun h => absurd (h.2 j k2 k3) k4⟩⟩
  · rw [if_neg c]
    exact ⟨Or.inl rfl, ⟨fun h => absurd h zz_n01, fun h => absurd h.1 c⟩⟩
/-- a run of the class over other places of the driver -/
theorem zy_mv (H : zy_H N b a2 D T u v) (nd : ∀ k : Nat, k ≤ 14 → N k ≠ dr) (hw : ∀ c : Nat, c ≠ dr → ∀ j : Nat, w c j = u c j) : zy_H N b a2 D T w v ∧ zy_sb N w = zy_sb N u ∧ zy_hb N w = zy_hb N u ∧ zy_F N D x w = zy_F N D x u ∧ zy_in N D x w = zy_in N D x u ∧ w (N 7) = u (N 7) := by
  have k : ∀ q : Nat, q ≤ 14 → w (N q) = u (N q) := fun q hq => funext fun j => hw (N q) (nd q hq) j
  obtain ⟨hP, h0, hR, hD, hT⟩ := H
  have eF : zy_F N D x w = zy_F N D x u := funext fun j => by
    unfold zy_F
    rw [k 6 (by decide)]
  refine ⟨⟨fun j j1 j2 => ?_, h0, ?_, hD, ?_⟩, funext fun j => ?_, funext fun j => ?_, eF, funext fun m => funext fun j => ?_, k 7 (by decide)⟩
  · rw [k 0 (by decide)]
    exact hP j j1 j2
  · obtain ⟨hG, hd, ⟨hA0, hA1⟩, hne, hC⟩ := hR
    refine ⟨zn_Gm hG (fun j => by rw [k 0 (by decide)]) ⟨rfl, rfl, rfl, rfl⟩, fun j hj => zn_Dm (hd j hj) ⟨by rw [k 4 (by decide)], by rw [k 5 (by decide)], by rw [k 6 (by decide)], by rw [k 7 (by decide)], by rw [k 8 (by decide)]⟩ ⟨rfl, rfl, rfl, rfl, rfl⟩, ⟨zn_Am hA0 ⟨by rw [k 9 (by decide)], by rw [k 10 (by decide)], by rw [k 11 (by decide)], by rw [k 12 (by decide)]⟩ (fun _ => by rw [k 5 (by decide)]) ⟨rfl, rfl, rfl, rfl⟩, zn_Am hA1 ⟨by rw [k 9 (by decide)], by rw [k 10 (by decide)], by rw [k 11 (by decide)], by rw [k 12 (by decide)]⟩ (fun _ => by rw [k 5 (by decide)]) ⟨rfl, rfl, rfl, rfl⟩⟩, ?_, fun c hc => zn_Cm (hC c hc) ⟨by rw [k 13 (by decide)], by rw [k 14 (by decide)]⟩ ⟨rfl, rfl, rfl⟩⟩
    rw [k 10 (by decide)]
    exact hne
  · rw [k 0 (by decide)]
    exact hT
  · unfold zy_sb
    rw [k 5 (by decide), k 8 (by decide), k 7 (by decide)]
  · unfold zy_hb
    rw [k 5 (by decide), k 8 (by decide)]
  · unfold zy_in
    rw [eF, k 7 (by decide)]
/-- a gap is noted -/
theorem zy_note {s fm fw lo q1 q2 : Int} {g : Int → Int} (g01 : ∀ m : Int, g m = 0 ∨ g m = 1) (s0 : 0 ≤ s ∧ s ≤ 20000) (lo0 : 0 ≤ lo) (h1 : lo ≤ q1) (h2 : q1 < q2) (hq : q2 ≤ 20000) (bad : ∀ m : Int, lo ≤ m → m < q1 → g m = 0) (good : ∀ m : Int, q1 ≤ m → m < q2 → g m = 1) (S : zy_st g dr x s fm fw lo w) : zy_st g dr x s fm fw q2 (f_X0_note w dr q1 x (q2 - q1)) ∧ ∀ c : Nat, c ≠ dr → ∀ j : Nat, f_X0_note w dr q1 x (q2 - q1) c j = w c j := by
  obtain ⟨S1, S2⟩ := S
  have nb := zy_nb (f := g) lo.toNat (fun j => by rcases g01 j with e | e <;> omega)
  have n2 : zy_n g q2.toNat = zy_n g lo.toNat + (q2 - q1) := by
    rw [zy_n1 (by omega) (by omega) good, zy_n0 lo0 h1 bad]
  obtain ⟨n, hn⟩ : ∃ n : Int, n = zy_n g lo.toNat := ⟨_, rfl⟩
  rw [← hn] at S1 nb n2
  have sa : fx_b_add (s + n) (q2 - q1) = s + n + (q2 - q1) := zz_wadd ⟨by omega, by omega⟩ ⟨by omega, by omega⟩ ⟨by omega, by omega⟩
  obtain ⟨A, hA⟩ : ∃ A : fx_U, A = fx_pt (fx_pt (fx_pt w dr 2 q1) dr 3 x) dr 1 (s + n + (q2 - q1)) := ⟨_, rfl⟩
  obtain ⟨B, hB⟩ : ∃ B : fx_U, B = fx_pt w dr 1 (s + n + (q2 - q1)) := ⟨_, rfl⟩
  have a1 : A dr 1 = s + n + (q2 - q1) ∧ A dr 2 = q1 ∧ A dr 3 = x := by
    rw [hA]
    exact ⟨zz_ps, (zz_pj (by decide)).trans ((zz_pj (by decide)).trans zz_ps), (zz_pj (by decide)).trans zz_ps⟩
  have b1 : B dr 1 = s + n + (q2 - q1) ∧ B dr 2 = w dr 2 ∧ B dr 3 = w dr 3 := by
    rw [hB]
    exact ⟨zz_ps, zz_pj (by decide), zz_pj (by decide)⟩
  have fr : ∀ c : Nat, c ≠ dr → (∀ j : Nat, A c j = w c j) ∧ ∀ j : Nat, B c j = w c j := fun c hc => by
    rw [hA, hB]
    exact ⟨fun j => (zz_pa hc).trans ((zz_pa hc).trans (zz_pa hc)), fun j => zz_pa hc⟩
  have j25 : fx_pt (fx_pt w dr 2 q1) dr 3 x dr 1 = s + n := (zz_pj (by decide)).trans ((zz_pj (by decide)).trans S1)
  have E : f_X0_note w dr q1 x (q2 - q1) = if s + n = 0 then A else if q1 < w dr 2 then A else B := by
    unfold f_X0_note kJ_X0_note_15 kJ_X0_note_25
    simp only [fz_lt, fz_ls, S1, j25, sa, ← hA, ← hB]
  have gq := good q1 (Int.le_refl _) h2
  have t1 : s + n + (q2 - q1) = s + zy_n g q2.toNat := by omega
  rcases S2 with ⟨z, e2, e3⟩ | ⟨p, p0, gp, pm, up⟩
  · have nz : n = 0 := by
      have q := zy_n0 (g := g) (a := 0) (b := lo) (Int.le_refl 0) lo0 (fun m _ hm => z m hm)
      rw [hn, q]
      rfl
    have before : ∀ m : Int, m < q1 → g m = 0 := fun m hm => by
      by_cases c : m < lo
      · exact z m c
      · exact bad m (by omega) hm
    rw [E, e2]
    by_cases c1 : s + n = 0
    · rw [if_pos c1]
      exact ⟨⟨a1.1.trans t1, Or.inr ⟨q1, ⟨by omega, h2⟩, gq, before, Or.inl ⟨Or.inl (by omega), a1.2.1, a1.2.2⟩⟩⟩, fun c hc => (fr c hc).1⟩
    · by_cases c2 : q1 < fm
      · rw [if_neg c1, if_pos c2]
        exact ⟨⟨a1.1.trans t1, Or.inr ⟨q1, ⟨by omega, h2⟩, gq, before, Or.inl ⟨Or.inr c2, a1.2.1, a1.2.2⟩⟩⟩, fun c hc => (fr c hc).1⟩
      · rw [if_neg c1, if_neg c2]
        exact ⟨⟨b1.1.trans t1, Or.inr ⟨q1, ⟨by omega, h2⟩, gq, before, Or.inr ⟨⟨by omega, by omega⟩, b1.2.1.trans e2, b1.2.2.trans e3⟩⟩⟩, fun c hc => (fr c hc).2⟩
  · have n1 : 1 ≤ n := by
      have q := zy_nc (g := g) (a := p) (b := p + 1) p0.1 (by omega) 1 (fun m m0 m1 => by rw [show m = p by omega]; exact gp)
      have q0 := zy_nb (f := g) p.toNat (fun j => by rcases g01 j with e | e <;> omega)
      have q3 := zy_nle (f := fun j => if j < p + 1 then g j else 0) (g := g) lo.toNat (fun j _ => by
        show (if (j : Int) < p + 1 then g j else 0) ≤ g (j : Int)
        by_cases c : (j : Int) < p + 1
        · rw [if_pos c]
          exact Int.le_refl _
        · rw [if_neg c]
          rcases g01 (j : Int) with e | e <;> omega)
      have q4 := zy_n0 (g := fun j => if j < p + 1 then g j else 0) (a := p + 1) (b := lo) (by omega) (by omega) (fun m m0 _ => if_neg (by omega))
      have q5 : zy_n (fun j => if j < p + 1 then g j else 0) (p + 1).toNat = zy_n g (p + 1).toNat := by
        have gen : ∀ k : Nat, (k : Int) ≤ p + 1 → zy_n (fun j => if j < p + 1 then g j else 0) k = zy_n g k := by
          intro k
          induction k with
          | zero => intro _; rfl
          | succ k ih =>
            intro hk
            show zy_n (fun j => if j < p + 1 then g j else 0) k + (if (k : Int) < p + 1 then g (k : Int) else 0) = zy_n g k + g (k : Int)
            rw [ih (by omega), if_pos (by omega)]
        exact gen _ (by omega)
      omega
    have nn : ¬ s + n = 0 := by omega
    have nf : ¬ q1 < w dr 2 := by
      rcases up with ⟨-, e2, -⟩ | ⟨⟨-, e1⟩, e2, -⟩ <;> omega
    rw [E, if_neg nn, if_neg nf]
    refine ⟨⟨b1.1.trans t1, Or.inr ⟨p, ⟨p0.1, by omega⟩, gp, pm, ?_⟩⟩, fun c hc => (fr c hc).2⟩
    unfold zy_up
    rw [b1.2.1, b1.2.2]
    exact up
theorem zy_skip {s fm fw lo q1 : Int} {g : Int → Int} (lo0 : 0 ≤ lo) (h1 : lo ≤ q1) (bad : ∀ m : Int, lo ≤ m → m < q1 → g m = 0) (S : zy_st g dr x s fm fw lo w) : zy_st g dr x s fm fw q1 w := by
  obtain ⟨S1, S2⟩ := S
  refine ⟨?_, ?_⟩
  · rw [zy_n0 lo0 h1 bad]
    exact S1
  · rcases S2 with ⟨z, e⟩ | ⟨p, p0, q⟩
    · refine Or.inl ⟨fun m hm => ?_, e⟩
      by_cases c : m < lo
      · exact z m c
      · exact bad m (by omega) hm
    · exact Or.inr ⟨p, ⟨p0.1, by omega⟩, q⟩
/-- from gap to gap -/
theorem zy_loop {s fm fw lo1 hi : Int} {g : Int → Int} (H : zy_H N b a2 D T u v) (nd : ∀ k : Nat, k ≤ 14 → N k ≠ dr) (g01 : ∀ m : Int, g m = 0 ∨ g m = 1) (s0 : 0 ≤ s ∧ s ≤ 20000) (l1 : 0 ≤ lo1) (hh : -200 ≤ hi ∧ hi ≤ 10000) (G : ∀ m : Int, g m = 1 ↔ (lo1 ≤ m ∧ m ≤ hi ∧ ∀ j : Int, 0 ≤ j → j < D → zy_sb N u j = 1 → ¬ zy_in N D x u m j)) : ∀ (f : Nat) (k lo : Int) (w : fx_U), 129 - k < (f : Int) → 0 < f → (0 ≤ k ∧ k ≤ 129) → (lo1 ≤ lo ∧ lo ≤ 10200) → (∀ c : Nat, c ≠ dr → ∀ j : Nat, w c j = u c j) → (hi < lo ∨ (2 * zy_n (zy_a N D x u lo) D.toNat ≤ 129 - k ∧ (2 * zy_n (zy_a N D x u lo) D.toNat + 1 ≤ 129 - k ∨ ∃ j : Int, 0 ≤ j ∧ j < D ∧ zy_sb N u j = 1 ∧ zy_in N D x u lo j))) → zy_st g dr x s fm fw lo w → ∃ (y : fx_U) (lo2 : Int), kL_X0_suspectOneWay_73 hi (N 0) x dr f lo k w = y ∧ (∀ c : Nat, c ≠ dr → ∀ j : Nat, y c j = u c j) ∧ (lo1 ≤ lo2 ∧ hi < lo2 ∧ lo2 ≤ 10200) ∧ zy_st g dr x s fm fw lo2 y := by
  have hD := H.2.2.2.1
  intro f
  induction f with
  | zero => intro k lo w _ h; omega
  | succ f ih =>
    intro k lo w h1 _ hk hl hw M S
    have eB : kL_X0_suspectOneWay_73 hi (N 0) x dr (f + 1) lo k w = kB_X0_suspectOneWay_73 (kL_X0_suspectOneWay_73 hi (N 0) x dr f) hi (N 0) x dr lo k w := rfl
    rw [eB]
    unfold kB_X0_suspectOneWay_73 kJ_X0_suspectOneWay_125
    simp only [fz_lt, fz_ls]
    have ab := zy_nb (f := zy_a N D x u lo) D.toNat (zy_a01 lo)
    -- a dot to be spared that is hit at lo is counted
    have one : ∀ j : Int, 0 ≤ j → j < D → zy_sb N u j = 1 → zy_in N D x u lo j → ∀ lo2 : Int, lo ≤ lo2 → zy_F N D x u j + u (N 7) j.toNat ≤ lo2 → zy_n (zy_a N D x u lo2) D.toNat + 1 ≤ zy_n (zy_a N D x u lo) D.toNat := fun j j0 j1 js ji lo2 h2 h3 => by
      have hj : ((j.toNat : Nat) : Int) = j := by omega
      refine zy_nlt (k := j.toNat) ?_ D.toNat (by omega) (fun q _ => zy_am h2 _)
      rw [hj]
      unfold zy_a
      have c1 : ¬ (zy_sb N u j = 1 ∧ lo2 < zy_F N D x u j + u (N 7) j.toNat) := fun c => by
        have := c.2
        omega
      have c2 : zy_sb N u j = 1 ∧ lo < zy_F N D x u j + u (N 7) j.toNat := ⟨js, ji.2⟩
      rw [if_neg c1, if_pos c2]
      decide
    by_cases c1 : 128 < k
    · rw [if_pos c1]
      refine ⟨w, lo, rfl, hw, ⟨hl.1, ?_, hl.2⟩, S⟩
      rcases M with M | ⟨M1, M2⟩
      · exact M
      · rcases M2 with M2 | ⟨j, j0, j1, js, ji⟩
        · omega
        · have o := one j j0 j1 js ji (zy_F N D x u j + u (N 7) j.toNat) (by have := ji.2; omega) (Int.le_refl _)
          have ab2 := zy_nb (f := zy_a N D x u (zy_F N D x u j + u (N 7) j.toNat)) D.toNat (zy_a01 _)
          omega
    · by_cases c2 : hi < lo
      · rw [if_neg c1, if_pos c2]
        exact ⟨w, lo, rfl, hw, ⟨hl.1, c2, hl.2⟩, S⟩
      · rw [if_neg c1, if_neg c2]
        obtain ⟨Hw, esb, -, eF, ein, e7⟩ := zy_mv (x := x) H nd hw
        obtain ⟨q1, f1, f2, f3, f4⟩ := zy_free (x := x) (m := lo) Hw ⟨by omega, hl.2⟩ 65 lo 0 (by omega) (by decide) (by decide) ⟨by omega, hl.2⟩
        have fr : f_X0_freeFrom w (N 0) x lo = q1 := by
          unfold f_X0_freeFrom
          rw [show Int.toNat (64 - 0) + 1 = 65 from rfl]
          exact f1
        have sh : fx_b_add hi 1 = hi + 1 := zz_wadd (zz_sml ⟨by omega, by omega⟩) (zz_sml ⟨by decide, by decide⟩) (zz_sml ⟨by omega, by omega⟩)
        obtain ⟨q2, n1, n2, n3, n4⟩ := zy_next (x := x) (m := q1) Hw ⟨by omega, f2.2⟩ 65 (hi + 1) 0 (by omega) (by decide) (by decide) ⟨by omega, by omega⟩
        have nx : f_X0_nextHit w (N 0) x q1 hi = q2 := by
          unfold f_X0_nextHit
          simp only [fz_lt, sh, show Int.toNat (64 - 0) + 1 = 65 from rfl]
          exact n1
        rw [esb, ein, eF, e7] at f3 f4
        rw [esb, eF, e7] at n3 n4
        rw [fr, nx]
        have bad : ∀ m : Int, lo ≤ m → m < q1 → g m = 0 := fun m m0 m1 => by
          rcases f3 with e | ⟨j, j0, j1, js, ji, je⟩
          · omega
          · rcases g01 m with t | t
            · exact t
            · have z := ((G m).mp t).2.2 j j0 j1 js
              exact absurd ⟨by have := ji.1; omega, by omega⟩ z
        have inn : ∀ (m j : Int), zy_in N D x u m j ↔ (zy_F N D x u j ≤ m ∧ m < zy_F N D x u j + u (N 7) j.toNat) := fun m j => Iff.rfl
        by_cases c3 : q1 < q2
        · have good : ∀ m : Int, q1 ≤ m → m < q2 → g m = 1 := fun m m0 m1 => by
            refine (G m).mpr ⟨by omega, by omega, fun j j0 j1 js ji => ?_⟩
            have z := (inn m j).mp ji
            rcases n4 j j0 j1 js (by omega) with e | e
            · omega
            · omega
          have ss : fx_b_sub q2 q1 = q2 - q1 := zz_wsub (zz_sml ⟨by omega, by omega⟩) (zz_sml ⟨by omega, by omega⟩) (zz_sml ⟨by omega, by omega⟩)
          obtain ⟨S', fy⟩ := zy_note (q1 := q1) (q2 := q2) g01 s0 (by omega) f2.1 c3 (by omega) bad good S
          obtain ⟨y, hy⟩ : ∃ y : fx_U, y = f_X0_note w dr q1 x (q2 - q1) := ⟨_, rfl⟩
          rw [← hy] at S' fy
          have mx : f_J9_max_7cf53 y q1 q2 = q2 := by
            unfold f_J9_max_7cf53
            rw [if_pos c3]
          rw [if_pos c3, ss, ← hy, mx]
          refine ih (k + 1) q2 y (by omega) (by omega) ⟨by omega, by omega⟩ ⟨by omega, by omega⟩ (fun c hc j => (fy c hc j).trans (hw c hc j)) ?_ S'
          rcases M with M | ⟨M1, M2⟩
          · exact absurd M c2
          · by_cases ins : ∃ j : Int, 0 ≤ j ∧ j < D ∧ zy_sb N u j = 1 ∧ zy_in N D x u lo j
            · obtain ⟨j, j0, j1, js, ji⟩ := ins
              have o := one j j0 j1 js ji q2 (by omega) (by have := f4 j j0 j1 js ji; omega)
              exact Or.inr ⟨by omega, Or.inl (by omega)⟩
            · have e1 : q1 = lo := by
                rcases f3 with e | ⟨j, j0, j1, js, ji, je⟩
                · exact e
                · exact absurd ⟨j, j0, j1, js, ji⟩ ins
              rcases n3 with e | ⟨j, j0, j1, js, jd, jc⟩
              · exact Or.inl (by omega)
              · have cm := zy_nle (f := zy_a N D x u q2) (g := zy_a N D x u lo) D.toNat (fun q _ => zy_am (by omega) _)
                rcases M2 with M2 | M2
                · rcases jc with ⟨y1, y2⟩ | ⟨y1, y2⟩
                  · omega
                  · obtain ⟨-, -, d0⟩ := zy_s1 js
                    exact Or.inr ⟨by omega, Or.inr ⟨j, j0, j1, js, by omega, by omega⟩⟩
                · exact absurd M2 ins
        · have mx : f_J9_max_7cf53 w q1 q2 = q1 := by
            unfold f_J9_max_7cf53
            rw [if_neg c3]
          rw [if_neg c3, mx]
          refine ih (k + 1) q1 w (by omega) (by omega) ⟨by omega, by omega⟩ ⟨by omega, f2.2⟩ hw ?_ (zy_skip (by omega) f2.1 bad S)
          rcases M with M | ⟨M1, M2⟩
          · exact absurd M c2
          · by_cases ins : ∃ j : Int, 0 ≤ j ∧ j < D ∧ zy_sb N u j = 1 ∧ zy_in N D x u lo j
            · obtain ⟨j, j0, j1, js, ji⟩ := ins
              have o := one j j0 j1 js ji q1 (by omega) (f4 j j0 j1 js ji)
              exact Or.inr ⟨by omega, Or.inl (by omega)⟩
            · have e1 : q1 = lo := by
                rcases f3 with e | ⟨j, j0, j1, js, ji, je⟩
                · exact e
                · exact absurd ⟨j, j0, j1, js, ji⟩ ins
              rcases n3 with e | ⟨j, j0, j1, js, jd, jc⟩
              · omega
              · exact absurd ⟨j, j0, j1, js, (inn lo j).mpr ⟨by omega, by omega⟩⟩ ins
/-- one way, whole -/
theorem zy_way {s fm fw : Int} (H : zy_H N b a2 D T u v) (nd : ∀ k : Nat, k ≤ 14 → N k ≠ dr) (s0 : 0 ≤ s ∧ s ≤ 20000) (hw : ∀ c : Nat, c ≠ dr → ∀ j : Nat, w c j = u c j) (e1 : w dr 1 = s) (e2 : w dr 2 = fm) (e3 : w dr 3 = fw) : ∃ y : fx_U, f_X0_suspectOneWay w dr (N 0) x = y ∧ (∀ c : Nat, c ≠ dr → ∀ j : Nat, y c j = u c j) ∧ y dr 1 = s + zy_n (zy_c a2 T x v) (T + 1).toNat ∧ (((∀ m : Int, zy_c a2 T x v m = 0) ∧ y dr 2 = fm ∧ y dr 3 = fw) ∨ ∃ p : Int, (0 ≤ p ∧ p ≤ T) ∧ zy_c a2 T x v p = 1 ∧ (∀ m : Int, m < p → zy_c a2 T x v m = 0) ∧ zy_up dr x s fm fw p y) := by
  have hD := H.2.2.2.1
  have hT : 0 ≤ T ∧ T ≤ 9999 := by
    have h := H.2.2.1.1.2.2.2.2
    rw [H.2.2.2.2] at h
    exact h
  obtain ⟨Hw, esb, ehb, eF, ein, e7⟩ := zy_mv (x := x) H nd hw
  have wT : w (N 0) 17 = T := Hw.2.2.2.2
  obtain ⟨lo1, hi, r1, r2, r3, r4⟩ := zy_rng (x := x) (dr := dr) Hw 65 0 T 0 (by omega) (by decide) (by decide) ⟨by decide, by decide⟩ ⟨by omega, by omega⟩
  rw [ehb, ein] at r4
  obtain ⟨g, hg⟩ : ∃ g : Int → Int, g = zy_c a2 T x v := ⟨_, rfl⟩
  have gc : ∀ m : Int, (g m = 0 ∨ g m = 1) ∧ (g m = 1 ↔ ((0 ≤ m ∧ m ≤ T) ∧ ∀ j : Int, 0 ≤ j → j < D → zy_ok N D x u m j)) := fun m => by
    rw [hg]
    exact zy_cg H
  have G : ∀ m : Int, g m = 1 ↔ (lo1 ≤ m ∧ m ≤ hi ∧ ∀ j : Int, 0 ≤ j → j < D → zy_sb N u j = 1 → ¬ zy_in N D x u m j) := fun m => by
    refine (gc m).2.trans ⟨fun h => ?_, fun h => ?_⟩
    · have z := (r4 m).mpr ⟨h.1.1, h.1.2, fun j j0 j1 j2 => (h.2 j j0 j1 (zy_h1 j2)).mpr j2⟩
      refine ⟨z.1, z.2, fun j j0 j1 js ji => ?_⟩
      obtain ⟨p, k0, -⟩ := zy_s1 js
      have := (h.2 j j0 j1 p).mp ji
      omega
    · have z := (r4 m).mp ⟨h.1, h.2.1⟩
      refine ⟨⟨z.1, z.2.1⟩, fun j j0 j1 p => ⟨fun ji => ?_, fun k => z.2.2 j j0 j1 k⟩⟩
      rcases (zy_01 : zy_hb N u j = 0 ∨ zy_hb N u j = 1) with t | t
      · rcases (zy_s01 : zy_sb N u j = 0 ∨ zy_sb N u j = 1) with q | q
        · have d := zy_s0 q p t
          have i1 : zy_F N D x u j ≤ m := ji.1
          have i2 : m < zy_F N D x u j + u (N 7) j.toNat := ji.2
          omega
        · exact absurd ji (h.2.2 j j0 j1 q)
      · exact t
  have ab := zy_nb (f := zy_a N D x u lo1) D.toNat (zy_a01 lo1)
  have hz : zy_st g dr x s fm fw lo1 w := by
    have z : ∀ m : Int, m < lo1 → g m = 0 := fun m hm => by
      rcases (gc m).1 with t | t
      · exact t
      · have := ((G m).mp t).1
        omega
    refine ⟨?_, Or.inl ⟨z, e2, e3⟩⟩
    rw [e1, zy_n0 (Int.le_refl 0) r2.1 (fun m _ hm => z m hm)]
    show s = s + 0
    omega
  obtain ⟨y, lo2, y1, y2, y3, y4⟩ := zy_loop (s := s) (fm := fm) (fw := fw) H nd (fun m => (gc m).1) s0 r2.1 ⟨r3.1, by omega⟩ G 130 0 lo1 w (by decide) (by decide) ⟨by decide, by decide⟩ ⟨Int.le_refl _, by omega⟩ hw (Or.inr ⟨by omega, Or.inl (by omega)⟩) hz
  have late : ∀ m : Int, hi < m → g m = 0 := fun m hm => by
    rcases (gc m).1 with t | t
    · exact t
    · have := ((G m).mp t).2.1
      omega
  refine ⟨y, ?_, y2, ?_, ?_⟩
  · unfold f_X0_suspectOneWay
    simp only [fz_lt, wT, show Int.toNat (64 - 0) + 1 = 65 from rfl]
    rw [r1]
    exact y1
  · rw [y4.1, ← hg]
    by_cases c : lo2 ≤ T + 1
    · rw [zy_n0 (b := T + 1) (by omega) c (fun m m0 _ => late m (by omega))]
    · rw [zy_n0 (a := T + 1) (b := lo2) (by omega) (by omega) (fun m m0 _ => late m (by omega))]
  · rw [← hg]
    rcases y4.2 with ⟨z, k⟩ | ⟨p, p0, gp, pm, up⟩
    · refine Or.inl ⟨fun m => ?_, k⟩
      by_cases c : m < lo2
      · exact z m c
      · exact late m (by omega)
    · exact Or.inr ⟨p, ⟨p0.1, by have := ((G p).mp gp).2.1; omega⟩, gp, pm, up⟩
/-- the reference's loop -/
def zy_h (g0 g1 : Int → Int) (c : Int) : Int := if c % 2 = 0 then g0 (c / 2) else g1 (c / 2)
theorem zy_h2 (g0 g1 : Int → Int) : ∀ n : Nat, zy_n (zy_h g0 g1) (2 * n) = zy_n g0 n + zy_n g1 n := by
  intro n
  induction n with
  | zero => rfl
  | succ n ih =>
    show zy_n (zy_h g0 g1) (2 * n) + zy_h g0 g1 ((2 * n : Nat) : Int) + zy_h g0 g1 ((2 * n + 1 : Nat) : Int) = (zy_n g0 n + g0 (n : Int)) + (zy_n g1 n + g1 (n : Int))
    have a : zy_h g0 g1 ((2 * n : Nat) : Int) = g0 (n : Int) := by
      unfold zy_h
      rw [if_pos (by omega), show ((2 * n : Nat) : Int) / 2 = (n : Int) by omega]
    have b : zy_h g0 g1 ((2 * n + 1 : Nat) : Int) = g1 (n : Int) := by
      unfold zy_h
      rw [if_neg (by omega), show ((2 * n + 1 : Nat) : Int) / 2 = (n : Int) by omega]
    rw [ih, a, b]
    omega
theorem zy_rl {x1 : Int} (H : zy_H N b a2 D T u v) {g0 g1 : Int → Int} (h0 : g0 = zy_c a2 T 0 v) (h1 : g1 = zy_c a2 T 1 v) : ∀ (f : Nat) (n q c : Int), 2 * T + 2 - c < (f : Int) → 0 < f → (0 ≤ c ∧ c ≤ 2 * T + 2) → n = zy_n (zy_h g0 g1) c.toNat → ((q = -1 ∧ ∀ e : Int, 0 ≤ e → e < c → zy_h g0 g1 e = 0) ∨ ((0 ≤ q ∧ q < c) ∧ zy_h g0 g1 q = 1 ∧ ∀ e : Int, 0 ≤ e → e < q → zy_h g0 g1 e = 0)) → ∃ q2 : Int, kL_X12_who_18 v a2 x1 f n q c = (if x1 = 0 then zy_n (zy_h g0 g1) (2 * T + 2).toNat else if q2 = -1 then -2 else if x1 = 1 then q2 / 2 else q2 % 2) ∧ ((q2 = -1 ∧ ∀ e : Int, 0 ≤ e → e < 2 * T + 2 → zy_h g0 g1 e = 0) ∨ ((0 ≤ q2 ∧ q2 < 2 * T + 2) ∧ zy_h g0 g1 q2 = 1 ∧ ∀ e : Int, 0 ≤ e → e < q2 → zy_h g0 g1 e = 0)) := by
  have hT : 0 ≤ T ∧ T ≤ 9999 := by
    have h := H.2.2.1.1.2.2.2.2
    rw [H.2.2.2.2] at h
    exact h
  have vb : v a2 0 = (b : Int) := H.2.1
  have vT : v b 513 = T := by
    have h := H.2.2.1.1.2.2.2.1
    rw [H.2.2.2.2] at h
    exact h.symm
  have g01 : ∀ e : Int, zy_h g0 g1 e = 0 ∨ zy_h g0 g1 e = 1 := fun e => by
    unfold zy_h
    by_cases c : e % 2 = 0
    · rw [if_pos c, h0]
      exact (zy_cg H).1
    · rw [if_neg c, h1]
      exact (zy_cg H).1
  intro f
  induction f with
  | zero => intro n q c _ h; omega
  | succ f ih =>
    intro n q c f1 _ hc hn hq
    have eB : kL_X12_who_18 v a2 x1 (f + 1) n q c = kB_X12_who_18 (kL_X12_who_18 v a2 x1 f) v a2 x1 n q c := rfl
    rw [eB]
    have sm : fx_b_mul 2 T = 2 * T := zz_wmul (zz_sml ⟨by decide, by decide⟩) (zz_sml ⟨by omega, by omega⟩) (zz_sml ⟨by omega, by omega⟩)
    have sa : fx_b_add (2 * T) 2 = 2 * T + 2 := zz_wadd (zz_sml ⟨by omega, by omega⟩) (zz_sml ⟨by decide, by decide⟩) (zz_sml ⟨by omega, by omega⟩)
    unfold kB_X12_who_18 kJ_X12_who_68 kJ_X12_who_63
    simp only [fz_lr, fz_lt, vb, Int.toNat_natCast, show Int.toNat 513 = 513 from rfl, vT, sm, sa]
    by_cases d : c < 2 * T + 2
    · have cb : f_X12_couldBe v a2 (c / 2) (c % 2) = zy_h g0 g1 c := by
        unfold zy_h
        by_cases e : c % 2 = 0
        · rw [if_pos e, h0, e]
          unfold zy_c
          rw [if_pos (by omega)]
        · rw [if_neg e, h1, show c % 2 = 1 by omega]
          unfold zy_c
          rw [if_pos (by omega)]
      have nb := zy_nb (f := zy_h g0 g1) c.toNat (fun j => by rcases g01 j with e | e <;> omega)
      have sn : fx_b_add n 1 = n + 1 := zz_wadd (zz_sml ⟨by omega, by omega⟩) (zz_sml ⟨by decide, by decide⟩) (zz_sml ⟨by omega, by omega⟩)
      have nx : zy_n (zy_h g0 g1) (c + 1).toNat = n + zy_h g0 g1 c := by
        rw [show (c + 1).toNat = c.toNat + 1 by omega]
        show zy_n (zy_h g0 g1) c.toNat + zy_h g0 g1 ((c.toNat : Nat) : Int) = _
        rw [show ((c.toNat : Nat) : Int) = c by omega, ← hn]
      rw [if_pos d, cb, sn]
      rcases g01 c with t | t
      · rw [if_pos t]
        refine ih n q (c + 1) (by omega) (by omega) ⟨by omega, by omega⟩ (by rw [nx, t]; omega) ?_
        rcases hq with ⟨q1, q2⟩ | ⟨q1, q2, q3⟩
        · refine Or.inl ⟨q1, fun e e0 e1 => ?_⟩
          by_cases y : e = c
          · rw [y]
            exact t
          · exact q2 e e0 (by omega)
        · exact Or.inr ⟨⟨q1.1, by omega⟩, q2, q3⟩
      · rw [if_neg (show ¬ zy_h g0 g1 c = 0 by omega)]
        rcases hq with ⟨q1, q2⟩ | ⟨q1, q2, q3⟩
        · have nz : n = 0 := by
            rw [hn]
            exact zy_n0 (g := zy_h g0 g1) (a := 0) (b := c) (Int.le_refl 0) hc.1 (fun m m0 m1 => q2 m m0 m1)
          rw [if_pos nz]
          exact ih (n + 1) c (c + 1) (by omega) (by omega) ⟨by omega, by omega⟩ (by rw [nx, t]) (Or.inr ⟨⟨hc.1, by omega⟩, t, q2⟩)
        · have nz : ¬ n = 0 := by
            have k := zy_nlt (f := fun _ => 0) (g := zy_h g0 g1) (k := q.toNat) (by rw [show ((q.toNat : Nat) : Int) = q by omega, q2]; decide) c.toNat (by omega) (fun j _ => by rcases g01 (j : Int) with e | e <;> omega)
            have k0 := zy_nb (f := fun _ => 0) c.toNat (fun _ => by decide)
            omega
          rw [if_neg nz]
          exact ih (n + 1) q (c + 1) (by omega) (by omega) ⟨by omega, by omega⟩ (by rw [nx, t]) (Or.inr ⟨⟨q1.1, by omega⟩, q2, q3⟩)
    · have e : c = 2 * T + 2 := by omega
      rw [if_neg d, hn, ← e]
      exact ⟨q, rfl, hq⟩
theorem zy_t2 {T : Int} (h : 0 ≤ T) : (2 * T + 2).toNat = 2 * (T + 1).toNat := by omega
theorem zy_q2 {q T : Int} (h : 0 ≤ q ∧ q < 2 * T + 2) : 0 ≤ q / 2 ∧ q / 2 < T + 1 := by omega
theorem zy_pos {g : Int → Int} {p n : Int} (g01 : ∀ m : Int, g m = 0 ∨ g m = 1) (p0 : 0 ≤ p) (pn : p < n) (gp : g p = 1) : 1 ≤ zy_n g n.toNat := by
  have k := zy_nlt (f := fun _ => 0) (g := g) (k := p.toNat) (by rw [show ((p.toNat : Nat) : Int) = p by omega, gp]; decide) n.toNat (by omega) (fun j _ => by rcases g01 (j : Int) with e | e <;> omega)
  have k0 := zy_nb (f := fun _ => 0) n.toNat (fun _ => by decide)
  omega
/-- who drove over, whole -/
theorem zy_who {x1 : Int} (H : zy_H N b a2 D T u v) (nd : ∀ k : Nat, k ≤ 14 → N k ≠ dr) (h5 : u a1 5 = (N 0 : Int)) (h11 : u a1 11 = (dr : Int)) : (f_X11_who u a1 x1).1 = f_X12_who v a2 x1 := by
  have hT : 0 ≤ T ∧ T ≤ 9999 := by
    have h := H.2.2.1.1.2.2.2.2
    rw [H.2.2.2.2] at h
    exact h
  obtain ⟨g0, hg0⟩ : ∃ g : Int → Int, g = zy_c a2 T 0 v := ⟨_, rfl⟩
  obtain ⟨g1, hg1⟩ : ∃ g : Int → Int, g = zy_c a2 T 1 v := ⟨_, rfl⟩
  obtain ⟨w, hw⟩ : ∃ w : fx_U, w = fx_pt (fx_pt (fx_pt u dr 1 0) dr 2 (-2)) dr 3 (-2) := ⟨_, rfl⟩
  have w1 : w dr 1 = 0 ∧ w dr 2 = -2 ∧ w dr 3 = -2 := by
    rw [hw]
    exact ⟨(zz_pj (by decide)).trans ((zz_pj (by decide)).trans zz_ps), (zz_pj (by decide)).trans zz_ps, zz_ps⟩
  have wo : ∀ c : Nat, c ≠ dr → ∀ j : Nat, w c j = u c j := fun c hc j => by
    rw [hw]
    exact (zz_pa hc).trans ((zz_pa hc).trans (zz_pa hc))
  obtain ⟨y0, a1', a2', a3, a4⟩ := zy_way (x := 0) (s := 0) (fm := -2) (fw := -2) H nd ⟨by decide, by decide⟩ wo w1.1 w1.2.1 w1.2.2
  rw [← hg0] at a3 a4
  have b0 := zy_nb (f := g0) (T + 1).toNat (fun j => by
    have k : g0 j = 0 ∨ g0 j = 1 := by
      rw [hg0]
      exact (zy_cg H).1
    omega)
  obtain ⟨n0, hn0⟩ : ∃ n : Int, n = zy_n g0 (T + 1).toNat := ⟨_, rfl⟩
  rw [← hn0] at a3 b0
  obtain ⟨y1, c1, c2, c3, c4⟩ := zy_way (x := 1) (s := n0) (fm := y0 dr 2) (fw := y0 dr 3) H nd ⟨by omega, by omega⟩ a2' (by rw [a3]; omega) rfl rfl
  rw [← hg1] at c3 c4
  have eS : f_X0_suspect u dr (N 0) = y1 := by
    unfold f_X0_suspect
    simp only [fz_ls, ← hw, show Int.toNat (2 - 0) + 1 = 3 from rfl]
    show kB_X0_suspect_19 (kL_X0_suspect_19 dr (N 0) 2) dr (N 0) 0 w = y1
    unfold kB_X0_suspect_19
    simp only [fz_ls, fz_lt, a1']
    rw [if_neg (show ¬ (1 : Int) < 0 by decide)]
    show kB_X0_suspect_19 (kL_X0_suspect_19 dr (N 0) 1) dr (N 0) 1 y0 = y1
    unfold kB_X0_suspect_19
    simp only [fz_ls, fz_lt, c1]
    rw [if_neg (show ¬ (1 : Int) < 1 by decide)]
    show kB_X0_suspect_19 (kL_X0_suspect_19 dr (N 0) 0) dr (N 0) 2 y1 = y1
    unfold kB_X0_suspect_19
    rw [if_pos (show (1 : Int) < 2 by decide)]
  unfold f_X11_who f_X12_who
  simp only [fz_lt, fz_lr, fz_ls, zz_is, zz_is2, h5, h11, Int.toNat_natCast, eS]
  by_cases d : 0 ≤ x1 ∧ x1 ≤ 2
  · obtain ⟨q, k1, k2⟩ := zy_rl (x1 := x1) H hg0 hg1 (Int.toNat (2147483647 - 0) + 1) 0 (-1) 0 (by omega) (by omega) ⟨by decide, by omega⟩ rfl (Or.inl ⟨rfl, fun e e0 e1 => by omega⟩)
    simp only [if_pos d, if_neg zz_n10]
    rw [k1]
    have tot : zy_n (zy_h g0 g1) (2 * T + 2).toNat = n0 + zy_n g1 (T + 1).toNat := by
      rw [zy_t2 hT.1, zy_h2, hn0]
    have hev : ∀ m : Int, zy_h g0 g1 (2 * m) = g0 m := fun m => by
      unfold zy_h
      rw [if_pos (by omega), show 2 * m / 2 = m by omega]
    have hod : ∀ m : Int, zy_h g0 g1 (2 * m + 1) = g1 m := fun m => by
      unfold zy_h
      rw [if_neg (by omega), show (2 * m + 1) / 2 = m by omega]
    by_cases x0 : x1 = 0
    · rw [if_pos x0, if_pos x0]
      show y1 dr 1 = _
      rw [c3, tot]
    · rw [if_neg x0, if_neg x0]
      -- the first two
      have fin : ∀ p w : Int, y1 dr 2 = p → y1 dr 3 = w → p = (if q = -1 then -2 else q / 2) → w = (if q = -1 then -2 else q % 2) → (if x1 = 1 then (y1 dr 2, y1) else (y1 dr 3, y1)).1 = (if q = -1 then -2 else if x1 = 1 then q / 2 else q % 2) := fun p w e1 e2 e3 e4 => by
        by_cases x2 : x1 = 1
        · rw [if_pos x2, if_pos x2]
          show y1 dr 2 = _
          rw [e1, e3]
        · rw [if_neg x2, if_neg x2]
          show y1 dr 3 = _
          rw [e2, e4]
      rcases k2 with ⟨q1, q2⟩ | ⟨q1, q2, q3⟩
      · have z0 : ∀ m : Int, 0 ≤ m → m ≤ T → g0 m = 0 := fun m m0 m1 => (hev m).symm.trans (q2 (2 * m) (by omega) (by omega))
        have z1 : ∀ m : Int, 0 ≤ m → m ≤ T → g1 m = 0 := fun m m0 m1 => (hod m).symm.trans (q2 (2 * m + 1) (by omega) (by omega))
        have r0 : y0 dr 2 = -2 ∧ y0 dr 3 = -2 := by
          rcases a4 with ⟨-, t⟩ | ⟨p, p0, gp, -⟩
          · exact t
          · have := z0 p p0.1 p0.2
            omega
        have r1 : y1 dr 2 = -2 ∧ y1 dr 3 = -2 := by
          rcases c4 with ⟨-, t⟩ | ⟨p, p0, gp, -⟩
          · exact ⟨t.1.trans r0.1, t.2.trans r0.2⟩
          · have := z1 p p0.1 p0.2
            omega
        exact fin _ _ r1.1 r1.2 (by rw [if_pos q1]) (by rw [if_pos q1])
      · have nq : ¬ q = -1 := by omega
        have before0 : ∀ m : Int, 0 ≤ m → 2 * m < q → g0 m = 0 := fun m m0 m1 => (hev m).symm.trans (q3 (2 * m) (by omega) m1)
        have before1 : ∀ m : Int, 0 ≤ m → 2 * m + 1 < q → g1 m = 0 := fun m m0 m1 => (hod m).symm.trans (q3 (2 * m + 1) (by omega) m1)
        by_cases ev : q % 2 = 0
        · have gq : g0 (q / 2) = 1 := by
            rw [← hev, show 2 * (q / 2) = q by omega]
            exact q2
          have r0 : y0 dr 2 = q / 2 ∧ y0 dr 3 = 0 := by
            rcases a4 with ⟨z, -⟩ | ⟨p, p0, gp, pm, up⟩
            · have := z (q / 2)
              omega
            · have e : p = q / 2 := by
                by_cases l1 : p < q / 2
                · have := before0 p p0.1 (by omega)
                  omega
                · by_cases l2 : q / 2 < p
                  · have := pm (q / 2) l2
                    omega
                  · omega
              rcases up with ⟨-, t1, t2⟩ | ⟨⟨t0, -⟩, -⟩
              · exact ⟨t1.trans e, t2⟩
              · exact absurd rfl t0
          have n1 : 1 ≤ n0 := by
            rw [hn0]
            exact zy_pos (fun m => by rw [hg0]; exact (zy_cg H).1) (zy_q2 q1).1 (zy_q2 q1).2 gq
          have r1 : y1 dr 2 = q / 2 ∧ y1 dr 3 = 0 := by
            rcases c4 with ⟨-, t⟩ | ⟨p, p0, gp, pm, up⟩
            · exact ⟨t.1.trans r0.1, t.2.trans r0.2⟩
            · have l : ¬ p < q / 2 := fun l1 => by
                have := before1 p p0.1 (by omega)
                omega
              rcases up with ⟨t0, -⟩ | ⟨-, t1, t2⟩
              · rw [r0.1] at t0
                omega
              · exact ⟨t1.trans r0.1, t2.trans r0.2⟩
          exact fin _ _ r1.1 r1.2 (by rw [if_neg nq]) (by rw [if_neg nq, ev])
        · have gq : g1 (q / 2) = 1 := by
            rw [← hod, show 2 * (q / 2) + 1 = q by omega]
            exact q2
          have z0 : ∀ p : Int, g0 p = 1 → 0 ≤ p → q / 2 < p := fun p gp p0 => by
            by_cases l : 2 * p < q
            · have := before0 p p0 l
              omega
            · omega
          have r1 : y1 dr 2 = q / 2 ∧ y1 dr 3 = 1 := by
            rcases c4 with ⟨z, -⟩ | ⟨p, p0, gp, pm, up⟩
            · have := z (q / 2)
              omega
            · have e : p = q / 2 := by
                by_cases l1 : p < q / 2
                · have := before1 p p0.1 (by omega)
                  omega
                · by_cases l2 : q / 2 < p
                  · have := pm (q / 2) l2
                    omega
                  · omega
              rcases up with ⟨-, t1, t2⟩ | ⟨⟨t0, t3⟩, -⟩
              · exact ⟨t1.trans e, t2⟩
              · rcases a4 with ⟨z, -⟩ | ⟨p1, p2, gp1, pm1, up1⟩
                · have nz : n0 = 0 := by
                    rw [hn0]
                    exact zy_n0 (g := g0) (a := 0) (b := T + 1) (Int.le_refl 0) (by omega) (fun m _ _ => z m)
                  exact absurd nz t0
                · have l := z0 p1 gp1 p2.1
                  rcases up1 with ⟨-, s1, -⟩ | ⟨⟨s0, -⟩, -⟩
                  · rw [s1] at t3
                    omega
                  · exact absurd rfl s0
          exact fin _ _ r1.1 r1.2 (by rw [if_neg nq]) (by rw [if_neg nq]; omega)
  · simp only [if_neg d, if_true]
end WhoB
