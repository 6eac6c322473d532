/-! the reference's law: what its reader keeps -/
def q_kd (v : Value) : Int := match v with
  | .int x => x.toInt / 1048576
  | _ => -1
def q_lo (v : Value) : Int := match v with
  | .int x => x.toInt % 1048576
  | _ => -1
/-- how many of what waits becomes a code -/
def q_wc (f : Nat → Value) : Nat → Int
  | 0 => 0
  | k + 1 => q_wc f k + (if (2 ≤ q_kd (f k) ∧ q_kd (f k) ≤ 6) ∨ q_kd (f k) = 10 then 1 else 0)
/-- how many signs wait -/
def q_sc (f : Nat → Value) : Nat → Int
  | 0 => 0
  | k + 1 => q_sc f k + (if 2 ≤ q_kd (f k) ∧ q_kd (f k) ≤ 6 then 1 else 0)
def q_dl (o : Int) : Int := if o = 0 ∨ o = 1 then 1 else if o = 10 then 0 else -1
/-- how many numbers are at hand ahead of a code -/
def q_dp (f : Nat → Value) (F : Nat) : Nat → Int
  | 0 => 0
  | k + 1 => if k < F then 0 else q_dp f F k + q_dl (q_kd (f k))
def q_pd (fw : Nat → Value) (w : Int) (k : Nat) : Prop := ∃ j : Nat, (j : Int) < w ∧ (q_kd (fw j) = 11 ∨ q_kd (fw j) = 12) ∧ q_lo (fw j) = (k : Int)
def q_ok (fs fw : Nat → Value) (F : Nat) (c w : Int) (k : Nat) (x : Int) : Prop := 0 ≤ x ∧ (x / 1048576 = 0 ∨ (x / 1048576 = 1 ∧ x % 1048576 ≤ 8) ∨ (x / 1048576 = 10 ∧ 1 ≤ q_dp fs F k) ∨
  ((x / 1048576 = 11 ∨ x / 1048576 = 12) ∧ q_dp fs F k = 1 ∧ (q_pd fw w k ∨ ((k : Int) < x % 1048576 ∧ x % 1048576 ≤ c ∧ q_dp fs F (x % 1048576).toNat = 1))) ∨ (2 ≤ x / 1048576 ∧ x / 1048576 ≤ 9 ∧ 2 ≤ q_dp fs F k))
def q_we (fs : Nat → Value) (F : Nat) (c : Int) (y : Int) : Prop := (y / 1048576 = 11 ∨ y / 1048576 = 12) → (F : Int) ≤ y % 1048576 ∧ y % 1048576 < c ∧ (q_kd (fs (y % 1048576).toNat) = 11 ∨ q_kd (fs (y % 1048576).toNat) = 12)
def q_pq (fs fw : Nat → Value) (F : Nat) (c w : Int) : Prop := (∀ k : Nat, F ≤ k → (k : Int) < c → ∃ x : Int32, fs k = .int x ∧ q_ok fs fw F c w k x.toInt) ∧
  (∀ j : Nat, (j : Int) < w → ∃ y : Int32, fw j = .int y ∧ 0 ≤ y.toInt ∧ q_we fs F c y.toInt)
theorem q_dp_eq {f g : Nat → Value} {F : Nat} : ∀ k : Nat, (∀ j, j < k → q_kd (f j) = q_kd (g j)) → q_dp f F k = q_dp g F k
  | 0, _ => rfl
  | k + 1, h => by
    unfold q_dp
    rw [q_dp_eq k (fun j hj => h j (by omega)), h k (by omega)]
theorem q_wc_eq {f g : Nat → Value} : ∀ k : Nat, (∀ j, j < k → f j = g j) → q_wc f k = q_wc g k
  | 0, _ => rfl
  | k + 1, h => by
    unfold q_wc
    rw [q_wc_eq k (fun j hj => h j (by omega)), h k (by omega)]
theorem q_sc_eq {f g : Nat → Value} : ∀ k : Nat, (∀ j, j < k → f j = g j) → q_sc f k = q_sc g k
  | 0, _ => rfl
  | k + 1, h => by
    unfold q_sc
    rw [q_sc_eq k (fun j hj => h j (by omega)), h k (by omega)]
theorem q_dp_F (f : Nat → Value) : ∀ F : Nat, q_dp f F F = 0
  | 0 => rfl
  | k + 1 => by unfold q_dp; rw [if_pos (by omega)]
theorem q_dp_s {f : Nat → Value} {F k : Nat} (h : F ≤ k) : q_dp f F (k + 1) = q_dp f F k + q_dl (q_kd (f k)) := by
  show (if k < F then 0 else q_dp f F k + q_dl (q_kd (f k))) = _
  rw [if_neg (by omega)]
theorem q_wc_nn (f : Nat → Value) : ∀ k : Nat, 0 ≤ q_wc f k
  | 0 => Int.le_refl _
  | k + 1 => by
    have := q_wc_nn f k
    unfold q_wc
    split <;> omega
theorem q_sc_mono (f : Nat → Value) (a : Nat) : ∀ n : Nat, q_sc f a ≤ q_sc f (a + n)
  | 0 => Int.le_refl _
  | n + 1 => by
    have := q_sc_mono f a n
    show _ ≤ q_sc f (a + n) + _
    split <;> omega
theorem q_sc_le {f : Nat → Value} {a b : Nat} (h : a ≤ b) : q_sc f a ≤ q_sc f b := by
  have := q_sc_mono f a (b - a)
  rwa [show a + (b - a) = b by omega] at this
theorem q_uo {f : Nat → Value} {n j : Nat} {v : Value} (h : j ≠ n) : updV f n v j = f j := by simp [updV, h]
theorem q_us {f : Nat → Value} {n : Nat} {v : Value} : updV f n v n = v := by simp [updV]
theorem q_ok.mv {fs fw fs' fw' : Nat → Value} {F k : Nat} {c w c' w' x : Int} (h : q_ok fs fw F c w k x) (hk : (k : Int) ≤ c) (hd : ∀ j : Nat, (j : Int) ≤ c → q_dp fs' F j = q_dp fs F j) (hc : c ≤ c') (hp : q_pd fw w k → q_pd fw' w' k) : q_ok fs' fw' F c' w' k x := by
  obtain ⟨h0, h⟩ := h
  refine ⟨h0, ?_⟩
  rw [hd k hk]
  rcases h with h | h | h | ⟨h1, h2, h3⟩ | h
  · exact Or.inl h
  · exact Or.inr (Or.inl h)
  · exact Or.inr (Or.inr (Or.inl h))
  · refine Or.inr (Or.inr (Or.inr (Or.inl ⟨h1, h2, ?_⟩)))
    rcases h3 with h3 | ⟨h3, h4, h5⟩
    · exact Or.inl (hp h3)
    · exact Or.inr ⟨h3, by omega, by rw [hd _ (by omega)]; exact h5⟩
  · exact Or.inr (Or.inr (Or.inr (Or.inr h)))
theorem q_pq.note {fs fw : Nat → Value} {F : Nat} {c w : Int} {x : Int32} (h : q_pq fs fw F c w) (hF : (F : Int) ≤ c) (hx : q_ok fs fw F c w c.toNat x.toInt) :
    q_pq (updV fs c.toNat (.int x)) fw F (c + 1) w ∧ (∀ j : Nat, (j : Int) ≤ c → q_dp (updV fs c.toNat (.int x)) F j = q_dp fs F j) ∧ q_dp (updV fs c.toNat (.int x)) F (c + 1).toNat = q_dp fs F c.toNat + q_dl (x.toInt / 1048576) := by
  have hd : ∀ j : Nat, (j : Int) ≤ c → q_dp (updV fs c.toNat (.int x)) F j = q_dp fs F j := fun j hj => q_dp_eq j (fun i hi => by rw [q_uo (by omega)])
  refine ⟨⟨fun k k1 k2 => ?_, fun j hj => ?_⟩, hd, ?_⟩
  · by_cases hk : k = c.toNat
    · subst hk
      exact ⟨x, q_us, hx.mv (by omega) hd (by omega) (fun q => q)⟩
    · obtain ⟨y, y1, y2⟩ := h.1 k k1 (by omega)
      exact ⟨y, by rw [q_uo hk]; exact y1, y2.mv (by omega) hd (by omega) (fun q => q)⟩
  · obtain ⟨y, y1, y2, y3⟩ := h.2 j hj
    refine ⟨y, y1, y2, fun q => ?_⟩
    obtain ⟨z1, z2, z3⟩ := y3 q
    exact ⟨z1, by omega, by rw [q_uo (by omega)]; exact z3⟩
  · rw [show (c + 1).toNat = c.toNat + 1 by omega, q_dp_s (by omega), hd _ (by omega), q_us]
    rfl
theorem q_pq.push {fs fw : Nat → Value} {F : Nat} {c w : Int} {y : Int32} (h : q_pq fs fw F c w) (hw : 0 ≤ w) (hy : 0 ≤ y.toInt) (hk : ¬ (y.toInt / 1048576 = 11 ∨ y.toInt / 1048576 = 12)) : q_pq fs (updV fw w.toNat (.int y)) F c (w + 1) := by
  refine ⟨fun k k1 k2 => ?_, fun j hj => ?_⟩
  · obtain ⟨x, x1, x2⟩ := h.1 k k1 k2
    refine ⟨x, x1, x2.mv (by omega) (fun _ _ => rfl) (Int.le_refl _) ?_⟩
    intro ⟨j, j1, j2, j3⟩
    exact ⟨j, by omega, by rw [q_uo (by omega)]; exact j2, by rw [q_uo (by omega)]; exact j3⟩
  · by_cases hj2 : j = w.toNat
    · subst hj2
      exact ⟨y, q_us, hy, fun q => absurd q hk⟩
    · rw [q_uo hj2]
      exact h.2 j (by omega)
theorem q_kd_int {v : Value} {x : Int32} (h : v = .int x) : q_kd v = x.toInt / 1048576 := by rw [h]; rfl
theorem q_lo_int {v : Value} {x : Int32} (h : v = .int x) : q_lo v = x.toInt % 1048576 := by rw [h]; rfl
theorem q_pq.pop {fs fw : Nat → Value} {F : Nat} {c w : Int} (h : q_pq fs fw F c w) (hw : 1 ≤ w) (hk : ¬ (q_kd (fw (w - 1).toNat) = 11 ∨ q_kd (fw (w - 1).toNat) = 12)) : q_pq fs fw F c (w - 1) := by
  refine ⟨fun k k1 k2 => ?_, fun j hj => h.2 j (by omega)⟩
  obtain ⟨x, x1, x2⟩ := h.1 k k1 k2
  refine ⟨x, x1, x2.mv (by omega) (fun _ _ => rfl) (Int.le_refl _) ?_⟩
  intro ⟨j, j1, j2, j3⟩
  refine ⟨j, ?_, j2, j3⟩
  by_cases e : j = (w - 1).toNat
  · subst e; exact absurd j2 hk
  · omega
theorem q_pq.land {fs fw : Nat → Value} {F : Nat} {c w : Int} {x : Int32} (h : q_pq fs fw F c w) (hw : 1 ≤ w) (hc : c ≤ 260) (hk : q_kd (fw (w - 1).toNat) = 11 ∨ q_kd (fw (w - 1).toNat) = 12) (hd : q_dp fs F c.toNat = 1)
    (hx : x.toInt = 1048576 * q_kd (fs (q_lo (fw (w - 1).toNat)).toNat) + c) :
    q_pq (updV fs (q_lo (fw (w - 1).toNat)).toNat (.int x)) fw F c (w - 1) ∧ (∀ j : Nat, q_dp (updV fs (q_lo (fw (w - 1).toNat)).toNat (.int x)) F j = q_dp fs F j) ∧ F ≤ (q_lo (fw (w - 1).toNat)).toNat ∧ q_lo (fw (w - 1).toNat) < c := by
  obtain ⟨y, y1, y2, y3⟩ := h.2 (w - 1).toNat (by omega)
  rw [q_kd_int y1] at hk
  rw [q_lo_int y1] at hx ⊢
  obtain ⟨z1, z2, z3⟩ := y3 hk
  have hz := Int.emod_nonneg y.toInt (show (1048576 : Int) ≠ 0 by decide)
  have ez : (((y.toInt % 1048576).toNat : Nat) : Int) = y.toInt % 1048576 := by omega
  generalize hm : (y.toInt % 1048576).toNat = m at *
  have hkd : ∀ j : Nat, q_kd (updV fs m (.int x) j) = q_kd (fs j) := fun j => by
    by_cases e : j = m
    · rw [e, q_us]
      show x.toInt / 1048576 = _
      omega
    · rw [q_uo e]
  have hdp : ∀ j : Nat, q_dp (updV fs m (.int x)) F j = q_dp fs F j := fun j => q_dp_eq j (fun i _ => hkd i)
  refine ⟨⟨fun k k1 k2 => ?_, fun j hj => ?_⟩, hdp, by omega, by omega⟩
  · by_cases e : k = m
    · obtain ⟨u, u1, u2⟩ := h.1 k k1 k2
      subst e
      refine ⟨x, q_us, ?_⟩
      rw [q_kd_int u1] at hx z3
      have hx1 : x.toInt / 1048576 = u.toInt / 1048576 := by omega
      have hx2 : x.toInt % 1048576 = c := by omega
      have hdk : q_dp fs F k = 1 := by
        obtain ⟨-, u2⟩ := u2
        rcases u2 with u2 | u2 | u2 | u2 | u2
        · omega
        · omega
        · omega
        · exact u2.2.1
        · omega
      refine ⟨by omega, Or.inr (Or.inr (Or.inr (Or.inl ⟨by omega, by rw [hdp]; exact hdk, Or.inr ⟨by omega, by omega, ?_⟩⟩)))⟩
      rw [hx2, hdp]
      exact hd
    · obtain ⟨u, u1, u2⟩ := h.1 k k1 k2
      refine ⟨u, by rw [q_uo e]; exact u1, u2.mv (by omega) (fun j _ => hdp j) (Int.le_refl _) ?_⟩
      intro ⟨j, j1, j2, j3⟩
      refine ⟨j, ?_, j2, j3⟩
      by_cases ej : j = (w - 1).toNat
      · subst ej
        rw [q_lo_int y1] at j3
        omega
      · omega
  · obtain ⟨v, v1, v2, v3⟩ := h.2 j (by omega)
    refine ⟨v, v1, v2, fun q => ?_⟩
    obtain ⟨t1, t2, t3⟩ := v3 q
    exact ⟨t1, t2, by rw [hkd]; exact t3⟩
theorem q_pq.jump {fs fw : Nat → Value} {F : Nat} {c w : Int} {x y : Int32} {o : Int} (h : q_pq fs fw F c w) (hF : (F : Int) ≤ c) (hc : c ≤ 260) (hw : 0 ≤ w) (ho : o = 11 ∨ o = 12) (hx : x.toInt = 1048576 * o) (hy : y.toInt = 1048576 * o + c) (hd : q_dp fs F c.toNat = 1) :
    q_pq (updV fs c.toNat (.int x)) (updV fw w.toNat (.int y)) F (c + 1) (w + 1) ∧ q_dp (updV fs c.toNat (.int x)) F (c + 1).toNat = 0 := by
  have hdp : ∀ j : Nat, (j : Int) ≤ c → q_dp (updV fs c.toNat (.int x)) F j = q_dp fs F j := fun j hj => q_dp_eq j (fun i hi => by rw [q_uo (by omega)])
  refine ⟨⟨fun k k1 k2 => ?_, fun j hj => ?_⟩, ?_⟩
  · by_cases hk : k = c.toNat
    · subst hk
      refine ⟨x, q_us, by omega, Or.inr (Or.inr (Or.inr (Or.inl ⟨by omega, by rw [hdp _ (by omega)]; exact hd, Or.inl ⟨w.toNat, by omega, ?_, ?_⟩⟩)))⟩
      · rw [q_us]; show y.toInt / 1048576 = 11 ∨ y.toInt / 1048576 = 12; omega
      · rw [q_us]; show y.toInt % 1048576 = _; omega
    · obtain ⟨u, u1, u2⟩ := h.1 k k1 (by omega)
      refine ⟨u, by rw [q_uo hk]; exact u1, u2.mv (by omega) hdp (by omega) ?_⟩
      intro ⟨j, j1, j2, j3⟩
      exact ⟨j, by omega, by rw [q_uo (by omega)]; exact j2, by rw [q_uo (by omega)]; exact j3⟩
  · by_cases hj2 : j = w.toNat
    · subst hj2
      refine ⟨y, q_us, by omega, fun _ => ⟨by omega, by omega, ?_⟩⟩
      rw [show (y.toInt % 1048576).toNat = c.toNat by omega, q_us]
      show x.toInt / 1048576 = 11 ∨ x.toInt / 1048576 = 12
      omega
    · rw [q_uo hj2]
      obtain ⟨v, v1, v2, v3⟩ := h.2 j (by omega)
      refine ⟨v, v1, v2, fun q => ?_⟩
      obtain ⟨t1, t2, t3⟩ := v3 q
      exact ⟨t1, by omega, by rw [q_uo (by omega)]; exact t3⟩
  · rw [show (c + 1).toNat = c.toNat + 1 by omega, q_dp_s (by omega), hdp _ (by omega), q_us, hd]
    show 1 + q_dl (x.toInt / 1048576) = 0
    rw [show x.toInt / 1048576 = o by omega]
    rcases ho with rfl | rfl <;> rfl
/-- bounds -/
def q_bn (fw : Nat → Value) (F : Nat) (c w K p : Int) : Prop := (F : Int) ≤ c ∧ 0 ≤ w ∧ c + q_wc fw w.toNat + K ≤ p ∧ w ≤ p ∧ p ≤ 260 ∧ 0 ≤ K
def q_sm (fs fw S0 : Nat → Value) (F : Nat) (c w K p base D : Int) : Prop := q_pq fs fw F c w ∧ q_bn fw F c w K p ∧ q_dp fs F c.toNat = D + q_sc fw w.toNat - q_sc fw base.toNat ∧ 0 ≤ base ∧ base ≤ w ∧ (∀ j : Nat, (j : Int) + 1 = base → ¬ (2 ≤ q_kd (fw j) ∧ q_kd (fw j) ≤ 6)) ∧ ∀ k : Nat, k < F → fs k = S0 k
def q_cn (fs fw S0 : Nat → Value) (F : Nat) (c w K p D : Int) : Prop := q_pq fs fw F c w ∧ q_bn fw F c w K p ∧ q_dp fs F c.toNat = D ∧ (∀ k : Nat, k < F → fs k = S0 k) ∧ (∀ j : Nat, (j : Int) < w → 10 ≤ q_kd (fw j) ∧ q_kd (fw j) ≤ 13) ∧ (0 < w → q_kd (fw 0) = 13)
section Smp
variable {fs fw S0 : Nat → Value} {F : Nat} {c w K p p1 base D : Int} {x y : Int32}
theorem q_sm.rng (h : q_sm fs fw S0 F c w K p base D) : 0 ≤ c ∧ c + K ≤ p ∧ p ≤ 260 ∧ 0 ≤ w ∧ w ≤ p ∧ 0 ≤ K ∧ base ≤ w ∧ 0 ≤ base := by
  obtain ⟨-, ⟨h1, h2, h3, h4, h5, h6⟩, -, h7, h8, -⟩ := h
  have := q_wc_nn fw w.toNat
  omega
theorem q_sm.num (h : q_sm fs fw S0 F c w K p base D) (hx : 0 ≤ x.toInt ∧ (x.toInt / 1048576 = 0 ∨ (x.toInt / 1048576 = 1 ∧ x.toInt % 1048576 ≤ 8))) (hp : p < p1) (hp2 : p1 ≤ 260) : q_sm (updV fs c.toNat (.int x)) fw S0 F (c + 1) w K p1 base (D + 1) := by
  obtain ⟨h1, ⟨b1, b2, b3, b4, b5, b6⟩, h3, h4, h5, h6, h7⟩ := h
  obtain ⟨g1, g2, g3⟩ := h1.note b1 (x := x) ⟨hx.1, hx.2.elim Or.inl (fun q => Or.inr (Or.inl q))⟩
  refine ⟨g1, ⟨by omega, b2, by omega, by omega, hp2, b6⟩, ?_, h4, h5, h6, fun k hk => ?_⟩
  · have e1 : q_dl (x.toInt / 1048576) = 1 := by unfold q_dl; rw [if_pos (by omega)]
    rw [g3, h3, e1]
    omega
  · rw [q_uo (by omega)]
    exact h7 k hk
theorem q_wc_up (w : Int) (v : Value) : q_wc (updV fw w.toNat v) w.toNat = q_wc fw w.toNat := q_wc_eq _ (fun j hj => q_uo (by omega))
theorem q_sc_up (w : Int) (v : Value) : q_sc (updV fw w.toNat v) w.toNat = q_sc fw w.toNat := q_sc_eq _ (fun j hj => q_uo (by omega))
theorem q_wc_S (hw : 0 ≤ w) : q_wc fw (w + 1).toNat = q_wc fw w.toNat + (if (2 ≤ q_kd (fw w.toNat) ∧ q_kd (fw w.toNat) ≤ 6) ∨ q_kd (fw w.toNat) = 10 then 1 else 0) := by
  rw [show (w + 1).toNat = w.toNat + 1 by omega]; rfl
theorem q_sc_S (hw : 0 ≤ w) : q_sc fw (w + 1).toNat = q_sc fw w.toNat + (if 2 ≤ q_kd (fw w.toNat) ∧ q_kd (fw w.toNat) ≤ 6 then 1 else 0) := by
  rw [show (w + 1).toNat = w.toNat + 1 by omega]; rfl
theorem q_sm.opn (h : q_sm fs fw S0 F c w K p base D) (hy : y.toInt = 1048576 * 14) (hp2 : p + 1 ≤ 260) : q_sm fs (updV fw w.toNat (.int y)) S0 F c (w + 1) K (p + 1) base D := by
  obtain ⟨h1, ⟨b1, b2, b3, b4, b5, b6⟩, h3, h4, h5, h6, h7⟩ := h
  have ek : q_kd (updV fw w.toNat (.int y) w.toNat) = 14 := by rw [q_us]; show y.toInt / 1048576 = 14; omega
  have e1 := q_wc_S (fw := updV fw w.toNat (.int y)) b2
  have e2 := q_sc_S (fw := updV fw w.toNat (.int y)) b2
  rw [ek, if_neg (by omega), q_wc_up] at e1
  rw [ek, if_neg (by omega), q_sc_up] at e2
  have e3 : q_sc (updV fw w.toNat (.int y)) base.toNat = q_sc fw base.toNat := q_sc_eq _ (fun j hj => q_uo (by omega))
  refine ⟨h1.push b2 (by omega) (by omega), ⟨b1, by omega, by omega, by omega, hp2, b6⟩, by rw [e2, e3]; omega, h4, by omega, fun j hj => ?_, h7⟩
  rw [q_uo (by omega)]
  exact h6 j hj
theorem q_sm.sign {s : Int} (h : q_sm fs fw S0 F c w K p base D) (hs : 2 ≤ s ∧ s ≤ 6) (hy : y.toInt = 1048576 * s) (hp2 : p + 1 ≤ 260) : q_sm fs (updV fw w.toNat (.int y)) S0 F c (w + 1) K (p + 1) base (D - 1) := by
  obtain ⟨h1, ⟨b1, b2, b3, b4, b5, b6⟩, h3, h4, h5, h6, h7⟩ := h
  have ek : q_kd (updV fw w.toNat (.int y) w.toNat) = s := by rw [q_us]; show y.toInt / 1048576 = s; omega
  have e1 := q_wc_S (fw := updV fw w.toNat (.int y)) b2
  have e2 := q_sc_S (fw := updV fw w.toNat (.int y)) b2
  rw [ek, if_pos (by omega), q_wc_up] at e1
  rw [ek, if_pos (by omega), q_sc_up] at e2
  have e3 : q_sc (updV fw w.toNat (.int y)) base.toNat = q_sc fw base.toNat := q_sc_eq _ (fun j hj => q_uo (by omega))
  refine ⟨h1.push b2 (by omega) (by omega), ⟨b1, by omega, by omega, by omega, hp2, b6⟩, by rw [e2, e3]; omega, h4, by omega, fun j hj => ?_, h7⟩
  rw [q_uo (by omega)]
  exact h6 j hj
theorem q_sm.close {o : Int} (h : q_sm fs fw S0 F c w K p base D) (hD : 1 ≤ D) (hw : 1 ≤ w) (hk : q_kd (fw (w - 1).toNat) = o) (ho : 2 ≤ o ∧ o ≤ 6) (hx : x.toInt = 1048576 * o) : q_sm (updV fs c.toNat (.int x)) fw S0 F (c + 1) (w - 1) K p base D := by
  obtain ⟨h1, ⟨b1, b2, b3, b4, b5, b6⟩, h3, h4, h5, h6, h7⟩ := h
  have hb : base ≤ w - 1 := by
    by_cases e : base = w
    · exact absurd (by rw [hk]; exact ho) (h6 (w - 1).toNat (by omega))
    · omega
  have e1 := q_wc_S (fw := fw) (show 0 ≤ w - 1 by omega)
  have e2 := q_sc_S (fw := fw) (show 0 ≤ w - 1 by omega)
  rw [show w - 1 + 1 = w by omega, hk, if_pos (by omega)] at e1 e2
  have e3 := q_sc_le (f := fw) (show base.toNat ≤ (w - 1).toNat by omega)
  obtain ⟨g1, g2, g3⟩ := h1.note b1 (x := x) ⟨by omega, Or.inr (Or.inr (Or.inr (Or.inr ⟨by omega, by omega, by omega⟩)))⟩
  refine ⟨g1.pop hw (by omega), ⟨by omega, by omega, by omega, by omega, b5, b6⟩, ?_, h4, hb, h6, fun k hk => ?_⟩
  · have e4 : q_dl (x.toInt / 1048576) = -1 := by unfold q_dl; rw [if_neg (by omega), if_neg (by omega)]
    rw [g3, e4]
    omega
  · rw [q_uo (by omega)]
    exact h7 k hk
theorem q_sm.popO (h : q_sm fs fw S0 F c w K p base D) (hw : base < w) (hk : q_kd (fw (w - 1).toNat) = 14) (hp2 : p + 1 ≤ 260) : q_sm fs fw S0 F c (w - 1) K (p + 1) base D := by
  obtain ⟨h1, ⟨b1, b2, b3, b4, b5, b6⟩, h3, h4, h5, h6, h7⟩ := h
  have e1 := q_wc_S (fw := fw) (show 0 ≤ w - 1 by omega)
  have e2 := q_sc_S (fw := fw) (show 0 ≤ w - 1 by omega)
  rw [show w - 1 + 1 = w by omega, hk, if_neg (by omega)] at e1 e2
  exact ⟨h1.pop (by omega) (by omega), ⟨b1, by omega, by omega, by omega, hp2, b6⟩, by omega, h4, by omega, h6, h7⟩
theorem q_cn.rng (h : q_cn fs fw S0 F c w K p D) : 0 ≤ c ∧ c + K ≤ p ∧ p ≤ 260 ∧ 0 ≤ w ∧ w ≤ p ∧ 0 ≤ K := by
  obtain ⟨-, ⟨h1, h2, h3, h4, h5, h6⟩, -⟩ := h
  have := q_wc_nn fw w.toNat
  omega
theorem q_cn.sm (h : q_cn fs fw S0 F c w K p D) : q_sm fs fw S0 F c w K p w D := by
  obtain ⟨h1, h2, h3, h4, h5, h6⟩ := h
  exact ⟨h1, h2, by omega, h2.2.1, Int.le_refl _, fun j hj q => by have := (h5 j (by omega)).1; omega, h4⟩
theorem q_sm.cn {fs' fw' : Nat → Value} {c' K' p' D' : Int} (h : q_cn fs fw S0 F c w K p D) (g : q_sm fs' fw' S0 F c' w K' p' w D') (e : ∀ j : Nat, (j : Int) < w → fw' j = fw j) : q_cn fs' fw' S0 F c' w K' p' D' := by
  obtain ⟨h1, h2, h3, h4, h5, h6⟩ := h
  obtain ⟨g1, g2, g3, g4, g5, g6, g7⟩ := g
  exact ⟨g1, g2, by omega, g7, fun j hj => by rw [e j hj]; exact h5 j hj, fun q => by rw [e 0 (by omega)]; exact h6 q⟩
theorem q_cn.slack (h : q_cn fs fw S0 F c w K p D) (hp2 : p + 1 ≤ 260) : q_cn fs fw S0 F c w (K + 1) (p + 1) D := by
  obtain ⟨h1, ⟨b1, b2, b3, b4, b5, b6⟩, h3⟩ := h
  exact ⟨h1, ⟨b1, b2, by omega, by omega, hp2, by omega⟩, h3⟩
theorem q_cn.cmp {o : Int} (h : q_cn fs fw S0 F c w 1 p 2) (ho : 7 ≤ o ∧ o ≤ 9) (hx : x.toInt = 1048576 * o) : q_cn (updV fs c.toNat (.int x)) fw S0 F (c + 1) w 0 p 1 := by
  obtain ⟨h1, ⟨b1, b2, b3, b4, b5, b6⟩, h3, h4, h5⟩ := h
  obtain ⟨g1, g2, g3⟩ := h1.note b1 (x := x) ⟨by omega, Or.inr (Or.inr (Or.inr (Or.inr ⟨by omega, by omega, by omega⟩)))⟩
  refine ⟨g1, ⟨by omega, b2, by omega, b4, b5, by omega⟩, ?_, fun k hk => ?_, h5⟩
  · have e4 : q_dl (x.toInt / 1048576) = -1 := by unfold q_dl; rw [if_neg (by omega), if_neg (by omega)]
    rw [g3, e4, h3]
    rfl
  · rw [q_uo (by omega)]
    exact h4 k hk
theorem q_cn.not (h : q_cn fs fw S0 F c w K p 1) (hw : 1 ≤ w) (hk : q_kd (fw (w - 1).toNat) = 10) (hx : x.toInt = 1048576 * 10) : q_cn (updV fs c.toNat (.int x)) fw S0 F (c + 1) (w - 1) K p 1 ∧ 1 ≤ w - 1 := by
  obtain ⟨h1, ⟨b1, b2, b3, b4, b5, b6⟩, h3, h4, h5, h6⟩ := h
  have hw2 : 1 ≤ w - 1 := by
    by_cases e : w = 1
    · subst e
      have := h6 (by omega)
      rw [show ((1 : Int) - 1).toNat = 0 from rfl] at hk
      omega
    · omega
  have e1 := q_wc_S (fw := fw) (show 0 ≤ w - 1 by omega)
  rw [show w - 1 + 1 = w by omega, hk, if_pos (by omega)] at e1
  obtain ⟨g1, g2, g3⟩ := h1.note b1 (x := x) ⟨by omega, Or.inr (Or.inr (Or.inl ⟨by omega, by omega⟩))⟩
  refine ⟨⟨g1.pop hw (by omega), ⟨by omega, by omega, by omega, by omega, b5, b6⟩, ?_, fun k hk => ?_, fun j hj => h5 j (by omega), fun _ => h6 (by omega)⟩, hw2⟩
  · have e4 : q_dl (x.toInt / 1048576) = 0 := by unfold q_dl; rw [if_neg (by omega), if_pos (by omega)]
    rw [g3, e4, h3]
    rfl
  · rw [q_uo (by omega)]
    exact h4 k hk
theorem q_cn.lop (h : q_cn fs fw S0 F c w K p D) (hw : 1 ≤ w) (hk : q_kd (fw (w - 1).toNat) = 11 ∨ q_kd (fw (w - 1).toNat) = 12) : 0 ≤ q_lo (fw (w - 1).toNat) ∧ q_lo (fw (w - 1).toNat) < c ∧ c ≤ 260 ∧ ∃ z : Int32, fs (q_lo (fw (w - 1).toNat)).toNat = .int z ∧ 0 ≤ z.toInt ∧ z.toInt / 1048576 ≤ 12 := by
  have hr := h.rng
  obtain ⟨h1, -⟩ := h
  obtain ⟨y, y1, y2, y3⟩ := h1.2 (w - 1).toNat (by omega)
  rw [q_kd_int y1] at hk
  rw [q_lo_int y1]
  obtain ⟨z1, z2, z3⟩ := y3 hk
  have hz := Int.emod_nonneg y.toInt (show (1048576 : Int) ≠ 0 by decide)
  obtain ⟨u, u1, u2⟩ := h1.1 (y.toInt % 1048576).toNat (by omega) (by omega)
  rw [q_kd_int u1] at z3
  exact ⟨hz, z2, by omega, u, u1, u2.1, by omega⟩
theorem q_cn.land (h : q_cn fs fw S0 F c w K p 1) (hw : 1 ≤ w) (hk : q_kd (fw (w - 1).toNat) = 11 ∨ q_kd (fw (w - 1).toNat) = 12)
    (hx : x.toInt = 1048576 * q_kd (fs (q_lo (fw (w - 1).toNat)).toNat) + c) : q_cn (updV fs (q_lo (fw (w - 1).toNat)).toNat (.int x)) fw S0 F c (w - 1) K p 1 ∧ 1 ≤ w - 1 := by
  have hr := h.rng
  obtain ⟨h1, ⟨b1, b2, b3, b4, b5, b6⟩, h3, h4, h5, h6⟩ := h
  have hw2 : 1 ≤ w - 1 := by
    by_cases e : w = 1
    · subst e
      have := h6 (by omega)
      rw [show ((1 : Int) - 1).toNat = 0 from rfl] at hk
      omega
    · omega
  have e1 := q_wc_S (fw := fw) (show 0 ≤ w - 1 by omega)
  rw [show w - 1 + 1 = w by omega, if_neg (by omega)] at e1
  obtain ⟨g1, g2, g3, g4⟩ := h1.land hw (by omega) hk h3 hx
  refine ⟨⟨g1, ⟨b1, by omega, by omega, by omega, b5, b6⟩, by rw [g2]; exact h3, fun k hk => ?_, fun j hj => h5 j (by omega), fun _ => h6 (by omega)⟩, hw2⟩
  rw [q_uo (by omega)]
  exact h4 k hk
theorem q_cn.pop (h : q_cn fs fw S0 F c w K p D) (hw : 1 ≤ w) (hk : ¬ (q_kd (fw (w - 1).toNat) = 11 ∨ q_kd (fw (w - 1).toNat) = 12)) (hp2 : p + 1 ≤ 260) : q_cn fs fw S0 F c (w - 1) K (p + 1) D := by
  obtain ⟨h1, ⟨b1, b2, b3, b4, b5, b6⟩, h3, h4, h5, h6⟩ := h
  have e1 := q_wc_S (fw := fw) (show 0 ≤ w - 1 by omega)
  rw [show w - 1 + 1 = w by omega] at e1
  have e2 : q_wc fw (w - 1).toNat ≤ q_wc fw w.toNat := by rw [e1]; split <;> omega
  exact ⟨h1.pop hw hk, ⟨b1, by omega, by omega, by omega, hp2, b6⟩, h3, h4, fun j hj => h5 j (by omega), fun _ => h6 (by omega)⟩
theorem q_cn.opn {o : Int} (h : q_cn fs fw S0 F c w K p D) (ho : o = 13 ∨ (o = 10 ∧ 1 ≤ w)) (hy : y.toInt = 1048576 * o) (hp2 : p + 1 ≤ 260) : q_cn fs (updV fw w.toNat (.int y)) S0 F c (w + 1) K (p + 1) D := by
  obtain ⟨h1, ⟨b1, b2, b3, b4, b5, b6⟩, h3, h4, h5, h6⟩ := h
  have ek : q_kd (updV fw w.toNat (.int y) w.toNat) = o := by rw [q_us]; show y.toInt / 1048576 = o; omega
  have e1 := q_wc_S (fw := updV fw w.toNat (.int y)) b2
  rw [q_wc_up] at e1
  have e2 : q_wc (updV fw w.toNat (.int y)) (w + 1).toNat ≤ q_wc fw w.toNat + 1 := by rw [e1]; split <;> omega
  refine ⟨h1.push b2 (by omega) (by omega), ⟨b1, by omega, by omega, by omega, hp2, b6⟩, h3, h4, fun j hj => ?_, fun _ => ?_⟩
  · by_cases e : j = w.toNat
    · rw [e, ek]; omega
    · rw [q_uo e]; exact h5 j (by omega)
  · by_cases e : w = 0
    · subst e; rw [show (0 : Nat) = (0 : Int).toNat from rfl, ek]; omega
    · rw [q_uo (by omega)]; exact h6 (by omega)
theorem q_cn.jump {o : Int} (h : q_cn fs fw S0 F c w 0 p 1) (hw : 1 ≤ w) (ho : o = 11 ∨ o = 12) (hx : x.toInt = 1048576 * o) (hy : y.toInt = 1048576 * o + c) (hp2 : p + 1 ≤ 260) : q_cn (updV fs c.toNat (.int x)) (updV fw w.toNat (.int y)) S0 F (c + 1) (w + 1) 0 (p + 1) 0 := by
  have hr := h.rng
  obtain ⟨h1, ⟨b1, b2, b3, b4, b5, b6⟩, h3, h4, h5, h6⟩ := h
  have ek : q_kd (updV fw w.toNat (.int y) w.toNat) = o := by rw [q_us]; show y.toInt / 1048576 = o; omega
  have e1 := q_wc_S (fw := updV fw w.toNat (.int y)) b2
  rw [q_wc_up, ek, if_neg (by omega)] at e1
  obtain ⟨g1, g2⟩ := h1.jump b1 (by omega) b2 ho hx hy h3
  refine ⟨g1, ⟨by omega, by omega, by omega, by omega, hp2, by omega⟩, g2, fun k hk => ?_, fun j hj => ?_, fun _ => ?_⟩
  · rw [q_uo (by omega)]; exact h4 k hk
  · by_cases e : j = w.toNat
    · rw [e, ek]; omega
    · rw [q_uo e]; exact h5 j (by omega)
  · rw [q_uo (by omega)]; exact h6 (by omega)
theorem q_cn.new (hc : 0 ≤ c ∧ c ≤ p ∧ p ≤ 260) : q_cn fs fw fs c.toNat c 0 0 p 0 :=
  ⟨⟨fun k k1 k2 => by omega, fun j hj => by omega⟩, ⟨by omega, by omega, by show c + 0 + 0 ≤ p; omega, by omega, by omega, by omega⟩, q_dp_F _ _, fun _ _ => rfl, fun j hj => by omega, fun q => by omega⟩
theorem q_dp_nn (h : q_pq fs fw F c w) : ∀ k : Nat, F ≤ k → (k : Int) ≤ c → 0 ≤ q_dp fs F k ∧ q_dp fs F k ≤ (k : Int) - F
  | 0, h1, _ => by show (0 : Int) ≤ 0 ∧ (0 : Int) ≤ _; omega
  | k + 1, h1, h2 => by
    by_cases e : F = k + 1
    · rw [← e, q_dp_F]; omega
    · have ih := q_dp_nn h k (by omega) (by omega)
      obtain ⟨x, x1, x2, x3⟩ := h.1 k (by omega) (by omega)
      rw [q_dp_s (by omega), q_kd_int x1]
      generalize x.toInt / 1048576 = o at *
      unfold q_dl
      rcases x3 with x3 | x3 | x3 | x3 | x3
      · rw [if_pos (by omega)]; omega
      · rw [if_pos (by omega)]; omega
      · rw [if_neg (by omega), if_pos (by omega)]; omega
      · rw [if_neg (by omega), if_neg (by omega)]; omega
      · rw [if_neg (by omega), if_neg (by omega)]; omega
theorem q_pq.seg (h : q_pq fs fw F c 0) (hF : (F : Int) ≤ c) : q_seg (fun _ => fs) 0 F c.toNat := by
  refine ⟨fun k => (q_dp fs F k).toNat, by show (q_dp fs F F).toNat = 0; rw [q_dp_F]; rfl, fun k k1 k2 => ?_⟩
  have hn := q_dp_nn h k k1 (by omega)
  obtain ⟨x, x1, x2, x3⟩ := h.1 k k1 (by omega)
  refine ⟨x, x1, x2, by show (q_dp fs F k).toNat ≤ k; omega, ?_⟩
  have hs := q_dp_s (f := fs) k1
  rw [q_kd_int x1] at hs
  show (_ ∧ (q_dp fs F (k + 1)).toNat = (q_dp fs F k).toNat + 1) ∨ (_ ∧ _ ∧ (q_dp fs F (k + 1)).toNat = (q_dp fs F k).toNat + 1) ∨ (_ ∧ 1 ≤ (q_dp fs F k).toNat ∧ (q_dp fs F (k + 1)).toNat = (q_dp fs F k).toNat) ∨ (_ ∧ 1 ≤ (q_dp fs F k).toNat ∧ (q_dp fs F (k + 1)).toNat = (q_dp fs F k).toNat - 1 ∧ _ ∧ _ ∧ (q_dp fs F _).toNat = (q_dp fs F k).toNat) ∨ (_ ∧ _ ∧ 2 ≤ (q_dp fs F k).toNat ∧ (q_dp fs F (k + 1)).toNat = (q_dp fs F k).toNat - 1)
  unfold q_dl at hs
  rcases x3 with x3 | x3 | x3 | ⟨x3, x4, x5⟩ | x3
  · rw [if_pos (by omega)] at hs; exact Or.inl ⟨x3, by omega⟩
  · rw [if_pos (by omega)] at hs; exact Or.inr (Or.inl ⟨x3.1, x3.2, by omega⟩)
  · rw [if_neg (by omega), if_pos (by omega)] at hs; exact Or.inr (Or.inr (Or.inl ⟨x3.1, by omega, by omega⟩))
  · rw [if_neg (by omega), if_neg (by omega)] at hs
    rcases x5 with ⟨j, j1, -⟩ | ⟨y1, y2, y3⟩
    · omega
    · exact Or.inr (Or.inr (Or.inr (Or.inl ⟨x3, by omega, by omega, y1, by omega, by rw [y3]; omega⟩)))
  · rw [if_neg (by omega), if_neg (by omega)] at hs; exact Or.inr (Or.inr (Or.inr (Or.inr ⟨x3.1, x3.2.1, by omega, by omega⟩)))
end Smp
/-- what the last of those that wait is; -1: nothing waits -/
def q_wt (fw : Nat → Value) (w : Int) : Int := if w ≤ 0 then -1 else q_kd (fw (w - 1).toNat)
theorem q_wt_pos {fw : Nat → Value} {w : Int} (h : 0 ≤ q_wt fw w) : 1 ≤ w ∧ q_kd (fw (w - 1).toNat) = q_wt fw w := by
  unfold q_wt at h ⊢
  split at h
  · omega
  · next q => rw [if_neg q]; exact ⟨by omega, rfl⟩
theorem q_wt_at {fw : Nat → Value} {w : Int} (h : 1 ≤ w) : q_wt fw w = q_kd (fw (w - 1).toNat) := by unfold q_wt; rw [if_neg (by omega)]
theorem q_wt_0 {fw : Nat → Value} {w : Int} (h : w ≤ 0) : q_wt fw w = -1 := by unfold q_wt; rw [if_pos h]
theorem q_bn.one {fw : Nat → Value} {F : Nat} {c w K p : Int} (h : q_bn fw F c w K p) (hk : (2 ≤ q_wt fw w ∧ q_wt fw w ≤ 6) ∨ q_wt fw w = 10) : 0 ≤ c ∧ c ≤ 259 := by
  obtain ⟨b1, b2, b3, b4, b5, b6⟩ := h
  obtain ⟨g1, g2⟩ := q_wt_pos (fw := fw) (w := w) (by omega)
  have e1 := q_wc_S (fw := fw) (show 0 ≤ w - 1 by omega)
  rw [show w - 1 + 1 = w by omega, g2, if_pos hk] at e1
  have := q_wc_nn fw (w - 1).toNat
  omega
/-- what waits is never below 0 -/
def q_wn (fw : Nat → Value) (w : Int) : Prop := ∀ j : Nat, (j : Int) < w → ∃ y : Int32, fw j = .int y ∧ 0 ≤ y.toInt
theorem q_pq.wn {fs fw : Nat → Value} {F : Nat} {c w : Int} (h : q_pq fs fw F c w) : q_wn fw w := fun j hj => by
  obtain ⟨y, h1, h2, -⟩ := h.2 j hj
  exact ⟨y, h1, h2⟩
/-- above b: signs and opened sums wait; below it nothing has changed -/
def q_kn (fw0 fw : Nat → Value) (b w : Int) : Prop := (∀ j : Nat, (j : Int) < b → fw j = fw0 j) ∧ ∀ j : Nat, b ≤ (j : Int) → (j : Int) < w → (2 ≤ q_kd (fw j) ∧ q_kd (fw j) ≤ 6) ∨ q_kd (fw j) = 14
section Kn
variable {fw0 fw fw' : Nat → Value} {b w w' : Int} {y : Int32}
theorem q_kn.rf : q_kn fw fw b b := ⟨fun _ _ => rfl, fun j h1 h2 => by omega⟩
theorem q_kn.fac (h : q_kn fw0 fw b w) (hb : b ≤ w) (ek : ∀ j : Nat, (j : Int) < w → fw' j = fw j) (eo : ∀ j : Nat, w ≤ (j : Int) → (j : Int) < w' → q_kd (fw' j) = 14) : q_kn fw0 fw' b w' :=
  ⟨fun j hj => (ek j (by omega)).trans (h.1 j hj), fun j j1 j2 => by
    by_cases e : (j : Int) < w
    · rw [ek j e]; exact h.2 j j1 e
    · exact Or.inr (eo j (by omega) j2)⟩
theorem q_kn.push (h : q_kn fw0 fw b w) (hb : b ≤ w) (h0 : 0 ≤ b) (hy : 2 ≤ y.toInt / 1048576 ∧ y.toInt / 1048576 ≤ 6) : q_kn fw0 (updV fw w.toNat (.int y)) b (w + 1) :=
  ⟨fun j hj => by rw [q_uo (by omega)]; exact h.1 j hj, fun j j1 j2 => by
    by_cases e : j = w.toNat
    · rw [e, q_us]; exact Or.inl hy
    · rw [q_uo e]; exact h.2 j j1 (by omega)⟩
theorem q_kn.le (h : q_kn fw0 fw b w) (hw : w' ≤ w) : q_kn fw0 fw b w' := ⟨h.1, fun j j1 j2 => h.2 j j1 (by omega)⟩
theorem q_kn.top (h : q_kn fw0 fw b w) (hw : w' ≤ w) (h0 : 0 ≤ b) (ho : ∃ j : Nat, b ≤ (j : Int) ∧ (j : Int) < w ∧ q_kd (fw j) = 14) (ls : ∀ j : Nat, w' ≤ (j : Int) → (j : Int) < w → 2 ≤ q_kd (fw j) ∧ q_kd (fw j) ≤ 6) (lt : ¬ (2 ≤ q_wt fw w' ∧ q_wt fw w' ≤ 6)) : b < w' ∧ q_kd (fw (w' - 1).toNat) = 14 := by
  obtain ⟨j, j1, j2, j3⟩ := ho
  have hj : (j : Int) < w' := by
    by_cases e : w' ≤ (j : Int)
    · have := ls j e j2; omega
    · omega
  refine ⟨by omega, ?_⟩
  rw [q_wt_at (by omega)] at lt
  rcases h.2 (w' - 1).toNat (by omega) (by omega) with q | q
  · exact absurd q lt
  · exact q
theorem q_kn.fin (h : q_kn fw0 fw b w) (hw : w' ≤ w) (hb : b ≤ w') (h0 : 0 ≤ b) (hn : ∀ j : Nat, b ≤ (j : Int) → (j : Int) < w → q_kd (fw j) ≠ 14) (lt : ¬ (2 ≤ q_wt fw w' ∧ q_wt fw w' ≤ 6)) : w' = b := by
  by_cases e : w' = b
  · exact e
  · rw [q_wt_at (by omega)] at lt
    rcases h.2 (w' - 1).toNat (by omega) (by omega) with q | q
    · exact absurd q lt
    · exact absurd q (hn _ (by omega) (by omega))
end Kn
theorem q_cn.slack0 {fs fw S0 : Nat → Value} {F : Nat} {c w p D : Int} (h : q_cn fs fw S0 F c w 0 p D) (hp2 : p + 1 ≤ 260) : q_cn fs fw S0 F c w 1 (p + 1) D := h.slack hp2
theorem q_segC {fs fs' : Nat → Value} {f t : Nat} (h : q_seg (fun _ => fs) 0 f t) (e : ∀ k : Nat, k < t → fs' k = fs k) : q_seg (fun _ => fs') 0 f t := by
  obtain ⟨d, h0, hd⟩ := h
  refine ⟨d, h0, fun k k1 k2 => ?_⟩
  obtain ⟨c, c1, c2⟩ := hd k k1 k2
  exact ⟨c, (e k k2).trans c1, c2⟩
/-- the clauses that are read: where their codes lie -/
def q_sd (fs ff fh ft : Nat → Value) (m c : Int) : Prop := ∀ q : Nat, (q : Int) < m → ∃ f h t : Int32, ff q = .int f ∧ fh q = .int h ∧ ft q = .int t ∧ 0 ≤ f.toInt ∧ f.toInt ≤ h.toInt ∧ h.toInt ≤ t.toInt ∧ t.toInt ≤ c ∧ q_seg (fun _ => fs) 0 f.toInt.toNat h.toInt.toNat ∧ q_seg (fun _ => fs) 0 h.toInt.toNat t.toInt.toNat
theorem q_sd.new {fs ff fh ft : Nat → Value} {m c : Int} (h : m ≤ 0) : q_sd fs ff fh ft m c := fun q hq => by omega
theorem q_sd.more {fs fs1 fs2 ff fh ft : Nat → Value} {m : Int} {f h t : Int32} (hs : q_sd fs ff fh ft m f.toInt) (hm : 0 ≤ m) (h0 : 0 ≤ f.toInt ∧ f.toInt ≤ h.toInt ∧ h.toInt ≤ t.toInt) (e1 : ∀ k : Nat, k < f.toInt.toNat → fs1 k = fs k) (e2 : ∀ k : Nat, k < h.toInt.toNat → fs2 k = fs1 k)
    (g1 : q_seg (fun _ => fs1) 0 f.toInt.toNat h.toInt.toNat) (g2 : q_seg (fun _ => fs2) 0 h.toInt.toNat t.toInt.toNat) : q_sd fs2 (updV ff m.toNat (.int f)) (updV fh m.toNat (.int h)) (updV ft m.toNat (.int t)) (m + 1) t.toInt := by
  intro q hq
  by_cases e : q = m.toNat
  · subst e
    exact ⟨f, h, t, q_us, q_us, q_us, h0.1, h0.2.1, h0.2.2, Int.le_refl _, q_segC g1 e2, g2⟩
  · obtain ⟨f', h', t', k1, k2, k3, k4, k5, k6, k7, k8, k9⟩ := hs q (by omega)
    refine ⟨f', h', t', (q_uo e).trans k1, (q_uo e).trans k2, (q_uo e).trans k3, k4, k5, k6, by omega, q_segC k8 (fun k hk => ?_), q_segC k9 (fun k hk => ?_)⟩
    · rw [e2 k (by omega), e1 k (by omega)]
    · rw [e2 k (by omega), e1 k (by omega)]
theorem q_upK {τ : q_T} {σ : q_V} {a b k n k2 n2 j : Nat} {v : Value} (hA : τ a = some (k, n)) (hB : τ b = some (k2, n2)) (hk : k ≠ k2) : q_up σ b j v a = σ a := q_up_ne (fun e => by
  rw [e, hB] at hA
  cases hA
  exact hk rfl)
theorem q_upF {σ : q_V} {a j : Nat} {v : Value} : q_up σ a j v a = updV (σ a) j v := by simp [q_up]
/-- what stands at the reader's place; -1: it is at the end -/
def q_hr (σ : q_V) (a : Nat) : Int := match σ a 5, σ a 6, σ a 3 with
  | .int p, .int n, .ref b => if p.toInt < n.toInt then (match σ b p.toInt.toNat with
    | .int x => (x &&& 255).toInt
    | _ => -1) else -1
  | _, _, _ => -1
theorem q_hr_in {σ : q_V} {a b : Nat} {p n x : Int32} (h5 : σ a 5 = .int p) (h6 : σ a 6 = .int n) (h3 : σ a 3 = .ref b) (hx : σ b p.toInt.toNat = .int x) (hp : p.toInt < n.toInt) : q_hr σ a = (x &&& 255).toInt := by
  unfold q_hr
  rw [h5, h6, h3]
  show (if p.toInt < n.toInt then _ else _) = _
  rw [if_pos hp, hx]
theorem q_hr_out {σ : q_V} {a b : Nat} {p n : Int32} (h5 : σ a 5 = .int p) (h6 : σ a 6 = .int n) (h3 : σ a 3 = .ref b) (hp : ¬ p.toInt < n.toInt) : q_hr σ a = -1 := by
  unfold q_hr
  rw [h5, h6, h3]
  show (if p.toInt < n.toInt then _ else _) = _
  rw [if_neg hp]
theorem q_hr_eq {σ σ1 : q_V} {a : Nat} (h5 : σ1 a 5 = σ a 5) (h6 : σ1 a 6 = σ a 6) (h3 : σ1 a 3 = σ a 3) (hb : ∀ b, σ a 3 = .ref b → σ1 b = σ b) : q_hr σ1 a = q_hr σ a := by
  unfold q_hr
  rw [h5, h6, h3]
  cases e5 : σ a 5 <;> cases e6 : σ a 6 <;> cases e3 : σ a 3 <;> first | rfl | (simp only []; rw [hb _ e3])
/-- a fact that is kept closed -/
def q_x (P : Prop) : Prop := P
theorem q_x.mk {P : Prop} (h : P) : q_x P := h
