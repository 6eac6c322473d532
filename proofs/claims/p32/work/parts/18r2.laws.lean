/-! THE LAW'S TEXT in the reference: an E -/
def zl_MM (a2 bw : Nat) (base : Int) (f : Nat) (w : fx_U) : Int × fx_U := kL_X12_readsSum_14 a2 base bw f w (w a2 10) (w a2 11) (w a2 5)
def zl_FM (a2 bw : Nat) (base : Int) (f : Nat) (w : fx_U) : Int × fx_U := if (f_X12_readsFactor w a2).1 = 0 then (0, (f_X12_readsFactor w a2).2) else zl_MM a2 bw base f (f_X12_readsFactor w a2).2
/-- where the reference is behind a piece of an E: signs from lo on still wait -/
def zl_Q (T : Nat → Int) (a2 tb bs bw : Nat) (n base lo op c : Int) (W : List (Int × Int)) (w : fx_U) (r : zl_O) (x : Int × fx_U) : Prop :=
  (r.1 ≠ 0 ∧ x.1 = 0 ∧ x.2 a2 7 = zz_ft r.1 r.2.1 ∧ zl_eq a2 bs bw c w x.2) ∨
  (r.1 = 0 ∧ ∃ (f : Nat) (v : fx_U) (P e : List (Int × Int)), x = zl_MM a2 bw base f v ∧ 260 - r.2.1 < (f : Int) ∧ zl_D T a2 tb bs bw n r.2.1 op (c + (e.length : Int)) (P ++ W) v ∧ (((P ++ W).length : Int) ≤ r.2.1) ∧ (∀ z ∈ P, lo ≤ z.1 ∧ z.1 ≤ 6) ∧ zl_ce bs v c e ∧ r.2.2 = e ++ P.map (fun z : Int × Int => (zl_sg z.1, 0)) ∧ zl_eq a2 bs bw c w v)
def zl_okR (T : Nat → Int) (a2 tb bs bw : Nat) (n lo op : Int) (tp : List (Int × Int) → Prop) (g : Int → zl_O) : Prop := ∀ (base p c : Int) (W : List (Int × Int)) (f : Nat) (w : fx_U), zl_D T a2 tb bs bw n p op c W w → 0 ≤ p → p ≤ n → 0 ≤ c → (0 ≤ base ∧ base ≤ (W.length : Int)) → (W.length : Int) ≤ p → tp W → 260 - (f_X12_readsFactor w a2).2 a2 5 < (f : Int) → zl_Q T a2 tb bs bw n base lo op c W w (g p) (zl_FM a2 bw base f w)
def zl_nt2 (lo : Int) (W : List (Int × Int)) : Prop := ∀ x R, W = x :: R → ¬ (lo ≤ x.1 ∧ x.1 ≤ 6)
section LawS
variable {T : Nat → Int} {a2 tb bs bw : Nat} {n p o c op base : Int} {W : List (Int × Int)} {w v : fx_U}
theorem zl_sk_at {x : Int × Int} {R : List (Int × Int)} : ∀ P : List (Int × Int), zl_sk bw w (P ++ x :: R) → w bw R.length = 1048576 * x.1 + x.2 ∧ 0 ≤ x.2 ∧ x.2 < 1048576
  | [], h => h.1
  | _ :: P, h => zl_sk_at P h.2
/-- a [ waits from a place on -/
theorem zl_has1 {x : Int × Int} {R P : List (Int × Int)} (h : zl_D T a2 tb bs bw n p o c (P ++ x :: R) w) (hx : x.1 = 14) (hb : 0 ≤ base ∧ base ≤ (R.length : Int)) (h260 : R.length < 260) : f_X12_hasOpenSum w a2 base = 1 := by
  have at0 := zl_sk_at P h.2.2.1
  have len : (P ++ x :: R).length = P.length + R.length + 1 := by
    rw [List.length_append, List.length_cons]
    omega
  have key : ∀ (f : Nat) (k : Int), 0 ≤ k → k ≤ (R.length : Int) → ((R.length : Int) - k).toNat < f → kL_X12_hasOpenSum_2 ((P ++ x :: R).length : Int) w bw f k = 1 := by
    intro f
    induction f with
    | zero => intro k _ _ h; omega
    | succ f ih =>
      intro k k0 k1 hf
      have eK : kL_X12_hasOpenSum_2 ((P ++ x :: R).length : Int) w bw (f + 1) k = kB_X12_hasOpenSum_2 (kL_X12_hasOpenSum_2 ((P ++ x :: R).length : Int) w bw f) ((P ++ x :: R).length : Int) w bw k := rfl
      rw [eK]
      unfold kB_X12_hasOpenSum_2
      rw [if_pos (by omega)]
      simp only [fz_lt]
      by_cases q : w bw k.toNat / 1048576 = 14
      · rw [if_pos q]
      · rw [if_neg q]
        have ne : k ≠ (R.length : Int) := fun e => q (by
          rw [e, Int.toNat_natCast, at0.1]
          omega)
        exact ih (k + 1) (by omega) (by omega) (by omega)
  unfold f_X12_hasOpenSum
  simp only [fz_lt, fz_lr, h.1.2.2.2, h.2.1.2.2.2, Int.toNat_natCast]
  exact key _ base hb.1 hb.2 (by omega)
theorem zl_sk_in : ∀ P : List (Int × Int), zl_sk bw w (P ++ W) → (∀ z ∈ P, 2 ≤ z.1 ∧ z.1 ≤ 6) → ∀ i : Nat, W.length ≤ i → i < (P ++ W).length → 2 ≤ w bw i / 1048576 ∧ w bw i / 1048576 ≤ 6
  | [], _, _, i, h1, h2 => by
    rw [List.nil_append] at h2
    omega
  | x :: P, h, hP, i, h1, h2 => by
    have hx := hP x (List.mem_cons_self ..)
    rw [List.cons_append, List.length_cons] at h2
    by_cases e : i = (P ++ W).length
    · rw [e, show w bw (P ++ W).length = 1048576 * x.1 + x.2 from h.1.1]
      have := h.1.2
      omega
    · exact zl_sk_in P h.2 (fun y hy => hP y (List.mem_cons_of_mem x hy)) i h1 (by omega)
/-- none waits from there on -/
theorem zl_has0 {P : List (Int × Int)} (h : zl_D T a2 tb bs bw n p o c (P ++ W) w) (hP : ∀ z ∈ P, 2 ≤ z.1 ∧ z.1 ≤ 6) (h260 : (P ++ W).length ≤ 260) : f_X12_hasOpenSum w a2 (W.length : Int) = 0 := by
  have inn := zl_sk_in P h.2.2.1 hP
  have key : ∀ (f : Nat) (k : Int), (W.length : Int) ≤ k → k ≤ ((P ++ W).length : Int) → (((P ++ W).length : Int) - k).toNat < f → kL_X12_hasOpenSum_2 ((P ++ W).length : Int) w bw f k = 0 := by
    intro f
    induction f with
    | zero => intro k _ _ h; omega
    | succ f ih =>
      intro k k0 k1 hf
      have eK : kL_X12_hasOpenSum_2 ((P ++ W).length : Int) w bw (f + 1) k = kB_X12_hasOpenSum_2 (kL_X12_hasOpenSum_2 ((P ++ W).length : Int) w bw f) ((P ++ W).length : Int) w bw k := rfl
      rw [eK]
      unfold kB_X12_hasOpenSum_2
      by_cases q : k < ((P ++ W).length : Int)
      · have a := inn k.toNat (by omega) (by omega)
        rw [if_pos q]
        simp only [fz_lt]
        rw [if_neg (by omega)]
        exact ih (k + 1) (by omega) (by omega) (by omega)
      · rw [if_neg q]
  unfold f_X12_hasOpenSum
  simp only [fz_lt, fz_lr, h.1.2.2.2, h.2.1.2.2.2, Int.toNat_natCast]
  have len : W.length ≤ (P ++ W).length := by
    rw [List.length_append]
    omega
  exact key _ (W.length : Int) (Int.le_refl _) (by omega) (by omega)
/-- an iteration that closes what waits, lets a sign wait and reads on -/
theorem zl_stp (ha : zl_aq a2 tb bs bw) (hn : n ≤ 240) {b lo lo2 k : Int} {tp : List (Int × Int) → Prop} {g : Int → zl_O} {r : zl_O} {x : Int × fx_U} (hb : (b = 0 ∧ lo = 4) ∨ (b = 1 ∧ lo = 2)) (hk : (b = 0 ∧ 4 ≤ k ∧ k ≤ 6) ∨ (b = 1 ∧ 2 ≤ k ∧ k ≤ 3)) (hl : lo ≤ lo2) (hG : zl_okR T a2 tb bs bw n lo2 op tp g) (hg : zl_gd n g) (hW : zl_nt2 lo W) (hT : tp ((k, 0) :: W)) (h0 : 0 ≤ c) (hbs : 0 ≤ base ∧ base ≤ (W.length : Int)) (r0 : r.1 = 0) (rp : 0 ≤ r.2.1) (hs : zl_sg k = zz_pk T n r.2.1) (hpk : f_X12_sumSign w (zz_pk T n r.2.1) = k) (hpq : ∀ u : fx_U, f_X12_sumSign u (zz_pk T n r.2.1) = k) (hp : r.2.1 < n) (h : zl_Q T a2 tb bs bw n base lo op c W w r x)
    (hmo : ∀ (u : fx_U) (p2 c2 : Int) (V : List (Int × Int)), zl_D T a2 tb bs bw n p2 op c2 V u → 0 ≤ p2 → p2 ≤ n → 0 ≤ c2 → p2 ≤ (f_X12_readsFactor u a2).2 a2 5) :
    zl_Q T a2 tb bs bw n base lo op c W w (zl_op T n g r) x := by
  rcases h with ⟨q, -⟩ | ⟨-, f, v, P, e, hx, hf, hD, hPW, hP, he, hr, hE⟩
  · exact absurd r0 q
  · obtain ⟨F, rfl⟩ : ∃ F : Nat, f = F + 1 := ⟨f - 1, by omega⟩
    have hr2 := zl_hr hD rp
    have clo := zl_close ha (pq := r.2.1) hb hW P (Int.toNat ((P ++ W).length : Int) + 1) (c + (e.length : Int)) (c + (e.length : Int)) ((P ++ W).length : Int) v hP (by rw [Int.toNat_natCast, List.length_append]; omega) rfl (by omega) hD
    have eC : f_X12_closesSums v a2 b = kL_X12_closesSums_0 a2 b r.2.1 (Int.toNat ((P ++ W).length : Int) + 1) v (c + (e.length : Int)) ((P ++ W).length : Int) r.2.1 := by
      unfold f_X12_closesSums
      simp only [fz_lt, fz_lr, hD.2.1.1, hD.2.1.2.2.1, hD.2.1.2.2.2]
    rw [← eC] at clo
    obtain ⟨y, hy⟩ : ∃ y : fx_U, y = f_X12_closesSums v a2 b := ⟨_, rfl⟩
    rw [← hy] at clo
    obtain ⟨d1, d2, d3⟩ := clo
    obtain ⟨d4, d5⟩ := zl_push ha (k := k) (b := 0) (by decide) d1
    obtain ⟨d6, d7⟩ := zl_at ha (x := r.2.1 + 1) d4
    have lenC : (r.2.2.length : Int) = (e.length : Int) + (P.length : Int) := by
      rw [hr, List.length_append, List.length_map]
      omega
    have ce : zl_ce bs (fx_pt (fx_pt (fx_pt y bw W.length (1048576 * k + 0)) a2 11 ((W.length : Int) + 1)) a2 5 (r.2.1 + 1)) c r.2.2 := by
      have k1 : zl_ce bs y c r.2.2 := by
        rw [hr]
        exact zl_ce_app e _ c (zl_ce_keep d2.2.2 e c h0 (Int.le_refl _) he) d3
      exact zl_ce_keep (e := c + (r.2.2.length : Int)) (fun i _ => (zz_pa ha.2.2.1.1).trans ((zz_pa ha.2.2.1.1).trans (zz_pa ha.2.2.1.2))) r.2.2 c h0 (Int.le_refl _) k1
    have eE : zl_eq a2 bs bw c w (fx_pt (fx_pt (fx_pt y bw W.length (1048576 * k + 0)) a2 11 ((W.length : Int) + 1)) a2 5 (r.2.1 + 1)) := (hE.tr (d2.tr (d5.tr d7 (Int.le_refl _)) (by omega)) (by omega))
    have step : x = zl_FM a2 bw base F (fx_pt (fx_pt (fx_pt y bw W.length (1048576 * k + 0)) a2 11 ((W.length : Int) + 1)) a2 5 (r.2.1 + 1)) := by
      have eK : zl_MM a2 bw base (F + 1) v = kB_X12_readsSum_14 (kL_X12_readsSum_14 a2 base bw F) a2 base bw v (v a2 10) (v a2 11) (v a2 5) := rfl
      have e38 : kJ_X12_readsSum_38 v a2 k bw (v a2 5) (kL_X12_readsSum_14 a2 base bw F) b = zl_FM a2 bw base F (fx_pt (fx_pt (fx_pt y bw W.length (1048576 * k + 0)) a2 11 ((W.length : Int) + 1)) a2 5 (r.2.1 + 1)) := by
        unfold kJ_X12_readsSum_38 kJ_X12_readsSum_163
        simp only [fz_lt, fz_ls, fz_lc]
        rw [← hy, d1.2.1.2.2.2, Int.toNat_natCast, hD.2.1.1, Int.add_zero]
        rfl
      rw [hx, eK]
      unfold kB_X12_readsSum_14
      simp only [fz_lt, hr2, hpq]
      rw [if_neg (by omega)]
      rcases hk with ⟨b1, k1, k2⟩ | ⟨b1, k1, k2⟩
      · rw [b1] at e38
        rw [if_neg (by omega)]
        exact e38
      · rw [b1] at e38
        rw [if_pos (by omega)]
        exact e38
    have lw : (((k, (0 : Int)) :: W).length : Int) = (W.length : Int) + 1 := by
      rw [List.length_cons]
      omega
    have wl : (W.length : Int) ≤ r.2.1 := by
      rw [List.length_append] at hPW
      omega
    have res := hG base (r.2.1 + 1) (c + (e.length : Int) + (P.length : Int)) ((k, 0) :: W) F _ d6 (by omega) (by omega) (by omega) ⟨hbs.1, by omega⟩ (by omega) hT (by
      have := hmo _ _ _ _ d6 (by omega) (by omega) (by omega)
      omega)
    rw [← step] at res
    have zg := hg (r.2.1 + 1) (by omega) (by omega)
    unfold zl_op
    rcases res with ⟨a1, a2', a3, a4⟩ | ⟨a1, f2, v2, P2, e2, b1, b2, b3, b4, b5, b6, b7, b8⟩
    · rw [if_neg a1]
      exact Or.inl ⟨a1, a2', a3, eE.tr a4 (by omega)⟩
    · rw [if_pos a1]
      refine Or.inr ⟨rfl, f2, v2, P2 ++ [(k, 0)], r.2.2 ++ e2, b1, b2, ?_, ?_, fun z hz => ?_, ?_, ?_, eE.tr b8 (by omega)⟩
      · show zl_D T a2 tb bs bw n (g (r.2.1 + 1)).2.1 op (c + ((r.2.2 ++ e2).length : Int)) (P2 ++ [(k, 0)] ++ W) v2
        rw [List.length_append, List.append_assoc, show c + ((r.2.2.length + e2.length : Nat) : Int) = c + (e.length : Int) + (P.length : Int) + (e2.length : Int) by omega]
        exact b3
      · show ((P2 ++ [(k, 0)] ++ W).length : Int) ≤ (g (r.2.1 + 1)).2.1
        rw [List.append_assoc]
        exact b4
      · rcases List.mem_append.mp hz with hz | hz
        · have := b5 z hz
          omega
        · rw [List.mem_singleton.mp hz]
          show lo ≤ k ∧ k ≤ 6
          omega
      · show zl_ce bs v2 c (r.2.2 ++ e2)
        refine zl_ce_app _ _ c (zl_ce_keep (e := c + (e.length : Int) + (P.length : Int)) b8.2.2 r.2.2 c h0 (by omega) ce) ?_
        rw [show c + (r.2.2.length : Int) = c + (e.length : Int) + (P.length : Int) by omega]
        exact b6
      · show r.2.2 ++ (g (r.2.1 + 1)).2.2 ++ [(zz_pk T n r.2.1, 0)] = r.2.2 ++ e2 ++ (P2 ++ [(k, 0)]).map (fun z : Int × Int => (zl_sg z.1, 0))
        rw [List.map_append, b7, ← hs]
        simp only [List.append_assoc, List.map_cons, List.map_nil]
end LawS
