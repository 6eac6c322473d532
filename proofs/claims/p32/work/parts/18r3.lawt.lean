/-! THE LAW'S TEXT in the reference: a factor -/
/-- what an E ends ahead of is no sign of it -/
def zl_en (T : Nat → Int) (n : Int) (g : Int → zl_O) : Prop := ∀ p, 0 ≤ p → p ≤ n → (g p).1 = 0 → ¬ (zz_pk T n (g p).2.1 = 42 ∨ zz_pk T n (g p).2.1 = 47 ∨ zz_pk T n (g p).2.1 = 37) ∧ ¬ (zz_pk T n (g p).2.1 = 43 ∨ zz_pk T n (g p).2.1 = 45)
section LawT
variable {T : Nat → Int} {a2 tb bs bw : Nat} {n p o c op base : Int} {W : List (Int × Int)} {w v : fx_U}
theorem zl_tl_en {F : Int → zl_O} {b : Int} (h : zl_gd n F) (h0 : 0 ≤ b) : ∀ (f : Nat) (r : zl_O), zl_g1 n b r → n - r.2.1 < (f : Int) → (zl_tl T n F f r).1 = 0 → ¬ (zz_pk T n (zl_tl T n F f r).2.1 = 42 ∨ zz_pk T n (zl_tl T n F f r).2.1 = 47 ∨ zz_pk T n (zl_tl T n F f r).2.1 = 37) := by
  intro f
  induction f with
  | zero => intro r hr h1; have := hr.1; omega
  | succ f ih =>
    intro r hr h1
    unfold zl_tl
    by_cases g : r.1 = 0 ∧ (zz_pk T n r.2.1 = 42 ∨ zz_pk T n r.2.1 = 47 ∨ zz_pk T n r.2.1 = 37)
    · have z := zl_op_g (T := T) h h0 hr g.1 (by omega)
      rw [if_pos g]
      exact ih _ z.1 (by have := z.2; omega)
    · rw [if_neg g]
      exact fun r0 t => g ⟨r0, t⟩
theorem zl_sl_en {F : Int → zl_O} {b : Int} (h : zl_gd n F) (hF : ∀ p, 0 ≤ p → p ≤ n → (F p).1 = 0 → ¬ (zz_pk T n (F p).2.1 = 42 ∨ zz_pk T n (F p).2.1 = 47 ∨ zz_pk T n (F p).2.1 = 37)) (h0 : 0 ≤ b) : ∀ (f : Nat) (r : zl_O), zl_g1 n b r → n - r.2.1 < (f : Int) → (r.1 = 0 → ¬ (zz_pk T n r.2.1 = 42 ∨ zz_pk T n r.2.1 = 47 ∨ zz_pk T n r.2.1 = 37)) → (zl_sl T n F f r).1 = 0 → ¬ (zz_pk T n (zl_sl T n F f r).2.1 = 42 ∨ zz_pk T n (zl_sl T n F f r).2.1 = 47 ∨ zz_pk T n (zl_sl T n F f r).2.1 = 37) ∧ ¬ (zz_pk T n (zl_sl T n F f r).2.1 = 43 ∨ zz_pk T n (zl_sl T n F f r).2.1 = 45) := by
  intro f
  induction f with
  | zero => intro r hr h1; have := hr.1; omega
  | succ f ih =>
    intro r hr h1 h2
    unfold zl_sl
    by_cases g : r.1 = 0 ∧ (zz_pk T n r.2.1 = 43 ∨ zz_pk T n r.2.1 = 45)
    · have hp := zz_pk_lt (T := T) (n := n) (p := r.2.1) (by omega)
      have z := zl_op_g (T := T) h h0 hr g.1 (by omega)
      rw [if_pos g]
      refine ih _ z.1 (by have := z.2; omega) (fun z0 => ?_)
      have hb := hr.1
      unfold zl_op at z0 ⊢
      by_cases q : (F (r.2.1 + 1)).1 = 0
      · rw [if_pos q]
        exact hF (r.2.1 + 1) (by omega) (by omega) q
      · rw [if_neg q] at z0
        exact absurd z0 q
    · rw [if_neg g]
      exact fun r0 => ⟨h2 r0, fun t => g ⟨r0, t⟩⟩
theorem zl_S_en (hn : n ≤ 240) : ∀ d : Nat, zl_en T n (zl_S T n d) := by
  have key : ∀ F : Int → zl_O, zl_gd n F → zl_en T n (zl_sum T n F) := by
    intro F hF p h0 h1
    have tg := zl_term_g (T := T) hF
    have te : ∀ p, 0 ≤ p → p ≤ n → (zl_term T n F p).1 = 0 → ¬ (zz_pk T n (zl_term T n F p).2.1 = 42 ∨ zz_pk T n (zl_term T n F p).2.1 = 47 ∨ zz_pk T n (zl_term T n F p).2.1 = 37) := fun p h0 h1 => zl_tl_en hF h0 241 (F p) (hF p h0 h1) (by have := (hF p h0 h1).1; omega)
    exact zl_sl_en tg te h0 241 _ (tg p h0 h1) (by have := (tg p h0 h1).1; omega) (te p h0 h1)
  intro d
  cases d with
  | zero => exact key _ (zl_fac_g (fun z => absurd z (by first | decide | (dsimp only; decide) | (dsimp only))))
  | succ d => exact key _ (zl_fac_g (fun _ => zl_S_g d))
theorem zl_rf1 (ha : zl_aq a2 tb bs bw) (hn : n ≤ 240) (hD : zl_D T a2 tb bs bw n p op c W w) (h0 : 0 ≤ p) (hc : 0 ≤ c) (g : zz_pk T n p = 91) (ho : 0 ≤ op ∧ op ≤ 5) : ∃ w1 : fx_U, f_X12_readsFactor w a2 = f_X12_readsFactor w1 a2 ∧ zl_D T a2 tb bs bw n (p + 1) (op + 1) c ((14, 0) :: W) w1 ∧ zl_eq a2 bs bw c w w1 := by
  have hp := zz_pk_lt (T := T) (n := n) (p := p) (by omega)
  obtain ⟨d1, e1⟩ := zl_opn ha (x := op + 1) hD
  obtain ⟨d2, e2⟩ := zl_push ha (k := 14) (b := 0) (by decide) d1
  obtain ⟨d3, e3⟩ := zl_at ha (x := p + 1) d2
  refine ⟨_, ?_, d3, e1.tr (e2.tr e3 (Int.le_refl c)) (Int.le_refl c)⟩
  have eo : f_X12_opens w a2 14 = (1, fx_pt (fx_pt (fx_pt (fx_pt w a2 9 (op + 1)) bw W.length (1048576 * 14 + 0)) a2 11 ((W.length : Int) + 1)) a2 5 (p + 1)) := by
    unfold f_X12_opens
    simp only [fz_lt, fz_lr, fz_ls, hD.1.2.2.2, hD.2.1.1, hD.2.1.2.1, hD.2.1.2.2.2, Int.toNat_natCast]
    rw [if_neg (by omega), zz_wadd (zz_sml ⟨by omega, by omega⟩) (zz_sml ⟨by decide, by decide⟩) (zz_sml ⟨by omega, by omega⟩), Int.add_zero]
  obtain ⟨w1, hw1⟩ : ∃ w1 : fx_U, w1 = fx_pt (fx_pt (fx_pt (fx_pt w a2 9 (op + 1)) bw W.length (1048576 * 14 + 0)) a2 11 ((W.length : Int) + 1)) a2 5 (p + 1) := ⟨_, rfl⟩
  rw [← hw1] at eo d3 ⊢
  have lw : (((14 : Int), (0 : Int)) :: W).length = W.length + 1 := rfl
  unfold f_X12_readsFactor
  simp only [fz_lt, fz_lr, hD.2.1.1, hD.2.1.2.2.1, hD.2.1.2.2.2, d3.2.1.1, d3.2.1.2.2.1, d3.2.1.2.2.2]
  rw [show Int.toNat (260 - p) + 1 = Int.toNat (260 - (p + 1)) + 1 + 1 by omega]
  have eK : kL_X12_readsFactor_0 a2 (Int.toNat (260 - (p + 1)) + 1 + 1) w c (W.length : Int) p = kB_X12_readsFactor_0 (kL_X12_readsFactor_0 a2 (Int.toNat (260 - (p + 1)) + 1)) a2 w c (W.length : Int) p := rfl
  rw [eK]
  unfold kB_X12_readsFactor_0
  simp only [fz_lt, fz_lc, zl_hr hD h0, eo]
  rw [if_pos g, if_neg zz_n10, d3.2.1.1, d3.2.1.2.2.2]
theorem zl_rf5 (hD : zl_D T a2 tb bs bw n p op c W w) (h0 : 0 ≤ p) (g : zz_pk T n p = 91) (ho : op = 6) : f_X12_readsFactor w a2 = (0, fx_pt w a2 7 (zz_ft 5 p)) := by
  have eo : f_X12_opens w a2 14 = (0, fx_pt w a2 7 (zz_ft 5 p)) := by
    unfold f_X12_opens
    simp only [fz_lt, fz_lr, fz_lc, hD.2.1.1, hD.2.1.2.1, zz_wrong]
    rw [if_pos ho]
  unfold f_X12_readsFactor
  simp only [fz_lt, fz_lr]
  have eK : ∀ (F : Nat) (a b d : Int), kL_X12_readsFactor_0 a2 (F + 1) w a b d = kB_X12_readsFactor_0 (kL_X12_readsFactor_0 a2 F) a2 w a b d := fun _ _ _ _ => rfl
  rw [eK]
  unfold kB_X12_readsFactor_0
  simp only [fz_lt, fz_lc, zl_hr hD h0, eo]
  rw [if_pos g]
  simp only [if_true]
theorem zl_numR (ha : zl_aq a2 tb bs bw) (hn : n ≤ 240) {fr : Int} : ∀ (f F : Nat) (x p : Int) (w : fx_U), p + (f : Int) = fr + 5 → 260 - p < (F : Int) → zl_D T a2 tb bs bw n p op c W w → 0 ≤ p → p ≤ n → w a2 8 = x →
    ((zl_num T n f x p).1 ≠ 0 ∧ ∃ y : fx_U, kL_X12_readsNumber_10 a2 fr F w p x = (0, y) ∧ y a2 7 = zz_ft (zl_num T n f x p).1 (zl_num T n f x p).2.1 ∧ y a2 5 = (zl_num T n f x p).2.1 ∧ zl_eq a2 bs bw c w y) ∨ (∃ (y : fx_U) (z p2 : Int), zl_num T n f x p = (0, p2, [(48, z)]) ∧ kL_X12_readsNumber_10 a2 fr F w p x = (1, y) ∧ zl_D T a2 tb bs bw n p2 op c W y ∧ y a2 8 = z ∧ zl_eq a2 bs bw c w y) := by
  intro f
  induction f with
  | zero =>
    intro F x p w h1 h2 hD h0 hpn h8
    obtain ⟨G, rfl⟩ : ∃ G : Nat, F = G + 1 := ⟨F - 1, by omega⟩
    have eK : kL_X12_readsNumber_10 a2 fr (G + 1) w p x = kB_X12_readsNumber_10 (kL_X12_readsNumber_10 a2 fr G) a2 fr w p x := rfl
    rw [eK]
    unfold kB_X12_readsNumber_10 zl_num
    simp only [fz_lt, zl_dg hD h0]
    by_cases g : 48 ≤ zz_pk T n p ∧ zz_pk T n p ≤ 57
    · simp only [if_pos g, if_neg zz_n10]
      rw [if_pos (by omega)]
      simp only [fz_lc, zz_wrong]
      exact Or.inl ⟨by first | decide | (dsimp only; decide) | (dsimp only), _, rfl, zz_ps, (zz_pj (by decide)).trans hD.2.1.1, zl_eq.pt ha (by decide)⟩
    · simp only [if_neg g, if_true]
      exact Or.inr ⟨w, x, p, rfl, rfl, hD, h8, zl_eq.rf⟩
  | succ f ih =>
    intro F x p w h1 h2 hD h0 hpn h8
    obtain ⟨G, rfl⟩ : ∃ G : Nat, F = G + 1 := ⟨F - 1, by omega⟩
    have eK : kL_X12_readsNumber_10 a2 fr (G + 1) w p x = kB_X12_readsNumber_10 (kL_X12_readsNumber_10 a2 fr G) a2 fr w p x := rfl
    rw [eK]
    unfold kB_X12_readsNumber_10 zl_num
    simp only [fz_lt, fz_ls, zl_dg hD h0, zl_hr hD h0]
    by_cases g : 48 ≤ zz_pk T n p ∧ zz_pk T n p ≤ 57
    · have hp := zz_pk_lt (T := T) (n := n) (p := p) (by omega)
      simp only [if_pos g, if_neg zz_n10]
      rw [if_neg (by omega), show 10 * x + zz_pk T n p - 48 = x * 10 + zz_pk T n p - 48 by omega]
      have k1 : zl_eq a2 bs bw c w (fx_pt w a2 8 (x * 10 + zz_pk T n p - 48)) := zl_eq.pt ha (by decide)
      have d1 := hD.mv ha k1 ((zz_pj (by decide)).trans hD.2.1.1) ((zz_pj (by decide)).trans hD.2.1.2.1) ((zz_pj (by decide)).trans hD.2.1.2.2.1) ((zz_pj (by decide)).trans hD.2.1.2.2.2) (zl_sk_keep W (fun i _ => zz_pa ha.2.2.2.1) hD.2.2.1)
      obtain ⟨d2, k2⟩ := zl_at ha (x := p + 1) d1
      rcases ih G (x * 10 + zz_pk T n p - 48) (p + 1) _ (by omega) (by omega) d2 (by omega) (by omega) ((zz_pj (by decide)).trans zz_ps) with ⟨a1, y, a3, a4, a5, a6⟩ | ⟨y, z, p2, a1, a3, a4, a5, a6⟩
      · exact Or.inl ⟨a1, y, a3, a4, a5, (k1.tr k2 (Int.le_refl c)).tr a6 (Int.le_refl c)⟩
      · exact Or.inr ⟨y, z, p2, a1, a3, a4, a5, (k1.tr k2 (Int.le_refl c)).tr a6 (Int.le_refl c)⟩
    · simp only [if_neg g, if_true]
      exact Or.inr ⟨w, x, p, rfl, rfl, hD, h8, zl_eq.rf⟩
end LawT
