/-! THE LAW IN FORCE: both keep the same clauses -/
theorem zl_cls_E {T : Nat → Int} {n : Int} (hn : n ≤ 240) : ∀ (f : Nat) (m p : Int), 0 ≤ p → p ≤ n → 0 < zl_law T n f m p → zv_LE (zl_cls T n f m p) := by
  intro f
  induction f with
  | zero => intro m p _ _ h; exact absurd h (show ¬ ((0 : Int) < 0) by decide)
  | succ f ih =>
    intro m p h0 h1 h
    have kg := zl_K_g (T := T) (m := m) h0 h1
    unfold zl_law at h
    by_cases k : (zl_K T n m p).1 = 0
    · rw [if_pos k] at h
      have hS : (zl_S T n 6 (p + 1)).1 = 0 ∧ (zl_cn T n (zl_S T n 6 (p + 1)).2.1).1 = 0 := by
        unfold zl_K at k
        by_cases L : zz_pk T n p = 112 ∨ zz_pk T n p = 100 ∨ zz_pk T n p = 115 ∨ zz_pk T n p = 111 ∨ zz_pk T n p = 108
        · rw [if_pos L] at k
          by_cases m16 : m = 16
          · rw [if_pos m16] at k
            exact absurd k (show ¬ ((4 : Int) = 0) by decide)
          · rw [if_neg m16] at k
            by_cases e : (zl_S T n 6 (p + 1)).1 = 0
            · rw [if_pos e] at k
              by_cases c : (zl_cn T n (zl_S T n 6 (p + 1)).2.1).1 = 0
              · exact ⟨e, c⟩
              · rw [if_neg c] at k
                exact absurd k c
            · rw [if_neg e] at k
              exact absurd k e
        · rw [if_neg L] at k
          exact absurd k (show ¬ ((1 : Int) = 0) by decide)
      have hC : zv_C (zl_cn T n (zl_S T n 6 (p + 1)).2.1).2.2 := by
        have c := hS.2
        unfold zl_cn at c ⊢
        by_cases g : zz_pk T n (zl_S T n 6 (p + 1)).2.1 = 40
        · rw [if_pos g] at c ⊢
          unfold zl_ex at c ⊢
          by_cases g2 : (zl_parts T n (zl_P T n 5) ((zl_S T n 6 (p + 1)).2.1 + 1)).1 = 0
          · rw [if_pos g2] at c ⊢
            by_cases g3 : zz_pk T n (zl_parts T n (zl_P T n 5) ((zl_S T n 6 (p + 1)).2.1 + 1)).2.1 = 41
            · rw [if_pos g3]
              exact zv_parts (fun p => zv_P 5 (by decide) p) _ g2
            · rw [if_neg g3] at c
              exact absurd c (show ¬ ((1 : Int) = 0) by decide)
          · rw [if_neg g2] at c
            exact absurd c g2
        · rw [if_neg g] at c
          exact absurd c (show ¬ ((1 : Int) = 0) by decide)
      unfold zl_cls
      intro x hx
      rcases List.mem_cons.mp hx with e | hx
      · rw [e]
        exact ⟨(zv_S 6 (p + 1) hS.1).mono (by decide), hC⟩
      · by_cases g : (zl_K T n m p).2.1 < n
        · rw [if_pos g] at hx h
          by_cases g2 : zz_pk T n (zl_K T n m p).2.1 = 59
          · rw [if_pos g2] at h
            obtain ⟨z1, z2⟩ := kg.2.1 k
            exact ih _ _ (by omega) (by omega) h x hx
          · rw [if_neg g2] at h
            have ng := zz_ft_neg (k := 1) (p := (zl_K T n m p).2.1) (by decide) (by have := kg.1; omega)
            omega
        · rw [if_neg g] at hx
          cases hx
    · rw [if_neg k] at h
      have ng := zz_ft_neg (k := (zl_K T n m p).1) (p := (zl_K T n m p).2.1) (by have := kg.2.2; omega) (by have := kg.1; omega)
      omega
/-- the class's law, whole -/
theorem zl_cW {T : Nat → Int} {u : fx_U} {a1 q lf lr sg vl ta l5 l6 l7 : Nat} {t x : Int} (g1 : 1 ≤ x ∧ x ≤ 240) (g2 : x ≤ t) (h1 : u a1 0 = (ta : Int) ∧ u a1 1 = t ∧ u a1 3 = (q : Int) ∧ u a1 4 = (lf : Int)) (hl : u q 4 = (lr : Int)) (h3 : u lr 3 = (sg : Int) ∧ u lr 4 = (vl : Int)) (h5 : u lr 5 = (l5 : Int) ∧ u lr 6 = (l6 : Int) ∧ u lr 7 = (l7 : Int)) (hT : ∀ i : Nat, (i : Int) < x → u ta i = T i) (ha : zl_ap q lr sg vl ta) (hb : zl_ac q lr ta l5 l6 l7) (hd : zl_ad sg vl l5 l6 l7) (n1 : (a1 ≠ q ∧ a1 ≠ lr ∧ a1 ≠ sg ∧ a1 ≠ vl) ∧ a1 ≠ l5 ∧ a1 ≠ l6 ∧ a1 ≠ l7) :
    (0 < zl_law T x 18 0 0 ∧ ∃ (w : fx_U) (N : Int), f_X11_law u a1 x = (zl_law T x 18 0 0, w) ∧ (w a1 4 = (lr : Int) ∧ w a1 3 = (q : Int) ∧ w q 4 = (lf : Int)) ∧ (∀ b : Nat, b ≠ a1 → b ≠ q → b ≠ lr → b ≠ sg → b ≠ vl → b ≠ l5 → b ≠ l6 → b ≠ l7 → ∀ i : Nat, w b i = u b i) ∧ (∀ j : Nat, 3 ≤ j → w lr j = u lr j) ∧ (w lr 0 = zl_law T x 18 0 0 ∧ w lr 1 = N ∧ 0 ≤ N ∧ N ≤ 240 ∧ w lr 2 = zl_amR (zl_cls T x 18 0 0) 0) ∧ zv_Lc sg vl l5 l6 l7 N w 0 (zl_cls T x 18 0 0)) ∨
    (zl_law T x 18 0 0 < 0 ∧ ∃ w : fx_U, f_X11_law u a1 x = (zl_law T x 18 0 0, w) ∧ (w a1 4 = (lf : Int) ∧ w a1 3 = (q : Int) ∧ w q 4 = (lr : Int)) ∧ (∀ b : Nat, b ≠ a1 → b ≠ q → b ≠ lr → b ≠ sg → b ≠ vl → b ≠ l5 → b ≠ l6 → b ≠ l7 → ∀ i : Nat, w b i = u b i) ∧ ∀ j : Nat, 3 ≤ j → w lr j = u lr j) := by
  obtain ⟨hta, hu, hq, hf⟩ := h1
  obtain ⟨⟨m1, m2, m3, m4⟩, m5, m6, m7⟩ := n1
  have k1 := ha.2.1.1
  have k2 := ha.2.2.1.1
  have t1 := ha.1.1
  have t2 := ha.1.2.1
  have hd0 := hd
  have hb0 := hb
  obtain ⟨⟨g5, g6, g7⟩, ⟨v5, v6, v7⟩, -⟩ := hd
  obtain ⟨⟨q5, q6, q7⟩, ⟨a5, a6, a7⟩, -⟩ := hb
  have G0 := ha.2.2.2.1.1
  have V0 := ha.2.2.2.2.1
  have G1 := ha.2.2.2.1.2.1
  have V1 := ha.2.2.2.2.2.1
  obtain ⟨U0, hU0⟩ : ∃ U0 : fx_U, U0 = fx_pt (fx_pt (fx_pt (fx_pt u q 0 (ta : Int)) q 1 x) q 2 0) q 3 0 := ⟨_, rfl⟩
  obtain ⟨U, hU⟩ : ∃ U : fx_U, U = fx_pt (fx_pt (fx_pt U0 lr 0 0) lr 1 0) lr 2 0 := ⟨_, rfl⟩
  have x4 : U0 q 4 = (lr : Int) := by
    rw [hU0]
    exact (zz_pj (by decide)).trans ((zz_pj (by decide)).trans ((zz_pj (by decide)).trans ((zz_pj (by decide)).trans hl)))
  have eC : f_X4_read u q ta x = kL_X4_read_34 q 18 0 U := by
    have mn : ∀ w : fx_U, f_J9_min_7cf53 w x 260 = x := fun w => by
      unfold f_J9_min_7cf53
      rw [if_neg (by omega)]
    unfold f_X4_read f_X3_clear
    simp only [fz_ls, fz_lt, fz_lr, mn, ← hU0, x4, Int.toNat_natCast, ← hU]
    rfl
  have Ub : ∀ b i : Nat, b ≠ q → b ≠ lr → U b i = u b i := fun b i h1 h2 => by
    rw [hU, hU0]
    exact (zz_pa h2).trans ((zz_pa h2).trans ((zz_pa h2).trans ((zz_pa h1).trans ((zz_pa h1).trans ((zz_pa h1).trans (zz_pa h1))))))
  have Uq : ∀ j : Nat, U q j = U0 q j := fun j => by
    rw [hU]
    exact (zz_pa k1).trans ((zz_pa k1).trans (zz_pa k1))
  have Ul : ∀ j : Nat, 3 ≤ j → U lr j = u lr j := fun j hj => by
    rw [hU, hU0]
    exact (zz_pj (by omega)).trans ((zz_pj (by omega)).trans ((zz_pj (by omega)).trans ((zz_pa k2).trans ((zz_pa k2).trans ((zz_pa k2).trans (zz_pa k2))))))
  have q0 : U0 q 0 = (ta : Int) := by
    rw [hU0]
    exact (zz_pj (by decide)).trans ((zz_pj (by decide)).trans ((zz_pj (by decide)).trans zz_ps))
  have q1 : U0 q 1 = x := by
    rw [hU0]
    exact (zz_pj (by decide)).trans ((zz_pj (by decide)).trans zz_ps)
  have q2 : U0 q 2 = 0 := by
    rw [hU0]
    exact (zz_pj (by decide)).trans zz_ps
  have q3 : U0 q 3 = 0 := by
    rw [hU0]
    exact zz_ps
  have l0 : U lr 0 = 0 := by
    rw [hU]
    exact (zz_pj (by decide)).trans ((zz_pj (by decide)).trans zz_ps)
  have l1 : U lr 1 = 0 := by
    rw [hU]
    exact (zz_pj (by decide)).trans zz_ps
  have l2 : U lr 2 = 0 := by
    rw [hU]
    exact zz_ps
  have hC : zl_C T q lr sg vl ta x 0 0 U := ⟨⟨(Uq 0).trans q0, (Uq 1).trans q1, (Uq 4).trans x4, (Ul 3 (by decide)).trans h3.1, (Ul 4 (by decide)).trans h3.2⟩, (Uq 2).trans q2, l1, fun i hi => (Ub ta i t1 t2).trans (hT i hi)⟩
  have hB : zl_Bc q lr l5 l6 l7 0 U := ⟨⟨(Ul 5 (by decide)).trans h5.1, (Ul 6 (by decide)).trans h5.2.1, (Ul 7 (by decide)).trans h5.2.2⟩, l0, (Uq 3).trans q3⟩
  have ng1 : ¬ x < 1 := by omega
  have ng2 : ¬ 240 < x := by omega
  have ng3 : ¬ t < x := by omega
  have eL : ∀ (r : Int) (Y : fx_U), kL_X4_read_34 q 18 0 U = (r, Y) → f_X11_law u a1 x = fx_ls (fx_pt Y a1 1 0) fun u36 => (if r = 0 then fx_lr (u36 a1 4) fun b46 => fx_lr (u36 q 4) fun b55 => fx_ls (fx_pt u36 a1 4 (b55 : Nat)) fun u58 => fx_ls (fx_pt u58 q 4 (b46 : Nat)) fun u66 => fx_lt (u66 b55 0) fun v73 => (v73, u66) else (r, u36)) := fun r Y h => by
    unfold f_X11_law f_X11_isIn
    simp only [fz_lt, fz_lr, fz_lc, hu, hq, hta, Int.toNat_natCast, if_neg ng1, if_neg ng2, if_neg ng3, if_neg zz_n10, eC, h]
  rcases zl_cL2 ha hb0 hd0 g1.2 18 0 0 0 U (by decide) hC hB (by decide) (by omega) (by decide) (by decide) (by decide) (by decide) with ⟨c1, Y, N, c2, c3, c4, c5, c6, c7, c8, c9, c10⟩ | ⟨c1, Y, c2, c6⟩
  · have y4 : Y a1 4 = (lf : Int) := (c6.1 a1 m1 m2 m3 m4 m5 m6 m7 4).trans ((Ub a1 4 m1 m2).trans hf)
    have yq : Y q 4 = (lr : Int) := (c6.2.2 4 (by decide) (by decide)).trans ((Uq 4).trans x4)
    have z4 : fx_pt Y a1 1 0 a1 4 = (lf : Int) := (zz_pj (by decide)).trans y4
    have zq : fx_pt Y a1 1 0 q 4 = (lr : Int) := (zz_pa (Ne.symm m1)).trans yq
    obtain ⟨W, hW⟩ : ∃ W : fx_U, W = fx_pt (fx_pt (fx_pt Y a1 1 0) a1 4 (lr : Int)) q 4 (lf : Int) := ⟨_, rfl⟩
    have Wb : ∀ b i : Nat, b ≠ a1 → b ≠ q → W b i = Y b i := fun b i h1 h2 => by
      rw [hW]
      exact (zz_pa h2).trans ((zz_pa h1).trans (zz_pa h1))
    have Wl : ∀ j : Nat, W lr j = Y lr j := fun j => Wb lr j (Ne.symm m2) k2
    refine Or.inl ⟨c1, W, N, ?_, ⟨?_, ?_, ?_⟩, fun b h1 h2 h3 h4 h5 h6 h7 h8 i => ?_, fun j hj => ?_, ⟨(Wl 0).trans c3, (Wl 1).trans c4, by omega, by omega, ?_⟩, ?_⟩
    · rw [eL 0 Y c2]
      simp only [fz_ls, fz_lr, fz_lt, if_true, z4, zq, Int.toNat_natCast, ← hW, Wl, c3]
    · rw [hW]
      exact (zz_pa m1).trans zz_ps
    · rw [hW]
      exact (zz_pa m1).trans ((zz_pj (by decide)).trans ((zz_pj (by decide)).trans ((c6.1 a1 m1 m2 m3 m4 m5 m6 m7 3).trans ((Ub a1 3 m1 m2).trans hq))))
    · rw [hW]
      exact zz_ps
    · exact (Wb b i h1 h2).trans ((c6.1 b h2 h3 h4 h5 h6 h7 h8 i).trans (Ub b i h2 h3))
    · exact (Wl j).trans ((c6.2.1 j hj).trans (Ul j hj))
    · rw [Wl, c10, l2]
    · exact zv_Lc_mv (Int.le_refl _) (fun i _ => ⟨Wb sg i (Ne.symm m3) G0, Wb vl i (Ne.symm m4) V0⟩) _ 0 (fun i _ _ => ⟨Wb l5 i (Ne.symm m5) (Ne.symm q5), Wb l6 i (Ne.symm m6) (Ne.symm q6), Wb l7 i (Ne.symm m7) (Ne.symm q7)⟩) c9
  · have nz : ¬ zl_law T x 18 0 0 = 0 := by omega
    have y4 : Y a1 4 = (lf : Int) := (c6.1 a1 m1 m2 m3 m4 m5 m6 m7 4).trans ((Ub a1 4 m1 m2).trans hf)
    have yq : Y q 4 = (lr : Int) := (c6.2.2 4 (by decide) (by decide)).trans ((Uq 4).trans x4)
    refine Or.inr ⟨c1, fx_pt Y a1 1 0, ?_, ⟨(zz_pj (by decide)).trans y4, (zz_pj (by decide)).trans ((c6.1 a1 m1 m2 m3 m4 m5 m6 m7 3).trans ((Ub a1 3 m1 m2).trans hq)), (zz_pa (Ne.symm m1)).trans yq⟩, fun b h1 h2 h3 h4 h5 h6 h7 h8 i => ?_, fun j hj => ?_⟩
    · rw [eL _ Y c2]
      simp only [fz_ls, if_neg nz]
    · exact (zz_pa h1).trans ((c6.1 b h2 h3 h4 h5 h6 h7 h8 i).trans (Ub b i h2 h3))
    · exact (zz_pa (Ne.symm m2)).trans ((c6.2.1 j hj).trans (Ul j hj))
/-- the reference's law, whole -/
theorem zl_rW {T : Nat → Int} {v : fx_U} {a2 tb bs bw bl bf bh bt bc bcl bcf bch bct : Nat} {t x : Int} (g1 : 1 ≤ x ∧ x ≤ 240) (g2 : x ≤ t) (h4 : v a2 4 = t) (h3 : v a2 3 = (tb : Int)) (r15 : v a2 15 = (bs : Int) ∧ v a2 16 = (bw : Int)) (r17 : v a2 17 = (bl : Int) ∧ v a2 18 = (bf : Int) ∧ v a2 19 = (bh : Int) ∧ v a2 20 = (bt : Int)) (r21 : v a2 21 = (bc : Int) ∧ v a2 22 = (bcl : Int) ∧ v a2 23 = (bcf : Int) ∧ v a2 24 = (bch : Int) ∧ v a2 25 = (bct : Int)) (hT : ∀ i : Nat, (i : Int) < x → fx_b_and (v tb i) 255 = T i) (ha : zl_aq a2 tb bs bw) (hb : zl_ar a2 tb bl bf bh bt) (hs : zl_as bs bw bl bf bh bt) (hk : zl_ak a2 bs bl bf bh bt bc bcl bcf bch bct) :
    (0 < zl_law T x 18 0 0 ∧ ∃ w : fx_U, f_X12_law v a2 x = (zl_law T x 18 0 0, w) ∧ (w a2 13 = zl_law T x 18 0 0 ∧ zl_law T x 18 0 0 = ((zl_cls T x 18 0 0).length : Int) ∧ zl_law T x 18 0 0 ≤ 16) ∧ (∀ j : Nat, 13 < j → w a2 j = v a2 j) ∧ zv_Lr bcl bcf bch bct bc w 0 (zl_cls T x 18 0 0)) ∨ (zl_law T x 18 0 0 < 0 ∧ ∃ w : fx_U, f_X12_law v a2 x = (zl_law T x 18 0 0, w) ∧ (∀ j : Nat, 12 < j → w a2 j = v a2 j) ∧ ∀ b : Nat, b ≠ a2 → b ≠ bs → b ≠ bw → b ≠ bl → b ≠ bf → b ≠ bh → b ≠ bt → ∀ i : Nat, w b i = v b i) := by
  obtain ⟨W, hW⟩ : ∃ W : fx_U, W = fx_pt (fx_pt (fx_pt (fx_pt v a2 5 0) a2 6 x) a2 10 0) a2 12 0 := ⟨_, rfl⟩
  have Wa : ∀ j : Nat, j ≠ 5 → j ≠ 6 → j ≠ 10 → j ≠ 12 → W a2 j = v a2 j := fun j h1 h2 h3 h4 => by
    rw [hW]
    exact (zz_pj h4).trans ((zz_pj h3).trans ((zz_pj h2).trans (zz_pj h1)))
  have Wb : ∀ b i : Nat, b ≠ a2 → W b i = v b i := fun b i h => by
    rw [hW]
    exact (zz_pa h).trans ((zz_pa h).trans ((zz_pa h).trans (zz_pa h)))
  have t3 := ha.1.1
  have hD : zl_D0 T a2 tb bs bw x 0 0 W := by
    refine ⟨⟨(Wa 3 (by decide) (by decide) (by decide) (by decide)).trans h3, ?_, (Wa 15 (by decide) (by decide) (by decide) (by decide)).trans r15.1, (Wa 16 (by decide) (by decide) (by decide) (by decide)).trans r15.2⟩, ⟨?_, ?_⟩, fun i hi => ?_⟩
    · rw [hW]
      exact (zz_pj (by decide)).trans ((zz_pj (by decide)).trans zz_ps)
    · rw [hW]
      exact (zz_pj (by decide)).trans ((zz_pj (by decide)).trans ((zz_pj (by decide)).trans zz_ps))
    · rw [hW]
      exact (zz_pj (by decide)).trans zz_ps
    · rw [Wb tb i t3]
      exact hT i hi
  have hB2 : zl_B a2 bl bf bh bt 0 W := ⟨⟨(Wa 17 (by decide) (by decide) (by decide) (by decide)).trans r17.1, (Wa 18 (by decide) (by decide) (by decide) (by decide)).trans r17.2.1, (Wa 19 (by decide) (by decide) (by decide) (by decide)).trans r17.2.2.1, (Wa 20 (by decide) (by decide) (by decide) (by decide)).trans r17.2.2.2⟩, by rw [hW]; exact zz_ps⟩
  have ng1 : ¬ x < 1 := by omega
  have ng2 : ¬ 240 < x := by omega
  have ng3 : ¬ t < x := by omega
  have eL : f_X12_law v a2 x = zl_Y a2 bs bc bf bcf bh bch bt bct 262 (f_X12_readsClause W a2) := by
    unfold f_X12_law f_X12_in zl_Y
    simp only [fz_lt, fz_lr, fz_ls, fz_lc, h4, r15.1, r17.2.1, r17.2.2.1, r17.2.2.2, r21.1, r21.2.2.1, r21.2.2.2.1, r21.2.2.2.2, Int.toNat_natCast, if_neg ng1, if_neg ng2, if_neg ng3, if_neg zz_n10, ← hW]
  rcases zl_rL2 (bc := bc) (bcf := bcf) (bch := bch) (bct := bct) ha hb hs g1.2 18 262 0 0 0 W (by decide) (by omega) hD hB2 (by decide) (by omega) (by decide) (by decide) (by decide) (by decide) with ⟨c1, y, c2, c3⟩ | ⟨c1, y, e, c2, c3, c4, c5, c6, c7⟩
  · refine Or.inr ⟨c1, fx_pt y a2 4 0, eL.trans c2, fun j hj => ?_, fun b h1 h2 h3 h4 h5 h6 h7 i => ?_⟩
    · exact (zz_pj (by omega)).trans ((c3.2.1 j (by omega) (by omega) (by omega) (by omega) (by omega) (by omega) (by omega)).trans (Wa j (by omega) (by omega) (by omega) (by omega)))
    · exact (zz_pa h1).trans ((c3.1 b h1 h2 h3 h4 h5 h6 h7 i).trans (Wb b i h1))
  · obtain ⟨Y, hY⟩ : ∃ Y : fx_U, Y = fx_pt (fx_pt y a2 4 0) a2 13 (zl_law T x 18 0 0) := ⟨_, rfl⟩
    rw [← hY] at c2
    have Yj : ∀ j : Nat, 13 < j → Y a2 j = v a2 j := fun j hj => by
      rw [hY]
      exact (zz_pj (by omega)).trans ((zz_pj (by omega)).trans ((c3.2.1 j (by omega) (by omega) (by omega) (by omega) (by omega) (by omega) (by omega)).trans (Wa j (by omega) (by omega) (by omega) (by omega))))
    have Yb : ∀ b i : Nat, b ≠ a2 → Y b i = y b i := fun b i h => by
      rw [hY]
      exact (zz_pa h).trans (zz_pa h)
    have hn := hb.1
    have cL : zl_Lr bl bf bh bt bs e Y 0 (zl_cls T x 18 0 0) := by
      have e1 : ∀ (R : zl_L) (j : Nat), zl_Lr bl bf bh bt bs e y j R → zl_Lr bl bf bh bt bs e Y j R := by
        intro R
        induction R with
        | nil => intro j _; exact True.intro
        | cons k R ih => intro j h; exact ⟨h.1.mv (Int.le_refl e) ⟨Yb bl j (Ne.symm hn.1), Yb bf j (Ne.symm hn.2.1), Yb bh j (Ne.symm hn.2.2.1), Yb bt j (Ne.symm hn.2.2.2)⟩ (fun i _ => Yb bs i ha.2.2.1.1), ih (j + 1) h.2⟩
      exact e1 _ _ c4
    have c6' : zl_law T x 18 0 0 = ((zl_cls T x 18 0 0).length : Int) := by omega
    obtain ⟨Z, z1, z2, z3⟩ := zl_cpy (M := zl_law T x 18 0 0) (e := e) hk ⟨c5.1, by omega⟩ c6' c7 ((Yj 22 (by decide)).trans r21.2.1) ((Yj 17 (by decide)).trans r17.1) cL
    obtain ⟨A0, A1, A2, A3, A4⟩ := hk.1
    have Za : ∀ j : Nat, Z a2 j = Y a2 j := fun j => z3 a2 A0 A1 A2 A3 A4 j
    refine Or.inl ⟨c1, Z, eL.trans (c2.trans z1), ⟨?_, c6', c7⟩, fun j hj => (Za j).trans (Yj j hj), z2⟩
    rw [Za, hY]
    exact zz_ps
/-- the law in force, on both sides -/
def zi_P (a1 a2 q lf lr s1 v1 x5 x6 x7 s2 v2 y5 y6 y7 bc bcl bcf bch bct : Nat) (R : zl_L) (u : fx_U) : Prop := ((u a1 3 = (q : Int) ∧ u a1 4 = (lf : Int) ∧ u q 4 = (lr : Int)) ∧ lf ≠ lr ∧ (u lf 3 = (s1 : Int) ∧ u lf 4 = (v1 : Int) ∧ u lf 5 = (x5 : Int) ∧ u lf 6 = (x6 : Int) ∧ u lf 7 = (x7 : Int)) ∧ (u lr 3 = (s2 : Int) ∧ u lr 4 = (v2 : Int) ∧ u lr 5 = (y5 : Int) ∧ u lr 6 = (y6 : Int) ∧ u lr 7 = (y7 : Int)) ∧ (s1 ≠ s2 ∧ v1 ≠ v2 ∧ x5 ≠ y5 ∧ x6 ≠ y6 ∧ x7 ≠ y7)) ∧ ((u lf 0 = (R.length : Int) ∧ u lf 1 ≤ 240 ∧ u lf 2 = zl_amR R 0) ∧ zv_Lc s1 v1 x5 x6 x7 (u lf 1) u 0 R) ∧ ((u a2 13 = (R.length : Int) ∧ u a2 21 = (bc : Int) ∧ u a2 22 = (bcl : Int) ∧ u a2 23 = (bcf : Int) ∧ u a2 24 = (bch : Int) ∧ u a2 25 = (bct : Int)) ∧ zv_Lr bcl bcf bch bct bc u 0 R) ∧ zv_LE R ∧ R.length ≤ 16
def zi_L (a1 a2 : Nat) (u : fx_U) : Prop := ∃ (R : zl_L) (q lf lr s1 v1 x5 x6 x7 s2 v2 y5 y6 y7 bc bcl bcf bch bct : Nat), zi_P a1 a2 q lf lr s1 v1 x5 x6 x7 s2 v2 y5 y6 y7 bc bcl bcf bch bct R u
