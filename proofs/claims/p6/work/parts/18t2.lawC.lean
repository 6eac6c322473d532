/-! THE LAW: both answer alike -/
section LawCC
theorem zl_lawR {u v : fx_U} {a1 a2 q la sg vl ta tb bs bw bl bf bh bt l5 l6 l7 : Nat} {t x : Int} (h : zz_tp u v a1 a2 ta tb t) (hv : ∀ i, i < 260 → -128 ≤ v tb i ∧ v tb i ≤ 127) (ht : 0 ≤ t ∧ t ≤ 260) (hq : u a1 3 = (q : Int)) (hla : u q 4 = (la : Int)) (h3 : u la 3 = (sg : Int)) (h4 : u la 4 = (vl : Int)) (h5 : u la 5 = (l5 : Int) ∧ u la 6 = (l6 : Int) ∧ u la 7 = (l7 : Int)) (r15 : v a2 15 = (bs : Int) ∧ v a2 16 = (bw : Int)) (r17 : v a2 17 = (bl : Int) ∧ v a2 18 = (bf : Int) ∧ v a2 19 = (bh : Int) ∧ v a2 20 = (bt : Int)) (ha : zl_ap q la sg vl ta) (hb : zl_ac q la ta l5 l6 l7) (nq : q ≠ a1) (nl : la ≠ a1) (ha2 : zl_aq a2 tb bs bw) (hb2 : zl_ar a2 tb bl bf bh bt) : (f_X11_law u a1 x).1 = (f_X12_law v a2 x).1 := by
  obtain ⟨⟨hu, hw⟩, ⟨hta, htb⟩, htc⟩ := h
  unfold f_X11_law f_X12_law
  simp only [fz_lt, fz_lr, zz_is, zz_is2, hu, hw, hq, hta, r15.1, r17.2.1, r17.2.2.1, r17.2.2.2, Int.toNat_natCast]
  by_cases g1 : 1 ≤ x ∧ x ≤ 240
  · by_cases g2 : t < x
    · simp only [if_pos g1, if_neg zz_n10, if_pos g2]
    · simp only [if_pos g1, if_neg zz_n10, if_neg g2, fz_ls, fz_lc]
      have n1 := ha.2.1.1
      have n2 := ha.2.2.1.1
      obtain ⟨U0, hU0⟩ : ∃ U0 : fx_U, U0 = fx_pt (fx_pt (fx_pt (fx_pt u q 0 (ta : Int)) q 1 x) q 2 0) q 3 0 := ⟨_, rfl⟩
      obtain ⟨U, hU⟩ : ∃ U : fx_U, U = fx_pt (fx_pt (fx_pt U0 la 0 0) la 1 0) la 2 0 := ⟨_, rfl⟩
      have x4 : U0 q 4 = (la : Int) := by
        rw [hU0]
        exact (zz_pj (by decide)).trans ((zz_pj (by decide)).trans ((zz_pj (by decide)).trans ((zz_pj (by decide)).trans hla)))
      have eC : f_X4_read u q ta x = kL_X4_read_34 q 18 0 U := by
        have mn : ∀ w : fx_U, f_J9_min_7cf53 w x 260 = x := fun w => by
          unfold f_J9_min_7cf53
          rw [if_neg (by omega)]
        unfold f_X4_read f_X3_clear
        simp only [fz_ls, fz_lt, fz_lr, mn, ← hU0, x4, Int.toNat_natCast, ← hU]
        rfl
      have Uq : ∀ j : Nat, U q j = U0 q j := fun j => by
        rw [hU]
        exact (zz_pa n1).trans ((zz_pa n1).trans (zz_pa n1))
      have Ul : ∀ j : Nat, j ≠ 0 → j ≠ 1 → j ≠ 2 → U la j = u la j := fun j h1 h2 h3 => by
        rw [hU, hU0]
        exact (zz_pj h3).trans ((zz_pj h2).trans ((zz_pj h1).trans ((zz_pa n2).trans ((zz_pa n2).trans ((zz_pa n2).trans (zz_pa n2))))))
      have q0 : U0 q 0 = (ta : Int) := by
        rw [hU0]
        exact (zz_pj (by decide)).trans ((zz_pj (by decide)).trans ((zz_pj (by decide)).trans zz_ps))
      have q1 : U0 q 1 = x := by
        rw [hU0]
        exact (zz_pj (by decide)).trans ((zz_pj (by decide)).trans zz_ps)
      have q2 : U0 q 2 = 0 := by
        rw [hU0]
        exact (zz_pj (by decide)).trans zz_ps
      have q3 : U0 q 3 = 0 := by
        rw [hU0]
        exact zz_ps
      have l0 : U la 0 = 0 := by
        rw [hU]
        exact (zz_pj (by decide)).trans ((zz_pj (by decide)).trans zz_ps)
      have l1 : U la 1 = 0 := by
        rw [hU]
        exact (zz_pj (by decide)).trans zz_ps
      have t1 := ha.1.1
      have t2 := ha.1.2.1
      have hC : zl_C (fun i => v tb i % 256) q la sg vl ta x 0 0 U := by
        refine ⟨⟨(Uq 0).trans q0, (Uq 1).trans q1, (Uq 4).trans x4, (Ul 3 (by decide) (by decide) (by decide)).trans h3, (Ul 4 (by decide) (by decide) (by decide)).trans h4⟩, (Uq 2).trans q2, l1, fun i hi => ?_⟩
        rw [hU, hU0, zz_pa t2, zz_pa t2, zz_pa t2, zz_pa t1, zz_pa t1, zz_pa t1, zz_pa t1]
        exact htc i (by omega)
      have hB : zl_Bc q la l5 l6 l7 0 U := ⟨⟨(Ul 5 (by decide) (by decide) (by decide)).trans h5.1, (Ul 6 (by decide) (by decide) (by decide)).trans h5.2.1, (Ul 7 (by decide) (by decide) (by decide)).trans h5.2.2⟩, l0, (Uq 3).trans q3⟩
      have cl := zl_cL ha hb g1.2 18 0 0 0 U (by decide) hC hB (by decide) (by omega) (by decide) (by decide) (by decide) (by decide)
      obtain ⟨W, hW⟩ : ∃ W : fx_U, W = fx_pt (fx_pt (fx_pt (fx_pt v a2 5 0) a2 6 x) a2 10 0) a2 12 0 := ⟨_, rfl⟩
      have Wa : ∀ j : Nat, j ≠ 5 → j ≠ 6 → j ≠ 10 → j ≠ 12 → W a2 j = v a2 j := fun j h1 h2 h3 h4 => by
        rw [hW]
        exact (zz_pj h4).trans ((zz_pj h3).trans ((zz_pj h2).trans (zz_pj h1)))
      have t3 := ha2.1.1
      have hD : zl_D0 (fun i => v tb i % 256) a2 tb bs bw x 0 0 W := by
        refine ⟨⟨(Wa 3 (by decide) (by decide) (by decide) (by decide)).trans htb, ?_, (Wa 15 (by decide) (by decide) (by decide) (by decide)).trans r15.1, (Wa 16 (by decide) (by decide) (by decide) (by decide)).trans r15.2⟩, ⟨?_, ?_⟩, fun i hi => ?_⟩
        · rw [hW]
          exact (zz_pj (by decide)).trans ((zz_pj (by decide)).trans zz_ps)
        · rw [hW]
          exact (zz_pj (by decide)).trans ((zz_pj (by decide)).trans ((zz_pj (by decide)).trans zz_ps))
        · rw [hW]
          exact (zz_pj (by decide)).trans zz_ps
        · rw [hW, zz_pa t3, zz_pa t3, zz_pa t3, zz_pa t3]
          exact zz_and (hv i (by omega))
      have hB2 : zl_B a2 bl bf bh bt 0 W := ⟨⟨(Wa 17 (by decide) (by decide) (by decide) (by decide)).trans r17.1, (Wa 18 (by decide) (by decide) (by decide) (by decide)).trans r17.2.1, (Wa 19 (by decide) (by decide) (by decide) (by decide)).trans r17.2.2.1, (Wa 20 (by decide) (by decide) (by decide) (by decide)).trans r17.2.2.2⟩, by rw [hW]; exact zz_ps⟩
      have rl := zl_rL (bc := (v a2 21).toNat) (bcf := (v a2 23).toNat) (bch := (v a2 24).toNat) (bct := (v a2 25).toNat) ha2 hb2 g1.2 18 262 0 0 0 W (by decide) (by omega) hD hB2 (by decide) (by omega) (by decide) (by decide) (by decide) (by decide)
      rw [← hW]
      refine Eq.trans ?_ rl.symm
      rw [eC]
      obtain ⟨X, hX⟩ : ∃ X : Int × fx_U, X = kL_X4_read_34 q 18 0 U := ⟨_, rfl⟩
      rw [← hX] at cl ⊢
      rcases cl with ⟨c1, c2, c3, c4⟩ | ⟨c1, c2⟩
      · have y4 : fx_pt X.2 a1 1 0 q 4 = (la : Int) := (zz_pa nq).trans c4
        simp only [c1, if_true, y4, Int.toNat_natCast]
        exact (zz_pa n2).trans ((zz_pa nl).trans ((zz_pa nl).trans c2))
      · rw [if_neg (by omega)]
        exact c1
  · simp only [if_neg g1, if_true]
end LawCC
