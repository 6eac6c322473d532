/-! laid by wip/p2/build.py -/
theorem dX12_notes_0 : decode cX12_notes 0 = .ok (.aload_n 0, 1) := by decide +kernel
theorem dX12_notes_1 : decode cX12_notes 1 = .ok (.getfield 23, 3) := by decide +kernel
theorem dX12_notes_4 : decode cX12_notes 4 = .ok (.aload_n 0, 1) := by decide +kernel
theorem dX12_notes_5 : decode cX12_notes 5 = .ok (.getfield 150, 3) := by decide +kernel
theorem dX12_notes_8 : decode cX12_notes 8 = .ok (.ldc 153, 2) := by decide +kernel
theorem dX12_notes_10 : decode cX12_notes 10 = .ok (.iload_n 1, 1) := by decide +kernel
theorem dX12_notes_11 : decode cX12_notes 11 = .ok (.imul, 1) := by decide +kernel
theorem dX12_notes_12 : decode cX12_notes 12 = .ok (.iload_n 2, 1) := by decide +kernel
theorem dX12_notes_13 : decode cX12_notes 13 = .ok (.iadd, 1) := by decide +kernel
theorem dX12_notes_14 : decode cX12_notes 14 = .ok (.iastore, 1) := by decide +kernel
theorem dX12_notes_15 : decode cX12_notes 15 = .ok (.aload_n 0, 1) := by decide +kernel
theorem dX12_notes_16 : decode cX12_notes 16 = .ok (.aload_n 0, 1) := by decide +kernel
theorem dX12_notes_17 : decode cX12_notes 17 = .ok (.getfield 150, 3) := by decide +kernel
theorem dX12_notes_20 : decode cX12_notes 20 = .ok (.iconst 1, 1) := by decide +kernel
theorem dX12_notes_21 : decode cX12_notes 21 = .ok (.iadd, 1) := by decide +kernel
theorem dX12_notes_22 : decode cX12_notes 22 = .ok (.putfield 150, 3) := by decide +kernel
theorem dX12_notes_25 : decode cX12_notes 25 = .ok (.return_, 1) := by decide +kernel
def md_X12_notes : List (Nat × Nat) := [(10, 10), (150, 0)]
set_option maxRecDepth 100000 in
set_option maxHeartbeats 4000000 in
theorem c_X12_notes {l : Launch} {D : q_D} (τ : q_T) (σ : q_V) (a0 : Nat) (x1 : Int32) (x2 : Int32) (hI : q_I τ σ) (tA0 : τ a0 = some (10, 1)) (rA1 : q_r x1 0 12) (rA2 : q_r x2 0 99999) (bs : Nat) (hbs : σ a0 15 = .ref bs) (Tbs : τ bs = some (150, 260)) (cq : Int32) (hcq : σ a0 10 = .int cq) (rcq : q_r cq 0 259) : q_Cv l D yX12_notes cX12_notes 3 none 0 0 τ σ [.ref a0, .int x1, .int x2] (fun σ1 => q_S md_X12_notes τ σ σ1 ∧ (fx_N σ1 = f_X12_notes (fx_N σ) a0 x1.toInt x2.toInt) ∧ (q_x (∃ x c1 : Int32, σ1 bs = updV (σ bs) cq.toInt.toNat (.int x) ∧ x.toInt = 1048576 * x1.toInt + x2.toInt ∧ σ1 a0 10 = .int c1 ∧ c1.toInt = cq.toInt + 1))) := by
  refine q_metv rfl (Nat.le_of_ble_eq_true rfl) (fun X hG hE => ?_)
  show q_O X 0 0 τ σ 0 [(0, .ref a0), (1, .int x1), (2, .int x2)] []
  have hS0 : q_S md_X12_notes τ σ σ := q_S.rf hI
  obtain ⟨Fv, hF⟩ : ∃ z, fx_eq z (f_X12_notes (fx_N σ) a0 x1.toInt x2.toInt) := ⟨_, fx_rf⟩
  have hF0 := hF
  unfold f_X12_notes at hF
  replace hF := fx_R hF hbs rfl
  replace hF := fx_I hF hcq rfl
  refine q_aload_n (pc := 0) hG dX12_notes_0 0 rfl ?_
  refine q_getV (pc := 1) (v := .ref bs) hG fl_X12_23 dX12_notes_1 tA0 hbs ?_
  refine q_aload_n (pc := 4) hG dX12_notes_4 0 rfl ?_
  refine q_getV (pc := 5) (v := .int cq) hG fl_X12_150 dX12_notes_5 tA0 hcq ?_
  refine q_ldc (pc := 8) hG w916 dX12_notes_8 ?_
  refine q_iload_n (pc := 10) hG dX12_notes_10 1 rfl ?_
  refine q_imul (pc := 11) hG dX12_notes_11 (fun v11 e11 => ?_)
  replace hF := fx_mul hF tl_1048576 rfl (q_mulN (lo := 0) (hi := 12582912) e11 rl_1048576 rA1 (by decide)).1
  refine q_iload_n (pc := 12) hG dX12_notes_12 2 rfl ?_
  refine q_iadd (pc := 13) hG dX12_notes_13 (fun v13 e13 => ?_)
  have r_1 := (q_mulN (lo := 0) (hi := 12582912) e11 rl_1048576 rA1 (by decide)).2
  replace hF := fx_add hF rfl rfl (q_addN (lo := 0) (hi := 12682911) e13 r_1 rA2 (by decide)).1
  have r_2 := (q_addN (lo := 0) (hi := 12682911) e13 r_1 rA2 (by decide)).2
  refine q_iast (pc := 14) hG dX12_notes_14 hS0 ai_150 Tbs (q_ix rcq (by decide)) r_2 (by decide) rfl (fun s14 u14 w14 => ?_)
  replace hF := fx_P hF u14 rfl rfl
  have m14 : s14 bs cq.toInt.toNat = .int v13 := by rw [u14]; exact q_up_same
  refine q_aload_n (pc := 15) hG dX12_notes_15 0 rfl ?_
  refine q_aload_n (pc := 16) hG dX12_notes_16 0 rfl ?_
  refine q_getV (pc := 17) (v := .int cq) hG fl_X12_150 dX12_notes_17 tA0 (by rw [u14]; exact (q_keepK tA0 Tbs (by decide)).trans hcq) ?_
  refine q_iconst (pc := 20) hG dX12_notes_20 ki_1 ?_
  refine q_iadd (pc := 21) hG dX12_notes_21 (fun v21 e21 => ?_)
  replace hF := fx_add hF rfl tl_1 (q_addN (lo := 1) (hi := 260) e21 rcq rl_1 (by decide)).1
  have r_3 := (q_addN (lo := 1) (hi := 260) e21 rcq rl_1 (by decide)).2
  refine q_putI (pc := 22) hG fl_X12_150 dX12_notes_22 w14 tA0 ff_10_10 r_3 (by decide) rfl (fun s22 u22 w22 => ?_)
  replace hF := fx_P hF u22 rfl rfl
  have m22 : s22 a0 10 = .int v21 := by rw [u22]; exact q_up_same
  exact q_vrt hG hE dX12_notes_25 ⟨w22, (fx_end hF hF0), q_x.mk ⟨v13, v21, (by rw [u22, q_upK Tbs tA0 (by decide), u14]; exact q_upF), (by have o0 := (by have q := (q_mulN (lo := 0) (hi := 12582912) e11 rl_1048576 rA1 (by decide)).1; rw [tl_1048576] at q; exact q); have o1 := (q_addN (lo := 0) (hi := 12682911) e13 r_1 rA2 (by decide)).1; have o2 := r_1; have o3 := r_2; have o4 := rA1; have o5 := rA2; unfold q_r at o2 o3 o4 o5; omega), m22, (by have o0 := (q_addN (lo := 1) (hi := 260) e21 rcq rl_1 (by decide)).1; have o1 := rcq; have o2 := r_3; have l3 := tl_1; unfold q_r at o1 o2; omega)⟩⟩
theorem dX12_opens_0 : decode cX12_opens 0 = .ok (.aload_n 0, 1) := by decide +kernel
theorem dX12_opens_1 : decode cX12_opens 1 = .ok (.getfield 154, 3) := by decide +kernel
theorem dX12_opens_4 : decode cX12_opens 4 = .ok (.bipush 6, 2) := by decide +kernel
theorem dX12_opens_6 : decode cX12_opens 6 = .ok (.if_icmp .ne 13, 3) := by decide +kernel
theorem dX12_opens_9 : decode cX12_opens 9 = .ok (.aload_n 0, 1) := by decide +kernel
theorem dX12_opens_10 : decode cX12_opens 10 = .ok (.iconst 5, 1) := by decide +kernel
theorem dX12_opens_11 : decode cX12_opens 11 = .ok (.aload_n 0, 1) := by decide +kernel
theorem dX12_opens_12 : decode cX12_opens 12 = .ok (.getfield 126, 3) := by decide +kernel
theorem dX12_opens_15 : decode cX12_opens 15 = .ok (.invokevirtual 139, 3) := by decide +kernel
theorem dX12_opens_18 : decode cX12_opens 18 = .ok (.ireturn, 1) := by decide +kernel
theorem dX12_opens_19 : decode cX12_opens 19 = .ok (.aload_n 0, 1) := by decide +kernel
theorem dX12_opens_20 : decode cX12_opens 20 = .ok (.aload_n 0, 1) := by decide +kernel
theorem dX12_opens_21 : decode cX12_opens 21 = .ok (.getfield 154, 3) := by decide +kernel
theorem dX12_opens_24 : decode cX12_opens 24 = .ok (.iconst 1, 1) := by decide +kernel
theorem dX12_opens_25 : decode cX12_opens 25 = .ok (.iadd, 1) := by decide +kernel
theorem dX12_opens_26 : decode cX12_opens 26 = .ok (.putfield 154, 3) := by decide +kernel
theorem dX12_opens_29 : decode cX12_opens 29 = .ok (.aload_n 0, 1) := by decide +kernel
theorem dX12_opens_30 : decode cX12_opens 30 = .ok (.getfield 26, 3) := by decide +kernel
theorem dX12_opens_33 : decode cX12_opens 33 = .ok (.aload_n 0, 1) := by decide +kernel
theorem dX12_opens_34 : decode cX12_opens 34 = .ok (.getfield 157, 3) := by decide +kernel
theorem dX12_opens_37 : decode cX12_opens 37 = .ok (.ldc 153, 2) := by decide +kernel
theorem dX12_opens_39 : decode cX12_opens 39 = .ok (.iload_n 1, 1) := by decide +kernel
theorem dX12_opens_40 : decode cX12_opens 40 = .ok (.imul, 1) := by decide +kernel
theorem dX12_opens_41 : decode cX12_opens 41 = .ok (.iastore, 1) := by decide +kernel
theorem dX12_opens_42 : decode cX12_opens 42 = .ok (.aload_n 0, 1) := by decide +kernel
theorem dX12_opens_43 : decode cX12_opens 43 = .ok (.aload_n 0, 1) := by decide +kernel
theorem dX12_opens_44 : decode cX12_opens 44 = .ok (.getfield 157, 3) := by decide +kernel
theorem dX12_opens_47 : decode cX12_opens 47 = .ok (.iconst 1, 1) := by decide +kernel
theorem dX12_opens_48 : decode cX12_opens 48 = .ok (.iadd, 1) := by decide +kernel
theorem dX12_opens_49 : decode cX12_opens 49 = .ok (.putfield 157, 3) := by decide +kernel
theorem dX12_opens_52 : decode cX12_opens 52 = .ok (.aload_n 0, 1) := by decide +kernel
theorem dX12_opens_53 : decode cX12_opens 53 = .ok (.aload_n 0, 1) := by decide +kernel
theorem dX12_opens_54 : decode cX12_opens 54 = .ok (.getfield 126, 3) := by decide +kernel
theorem dX12_opens_57 : decode cX12_opens 57 = .ok (.iconst 1, 1) := by decide +kernel
theorem dX12_opens_58 : decode cX12_opens 58 = .ok (.iadd, 1) := by decide +kernel
theorem dX12_opens_59 : decode cX12_opens 59 = .ok (.putfield 126, 3) := by decide +kernel
theorem dX12_opens_62 : decode cX12_opens 62 = .ok (.iconst 1, 1) := by decide +kernel
theorem dX12_opens_63 : decode cX12_opens 63 = .ok (.ireturn, 1) := by decide +kernel
def md_X12_opens : List (Nat × Nat) := [(10, 5), (10, 7), (10, 9), (10, 11), (151, 0)]
set_option maxRecDepth 100000 in
set_option maxHeartbeats 4000000 in
theorem c_X12_opens {l : Launch} {D : q_D} (τ : q_T) (σ : q_V) (a0 : Nat) (x1 : Int32) (hI : q_I τ σ) (tA0 : τ a0 = some (10, 1)) (rA1 : q_r x1 10 14) (bw : Nat) (hbw : σ a0 16 = .ref bw) (Tbw : τ bw = some (151, 260)) (wq pq : Int32) (hwq : σ a0 11 = .int wq) (hpq : σ a0 5 = .int pq) (rwq : q_r wq 0 259) (rpq : q_r pq 0 259) : q_Ci l D yX12_opens cX12_opens 2 (some .boolean) 1 22 τ σ [.ref a0, .int x1] (fun r σ1 => q_S md_X12_opens τ σ σ1 ∧ (q_r r 0 1) ∧ ((r.toInt, fx_N σ1) = f_X12_opens (fx_N σ) a0 x1.toInt) ∧ (r.toInt = 1 → q_x (∃ y w1 p1 : Int32, σ1 bw = updV (σ bw) wq.toInt.toNat (.int y) ∧ y.toInt = 1048576 * x1.toInt ∧ σ1 a0 11 = .int w1 ∧ w1.toInt = wq.toInt + 1 ∧ σ1 a0 5 = .int p1 ∧ p1.toInt = pq.toInt + 1))) := by
  refine q_meti rfl (Nat.le_of_ble_eq_true rfl) (fun X hG hE => ?_)
  show q_O X 0 0 τ σ 0 [(0, .ref a0), (1, .int x1)] []
  have hS0 : q_S md_X12_opens τ σ σ := q_S.rf hI
  obtain ⟨Fv, hF⟩ : ∃ z, fx_eq z (f_X12_opens (fx_N σ) a0 x1.toInt) := ⟨_, fx_rf⟩
  have hF0 := hF
  unfold f_X12_opens at hF
  replace hF := fx_R hF hbw rfl
  replace hF := fx_I hF hwq rfl
  replace hF := fx_I hF hpq rfl
  refine q_aload_n (pc := 0) hG dX12_opens_0 0 rfl ?_
  refine q_getI (pc := 1) hG fl_X12_154 dX12_opens_1 hI tA0 ff_10_9 (fun v1 f1 g1 => ?_)
  replace hF := fx_I hF f1 rfl
  refine q_bipush (pc := 4) hG dX12_opens_4 kb_6 ?_
  refine q_icmp_ne (pc := 6) hG 19 dX12_opens_6 rfl ?_ ?_
  · intro c6
    replace hF := fx_eq2 hF rfl tl_6 c6
    refine q_aload_n (pc := 19) hG dX12_opens_19 0 rfl ?_
    refine q_aload_n (pc := 20) hG dX12_opens_20 0 rfl ?_
    refine q_getV (pc := 21) (v := .int v1) hG fl_X12_154 dX12_opens_21 tA0 f1 ?_
    refine q_iconst (pc := 24) hG dX12_opens_24 ki_1 ?_
    refine q_iadd (pc := 25) hG dX12_opens_25 (fun v25 e25 => ?_)
    replace hF := fx_B_add hF rfl tl_1 e25
    refine q_putI (pc := 26) hG fl_X12_154 dX12_opens_26 hS0 tA0 ff_10_9 (q_r_any v25) (by decide) rfl (fun s26 u26 w26 => ?_)
    replace hF := fx_P hF u26 rfl rfl
    have m26 : s26 a0 9 = .int v25 := by rw [u26]; exact q_up_same
    refine q_aload_n (pc := 29) hG dX12_opens_29 0 rfl ?_
    refine q_getV (pc := 30) (v := .ref bw) hG fl_X12_26 dX12_opens_30 tA0 (w26.same tA0 rfl hbw) ?_
    refine q_aload_n (pc := 33) hG dX12_opens_33 0 rfl ?_
    refine q_getV (pc := 34) (v := .int wq) hG fl_X12_157 dX12_opens_34 tA0 (by rw [u26]; exact (q_up_else (Or.inr (by decide))).trans hwq) ?_
    refine q_ldc (pc := 37) hG w916 dX12_opens_37 ?_
    refine q_iload_n (pc := 39) hG dX12_opens_39 1 rfl ?_
    refine q_imul (pc := 40) hG dX12_opens_40 (fun v40 e40 => ?_)
    replace hF := fx_mul hF tl_1048576 rfl (q_mulN (lo := 10485760) (hi := 14680064) e40 rl_1048576 rA1 (by decide)).1
    have r_1 := (q_mulN (lo := 10485760) (hi := 14680064) e40 rl_1048576 rA1 (by decide)).2
    refine q_iast (pc := 41) hG dX12_opens_41 w26 ai_151 Tbw (q_ix rwq (by decide)) r_1 (by decide) rfl (fun s41 u41 w41 => ?_)
    replace hF := fx_P hF u41 rfl rfl
    have m41 : s41 bw wq.toInt.toNat = .int v40 := by rw [u41]; exact q_up_same
    refine q_aload_n (pc := 42) hG dX12_opens_42 0 rfl ?_
    refine q_aload_n (pc := 43) hG dX12_opens_43 0 rfl ?_
    refine q_getV (pc := 44) (v := .int wq) hG fl_X12_157 dX12_opens_44 tA0 (by rw [u41]; exact (q_keepK tA0 Tbw (by decide)).trans (by rw [u26]; exact (q_up_else (Or.inr (by decide))).trans hwq)) ?_
    refine q_iconst (pc := 47) hG dX12_opens_47 ki_1 ?_
    refine q_iadd (pc := 48) hG dX12_opens_48 (fun v48 e48 => ?_)
    replace hF := fx_add hF rfl tl_1 (q_addN (lo := 1) (hi := 260) e48 rwq rl_1 (by decide)).1
    have r_2 := (q_addN (lo := 1) (hi := 260) e48 rwq rl_1 (by decide)).2
    refine q_putI (pc := 49) hG fl_X12_157 dX12_opens_49 w41 tA0 ff_10_11 r_2 (by decide) rfl (fun s49 u49 w49 => ?_)
    replace hF := fx_P hF u49 rfl rfl
    have m49 : s49 a0 11 = .int v48 := by rw [u49]; exact q_up_same
    refine q_aload_n (pc := 52) hG dX12_opens_52 0 rfl ?_
    refine q_aload_n (pc := 53) hG dX12_opens_53 0 rfl ?_
    refine q_getV (pc := 54) (v := .int pq) hG fl_X12_126 dX12_opens_54 tA0 (by rw [u49]; exact (q_up_else (Or.inr (by decide))).trans (by rw [u41]; exact (q_keepK tA0 Tbw (by decide)).trans (by rw [u26]; exact (q_up_else (Or.inr (by decide))).trans hpq))) ?_
    refine q_iconst (pc := 57) hG dX12_opens_57 ki_1 ?_
    refine q_iadd (pc := 58) hG dX12_opens_58 (fun v58 e58 => ?_)
    replace hF := fx_add hF rfl tl_1 (q_addN (lo := 1) (hi := 260) e58 rpq rl_1 (by decide)).1
    have r_3 := (q_addN (lo := 1) (hi := 260) e58 rpq rl_1 (by decide)).2
    refine q_putI (pc := 59) hG fl_X12_126 dX12_opens_59 w49 tA0 ff_10_5 r_3 (by decide) rfl (fun s59 u59 w59 => ?_)
    replace hF := fx_P hF u59 rfl rfl
    have m59 : s59 a0 5 = .int v58 := by rw [u59]; exact q_up_same
    refine q_iconst (pc := 62) hG dX12_opens_62 ki_1 ?_
    exact q_zrt hG hE dX12_opens_63 (q_r.mono rl_1 (by decide)) ⟨w59, (q_r.mono rl_1 (by decide)), (by rw [tl_1]; exact fx_end hF hF0), (fun _ => q_x.mk ⟨v40, v48, v58, (by rw [u59, q_upK Tbw tA0 (by decide), u49, q_upK Tbw tA0 (by decide), u41, q_upF, u26, q_upK Tbw tA0 (by decide)]), (by have o0 := (by have q := (q_mulN (lo := 10485760) (hi := 14680064) e40 rl_1048576 rA1 (by decide)).1; rw [tl_1048576] at q; exact q); have o1 := r_1; have o2 := rA1; unfold q_r at o1 o2; omega), (by rw [u59]; exact (q_up_else (Or.inr (by decide))).trans m49), (by have o0 := (q_addN (lo := 1) (hi := 260) e48 rwq rl_1 (by decide)).1; have o1 := r_2; have o2 := rwq; have l3 := tl_1; unfold q_r at o1 o2; omega), m59, (by have o0 := (q_addN (lo := 1) (hi := 260) e58 rpq rl_1 (by decide)).1; have o1 := rpq; have o2 := r_3; have l3 := tl_1; unfold q_r at o1 o2; omega)⟩)⟩
  intro c6
  replace hF := fx_eq1 hF rfl tl_6 c6
  refine q_aload_n (pc := 9) hG dX12_opens_9 0 rfl ?_
  refine q_iconst (pc := 10) hG dX12_opens_10 ki_5 ?_
  refine q_aload_n (pc := 11) hG dX12_opens_11 0 rfl ?_
  refine q_getV (pc := 12) (v := .int pq) hG fl_X12_126 dX12_opens_12 tA0 hpq ?_
  refine q_cVi (pc := 15) [.int 5, .int pq] [] hG (c_X12_wrongAt τ σ a0 5 pq hI tA0) my_X12_wrongAt mv_X12_wrongAt w888 dX12_opens_15 tA0 (by decide) rfl rfl (Nat.le_of_ble_eq_true rfl) (by decide) (fun v15 s15 p15 => ?_)
  have w15 := hS0.trans p15.1 rfl
  have fq15 := p15.2.2
  rewrite [tl_5] at fq15
  replace hF := fx_C hF fq15
  exact q_zrt hG hE dX12_opens_18 (q_r.mono p15.2.1 (by decide)) ⟨w15, (q_r.mono p15.2.1 (by decide)), (fx_end hF hF0), (fun q => absurd q (by have o0 := p15.2.1; unfold q_r at o0; omega))⟩
theorem dX12_waitTop_0 : decode cX12_waitTop 0 = .ok (.aload_n 0, 1) := by decide +kernel
theorem dX12_waitTop_1 : decode cX12_waitTop 1 = .ok (.getfield 157, 3) := by decide +kernel
theorem dX12_waitTop_4 : decode cX12_waitTop 4 = .ok (.ifCond .ne 7, 3) := by decide +kernel
theorem dX12_waitTop_7 : decode cX12_waitTop 7 = .ok (.iconst (-1), 1) := by decide +kernel
theorem dX12_waitTop_8 : decode cX12_waitTop 8 = .ok (.goto 17, 3) := by decide +kernel
theorem dX12_waitTop_11 : decode cX12_waitTop 11 = .ok (.aload_n 0, 1) := by decide +kernel
theorem dX12_waitTop_12 : decode cX12_waitTop 12 = .ok (.getfield 26, 3) := by decide +kernel
theorem dX12_waitTop_15 : decode cX12_waitTop 15 = .ok (.aload_n 0, 1) := by decide +kernel
theorem dX12_waitTop_16 : decode cX12_waitTop 16 = .ok (.getfield 157, 3) := by decide +kernel
theorem dX12_waitTop_19 : decode cX12_waitTop 19 = .ok (.iconst 1, 1) := by decide +kernel
theorem dX12_waitTop_20 : decode cX12_waitTop 20 = .ok (.isub, 1) := by decide +kernel
theorem dX12_waitTop_21 : decode cX12_waitTop 21 = .ok (.iaload, 1) := by decide +kernel
theorem dX12_waitTop_22 : decode cX12_waitTop 22 = .ok (.ldc 153, 2) := by decide +kernel
theorem dX12_waitTop_24 : decode cX12_waitTop 24 = .ok (.idiv, 1) := by decide +kernel
theorem dX12_waitTop_25 : decode cX12_waitTop 25 = .ok (.ireturn, 1) := by decide +kernel
set_option maxRecDepth 100000 in
set_option maxHeartbeats 4000000 in
theorem c_X12_waitTop {l : Launch} {D : q_D} (τ : q_T) (σ : q_V) (a0 : Nat) (hI : q_I τ σ) (tA0 : τ a0 = some (10, 1)) (bw : Nat) (hbw : σ a0 16 = .ref bw) (Tbw : τ bw = some (151, 260)) (wq : Int32) (hwq : σ a0 11 = .int wq) (rwq : q_r wq 0 260) (hwn : q_wn (σ bw) wq.toInt) : q_Cp l D yX12_waitTop cX12_waitTop 1 (some .int) 0 0 τ σ [.ref a0] (fun r => (q_r r (-1) 2147483647) ∧ (r.toInt = f_X12_waitTop (fx_N σ) a0) ∧ (r.toInt = q_wt (σ bw) wq.toInt)) := by
  refine q_meti rfl (Nat.le_of_ble_eq_true rfl) (fun X hG hE => ?_)
  show q_O X 0 0 τ σ 0 [(0, .ref a0)] []
  obtain ⟨Fv, hF⟩ : ∃ z, fx_eq z (f_X12_waitTop (fx_N σ) a0) := ⟨_, fx_rf⟩
  have hF0 := hF
  unfold f_X12_waitTop at hF
  replace hF := fx_R hF hbw rfl
  replace hF := fx_I hF hwq rfl
  refine q_aload_n (pc := 0) hG dX12_waitTop_0 0 rfl ?_
  refine q_getV (pc := 1) (v := .int wq) hG fl_X12_157 dX12_waitTop_1 tA0 hwq ?_
  refine q_if_ne (pc := 4) hG 11 dX12_waitTop_4 rfl ?_ ?_
  · intro c4
    replace hF := fx_eq2 hF rfl rfl c4
    refine q_aload_n (pc := 11) hG dX12_waitTop_11 0 rfl ?_
    refine q_getV (pc := 12) (v := .ref bw) hG fl_X12_26 dX12_waitTop_12 tA0 hbw ?_
    refine q_aload_n (pc := 15) hG dX12_waitTop_15 0 rfl ?_
    refine q_getV (pc := 16) (v := .int wq) hG fl_X12_157 dX12_waitTop_16 tA0 hwq ?_
    refine q_iconst (pc := 19) hG dX12_waitTop_19 ki_1 ?_
    refine q_isub (pc := 20) hG dX12_waitTop_20 (fun v20 e20 => ?_)
    have r_1 := q_neL (c := 1) rwq c4 (by decide)
    replace hF := fx_sub hF rfl tl_1 (q_subN (lo := 0) (hi := 259) e20 r_1 rl_1 (by decide)).1
    have r_2 := (q_subN (lo := 0) (hi := 259) e20 r_1 rl_1 (by decide)).2
    refine q_iald (pc := 21) hG dX12_waitTop_21 hI ai_151 Tbw (q_ix r_2 (by decide)) (fun v21 f21 g21 => ?_)
    replace hF := fx_I hF f21 rfl
    obtain ⟨y21, ey21, ny21⟩ := hwn v20.toInt.toNat (by have o0 := c4; have o1 := (q_subN (lo := 0) (hi := 259) e20 r_1 rl_1 (by decide)).1; have o2 := r_2; have o3 := r_1; have l4 := tl_1; unfold q_r at o2 o3; omega)
    cases (f21).symm.trans ey21
    have z21 := q_zge (q_r_any v21) ny21
    refine q_ldc (pc := 22) hG w916 dX12_waitTop_22 ?_
    refine q_idiv (pc := 24) hG dX12_waitTop_24 (q_nzr rl_1048576 (by decide)) (fun v24 e24 => ?_)
    replace hF := fx_div hF rfl tl_1048576 (q_divP e24 z21 rl_1048576 (by decide))
    have r_3 := (⟨by have q1 := q_divP e24 z21 rl_1048576 (by decide); have q2 := z21; have q3 := tl_1048576; rw [q3] at q1; unfold q_r at q2; omega, by have q1 := q_divP e24 z21 rl_1048576 (by decide); have q2 := z21; have q3 := tl_1048576; rw [q3] at q1; unfold q_r at q2; omega⟩ : q_r v24 0 2047)
    exact q_irt hG hE dX12_waitTop_25 ⟨rfl, (q_r.mono r_3 (by decide)), (fx_end hF hF0), (by have e1 : v20.toInt = wq.toInt - 1 := (by have o0 := c4; have o1 := (q_subN (lo := 0) (hi := 259) e20 r_1 rl_1 (by decide)).1; have o2 := r_2; have o3 := r_1; have l4 := tl_1; unfold q_r at o2 o3; omega); have e2 := f21; rw [e1] at e2; rw [q_wt_at (by have o0 := c4; have o1 := (q_subN (lo := 0) (hi := 259) e20 r_1 rl_1 (by decide)).1; have o2 := r_2; have o3 := r_1; have l4 := tl_1; unfold q_r at o2 o3; omega), q_kd_int e2]; exact (by have o0 := (show v24.toInt = v21.toInt / 1048576 from (by have q := q_divP e24 z21 rl_1048576 (by decide); rw [tl_1048576] at q; exact q)); have o1 := z21; have o2 := r_3; have l3 := tl_1048576; unfold q_r at o1 o2; omega))⟩
  intro c4
  replace hF := fx_eq1 hF rfl rfl c4
  refine q_iconst (pc := 7) hG dX12_waitTop_7 ki_m1 ?_
  refine q_goto (pc := 8) 25 hG dX12_waitTop_8 rfl ?_
  have r_4 := q_zeq c4
  exact q_irt hG hE dX12_waitTop_25 ⟨rfl, (q_r.mono rl_m1 (by decide)), (by rw [tl_m1]; exact fx_end hF hF0), (by rw [q_wt_0 (by have o0 := c4; have o1 := r_4; unfold q_r at o1; omega)]; exact tl_m1)⟩
theorem dX12_hasOpenSum_0 : decode cX12_hasOpenSum 0 = .ok (.iload_n 1, 1) := by decide +kernel
theorem dX12_hasOpenSum_1 : decode cX12_hasOpenSum 1 = .ok (.istore_n 2, 1) := by decide +kernel
theorem dX12_hasOpenSum_2 : decode cX12_hasOpenSum 2 = .ok (.iload_n 2, 1) := by decide +kernel
theorem dX12_hasOpenSum_3 : decode cX12_hasOpenSum 3 = .ok (.aload_n 0, 1) := by decide +kernel
theorem dX12_hasOpenSum_4 : decode cX12_hasOpenSum 4 = .ok (.getfield 157, 3) := by decide +kernel
theorem dX12_hasOpenSum_7 : decode cX12_hasOpenSum 7 = .ok (.if_icmp .ge 25, 3) := by decide +kernel
theorem dX12_hasOpenSum_10 : decode cX12_hasOpenSum 10 = .ok (.aload_n 0, 1) := by decide +kernel
theorem dX12_hasOpenSum_11 : decode cX12_hasOpenSum 11 = .ok (.getfield 26, 3) := by decide +kernel
theorem dX12_hasOpenSum_14 : decode cX12_hasOpenSum 14 = .ok (.iload_n 2, 1) := by decide +kernel
theorem dX12_hasOpenSum_15 : decode cX12_hasOpenSum 15 = .ok (.iaload, 1) := by decide +kernel
theorem dX12_hasOpenSum_16 : decode cX12_hasOpenSum 16 = .ok (.ldc 153, 2) := by decide +kernel
theorem dX12_hasOpenSum_18 : decode cX12_hasOpenSum 18 = .ok (.idiv, 1) := by decide +kernel
theorem dX12_hasOpenSum_19 : decode cX12_hasOpenSum 19 = .ok (.bipush 14, 2) := by decide +kernel
theorem dX12_hasOpenSum_21 : decode cX12_hasOpenSum 21 = .ok (.if_icmp .ne 5, 3) := by decide +kernel
theorem dX12_hasOpenSum_24 : decode cX12_hasOpenSum 24 = .ok (.iconst 1, 1) := by decide +kernel
theorem dX12_hasOpenSum_25 : decode cX12_hasOpenSum 25 = .ok (.ireturn, 1) := by decide +kernel
theorem dX12_hasOpenSum_26 : decode cX12_hasOpenSum 26 = .ok (.iinc 2 1, 3) := by decide +kernel
theorem dX12_hasOpenSum_29 : decode cX12_hasOpenSum 29 = .ok (.goto (-27), 3) := by decide +kernel
theorem dX12_hasOpenSum_32 : decode cX12_hasOpenSum 32 = .ok (.iconst 0, 1) := by decide +kernel
theorem dX12_hasOpenSum_33 : decode cX12_hasOpenSum 33 = .ok (.ireturn, 1) := by decide +kernel
set_option maxRecDepth 100000 in
set_option maxHeartbeats 4000000 in
theorem c_X12_hasOpenSum {l : Launch} {D : q_D} (τ : q_T) (σ : q_V) (a0 : Nat) (x1 : Int32) (hI : q_I τ σ) (tA0 : τ a0 = some (10, 1)) (rA1 : q_r x1 0 260) (bw : Nat) (hbw : σ a0 16 = .ref bw) (Tbw : τ bw = some (151, 260)) (wq : Int32) (hwq : σ a0 11 = .int wq) (rwq : q_r wq 0 260) (hwn : q_wn (σ bw) wq.toInt) : q_Cp l D yX12_hasOpenSum cX12_hasOpenSum 3 (some .boolean) 0 0 τ σ [.ref a0, .int x1] (fun r => (q_r r 0 1) ∧ (r.toInt = f_X12_hasOpenSum (fx_N σ) a0 x1.toInt) ∧ ((r.toInt = 1 → q_x (∃ j : Nat, x1.toInt ≤ (j : Int) ∧ (j : Int) < wq.toInt ∧ q_kd (σ bw j) = 14)) ∧ (r.toInt = 0 → ∀ j : Nat, x1.toInt ≤ (j : Int) → (j : Int) < wq.toInt → q_kd (σ bw j) ≠ 14))) := by
  refine q_meti rfl (Nat.le_of_ble_eq_true rfl) (fun X hG hE => ?_)
  show q_O X 0 0 τ σ 0 [(0, .ref a0), (1, .int x1)] []
  obtain ⟨Fv, hF⟩ : ∃ z, fx_eq z (f_X12_hasOpenSum (fx_N σ) a0 x1.toInt) := ⟨_, fx_rf⟩
  have hF0 := hF
  unfold f_X12_hasOpenSum at hF
  replace hF := fx_R hF hbw rfl
  replace hF := fx_I hF hwq rfl
  refine q_iload_n (pc := 0) hG dX12_hasOpenSum_0 1 rfl ?_
  refine q_istore_n (pc := 1) [(2, .int x1), (0, .ref a0), (1, .int x1)] hG dX12_hasOpenSum_1 (by decide) rfl ?_
  have J2 : ∀ (n2 : Nat) (p2_2 : Int32), (q_r p2_2 0 260) → (x1.toInt ≤ p2_2.toInt) → (∀ j : Nat, x1.toInt ≤ (j : Int) → (j : Int) < p2_2.toInt → q_kd (σ bw j) ≠ 14) → (fx_eq Fv (kL_X12_hasOpenSum_2 wq.toInt (fx_N σ) bw n2 p2_2.toInt)) → ((260 - p2_2.toInt).toNat < n2) → q_O X 0 0 τ σ 2 [(0, .ref a0), (2, .int p2_2)] [] := by
    intro n2
    induction n2 with
    | zero => intro p2_2 r2_2 iG2 iH2 hF hm2; exact absurd hm2 (Nat.not_lt_zero _)
    | succ n2 ih2 =>
      intro p2_2 r2_2 iG2 iH2 hF hm2
      replace hF := (show fx_eq Fv (kB_X12_hasOpenSum_2 (kL_X12_hasOpenSum_2 wq.toInt (fx_N σ) bw n2) wq.toInt (fx_N σ) bw p2_2.toInt) from hF)
      unfold kB_X12_hasOpenSum_2 at hF
      refine q_iload_n (pc := 2) hG dX12_hasOpenSum_2 1 rfl ?_
      refine q_aload_n (pc := 3) hG dX12_hasOpenSum_3 0 rfl ?_
      refine q_getV (pc := 4) (v := .int wq) hG fl_X12_157 dX12_hasOpenSum_4 tA0 hwq ?_
      refine q_icmp_ge (pc := 7) hG 32 dX12_hasOpenSum_7 rfl ?_ ?_
      · intro c7
        replace hF := fx_lt2 hF rfl rfl c7
        refine q_iconst (pc := 32) hG dX12_hasOpenSum_32 ki_0 ?_
        exact q_zrt hG hE dX12_hasOpenSum_33 (q_r.mono rl_0 (by decide)) ⟨rfl, (q_r.mono rl_0 (by decide)), (by rw [tl_0]; exact fx_end hF hF0), ⟨fun q => absurd q (by have l0 := tl_0; omega), fun _ j j1 j2 => iH2 j j1 (by have o0 := iG2; have o1 := c7; have o2 := r2_2; have o3 := rwq; have o4 := rA1; unfold q_r at o2 o3 o4; omega)⟩⟩
      intro c7
      replace hF := fx_lt1 hF rfl rfl c7
      refine q_aload_n (pc := 10) hG dX12_hasOpenSum_10 0 rfl ?_
      refine q_getV (pc := 11) (v := .ref bw) hG fl_X12_26 dX12_hasOpenSum_11 tA0 hbw ?_
      refine q_iload_n (pc := 14) hG dX12_hasOpenSum_14 1 rfl ?_
      have r_1 := q_rlt r2_2 rwq c7 259 (by decide)
      refine q_iald (pc := 15) hG dX12_hasOpenSum_15 hI ai_151 Tbw (q_ix r_1 (by decide)) (fun v15 f15 g15 => ?_)
      replace hF := fx_I hF f15 rfl
      have r_2 := q_rgt rwq r2_2 c7 1 (by decide)
      obtain ⟨y15, ey15, ny15⟩ := hwn p2_2.toInt.toNat (by have o0 := iG2; have o1 := c7; have o2 := r_1; have o3 := r_2; have o4 := rA1; unfold q_r at o2 o3 o4; omega)
      cases (f15).symm.trans ey15
      have z15 := q_zge (q_r_any v15) ny15
      refine q_ldc (pc := 16) hG w916 dX12_hasOpenSum_16 ?_
      refine q_idiv (pc := 18) hG dX12_hasOpenSum_18 (q_nzr rl_1048576 (by decide)) (fun v18 e18 => ?_)
      replace hF := fx_div hF rfl tl_1048576 (q_divP e18 z15 rl_1048576 (by decide))
      refine q_bipush (pc := 19) hG dX12_hasOpenSum_19 kb_14 ?_
      refine q_icmp_ne (pc := 21) hG 26 dX12_hasOpenSum_21 rfl ?_ ?_
      · intro c21
        have r_3 := (⟨by have q1 := q_divP e18 z15 rl_1048576 (by decide); have q2 := z15; have q3 := tl_1048576; rw [q3] at q1; unfold q_r at q2; omega, by have q1 := q_divP e18 z15 rl_1048576 (by decide); have q2 := z15; have q3 := tl_1048576; rw [q3] at q1; unfold q_r at q2; omega⟩ : q_r v18 0 2047)
        replace hF := fx_eq2 hF rfl tl_14 c21
        obtain ⟨v26, e26⟩ : ∃ z : Int32, z = p2_2 + Int32.ofInt 1 := ⟨_, rfl⟩
        have h26 := q_incN (lo := 1) (hi := 260) r_1 (by decide) (by decide) e26
        replace hF := fx_add hF rfl rfl h26.1
        refine q_iinc (pc := 26) [(2, .int v26), (0, .ref a0)] hG dX12_hasOpenSum_26 1 rfl e26 (by decide) rfl ?_
        refine q_goto (pc := 29) 2 hG dX12_hasOpenSum_29 rfl ?_
        refine q_lv [1, 0] rfl ?_
        exact ih2 v26 (q_r.mono h26.2 (by decide)) (by have o0 := iG2; have o1 := c7; have o2 := h26.1; have o3 := r_1; have o4 := h26.2; have o5 := r_2; have o6 := rA1; unfold q_r at o3 o4 o5 o6; omega) (fun j j1 j2 => Classical.byCases (fun e : j = p2_2.toInt.toNat => (by rw [e, q_kd_int f15]; exact (by have o0 := (show v18.toInt = v15.toInt / 1048576 from (by have q := q_divP e18 z15 rl_1048576 (by decide); rw [tl_1048576] at q; exact q)); have o1 := c21; have o2 := z15; have o3 := r_3; have l4 := tl_14; have l5 := tl_1048576; unfold q_r at o2 o3; omega))) (fun e => iH2 j j1 (by have o0 := iG2; have o1 := c7; have o2 := h26.1; have o3 := r_1; have o4 := h26.2; have o5 := r_2; have o6 := rA1; unfold q_r at o3 o4 o5 o6; skip; omega))) hF (q_measU hm2 (by have o0 := iG2; have o1 := c7; have o2 := h26.1; have o3 := r_1; have o4 := h26.2; have o5 := r_2; have o6 := rA1; unfold q_r at o3 o4 o5 o6; omega) (h26.2).2)
      intro c21
      have r_4 := (⟨by have q1 := q_divP e18 z15 rl_1048576 (by decide); have q2 := z15; have q3 := tl_1048576; rw [q3] at q1; unfold q_r at q2; omega, by have q1 := q_divP e18 z15 rl_1048576 (by decide); have q2 := z15; have q3 := tl_1048576; rw [q3] at q1; unfold q_r at q2; omega⟩ : q_r v18 0 2047)
      replace hF := fx_eq1 hF rfl tl_14 c21
      refine q_iconst (pc := 24) hG dX12_hasOpenSum_24 ki_1 ?_
      have r_5 := q_req rl_14 c21
      exact q_zrt hG hE dX12_hasOpenSum_25 (q_r.mono rl_1 (by decide)) ⟨rfl, (q_r.mono rl_1 (by decide)), (by rw [tl_1]; exact fx_end hF hF0), ⟨fun _ => q_x.mk ⟨p2_2.toInt.toNat, (by have o0 := iG2; have o1 := c7; have o2 := r_1; have o3 := r_2; have o4 := rA1; unfold q_r at o2 o3 o4; omega), (by have o0 := iG2; have o1 := c7; have o2 := r_1; have o3 := r_2; have o4 := rA1; unfold q_r at o2 o3 o4; omega), (q_kd_int f15).trans (by have o0 := (show v18.toInt = v15.toInt / 1048576 from (by have q := q_divP e18 z15 rl_1048576 (by decide); rw [tl_1048576] at q; exact q)); have o1 := c21; have o2 := z15; have o3 := r_5; have l4 := tl_14; have l5 := tl_1048576; unfold q_r at o2 o3; omega)⟩, fun q => absurd q (by have l0 := tl_1; omega)⟩⟩
  refine q_lv [1, 0] rfl ?_
  exact J2 ((260 - x1.toInt).toNat + 1) x1 rA1 (by have o0 := rA1; unfold q_r at o0; omega) (fun j j1 j2 => absurd j2 (by omega)) hF (Nat.lt_succ_self _)
theorem dX12_closesSums_0 : decode cX12_closesSums 0 = .ok (.aload_n 0, 1) := by decide +kernel
theorem dX12_closesSums_1 : decode cX12_closesSums 1 = .ok (.invokevirtual 160, 3) := by decide +kernel
theorem dX12_closesSums_4 : decode cX12_closesSums 4 = .ok (.iconst 4, 1) := by decide +kernel
theorem dX12_closesSums_5 : decode cX12_closesSums 5 = .ok (.if_icmp .lt 12, 3) := by decide +kernel
theorem dX12_closesSums_8 : decode cX12_closesSums 8 = .ok (.aload_n 0, 1) := by decide +kernel
theorem dX12_closesSums_9 : decode cX12_closesSums 9 = .ok (.invokevirtual 160, 3) := by decide +kernel
theorem dX12_closesSums_12 : decode cX12_closesSums 12 = .ok (.bipush 6, 2) := by decide +kernel
theorem dX12_closesSums_14 : decode cX12_closesSums 14 = .ok (.if_icmp .le 23, 3) := by decide +kernel
theorem dX12_closesSums_17 : decode cX12_closesSums 17 = .ok (.iload_n 1, 1) := by decide +kernel
theorem dX12_closesSums_18 : decode cX12_closesSums 18 = .ok (.ifCond .eq 41, 3) := by decide +kernel
theorem dX12_closesSums_21 : decode cX12_closesSums 21 = .ok (.aload_n 0, 1) := by decide +kernel
theorem dX12_closesSums_22 : decode cX12_closesSums 22 = .ok (.invokevirtual 160, 3) := by decide +kernel
theorem dX12_closesSums_25 : decode cX12_closesSums 25 = .ok (.iconst 2, 1) := by decide +kernel
theorem dX12_closesSums_26 : decode cX12_closesSums 26 = .ok (.if_icmp .eq 11, 3) := by decide +kernel
theorem dX12_closesSums_29 : decode cX12_closesSums 29 = .ok (.aload_n 0, 1) := by decide +kernel
theorem dX12_closesSums_30 : decode cX12_closesSums 30 = .ok (.invokevirtual 160, 3) := by decide +kernel
theorem dX12_closesSums_33 : decode cX12_closesSums 33 = .ok (.iconst 3, 1) := by decide +kernel
theorem dX12_closesSums_34 : decode cX12_closesSums 34 = .ok (.if_icmp .ne 25, 3) := by decide +kernel
theorem dX12_closesSums_37 : decode cX12_closesSums 37 = .ok (.aload_n 0, 1) := by decide +kernel
theorem dX12_closesSums_38 : decode cX12_closesSums 38 = .ok (.aload_n 0, 1) := by decide +kernel
theorem dX12_closesSums_39 : decode cX12_closesSums 39 = .ok (.invokevirtual 160, 3) := by decide +kernel
theorem dX12_closesSums_42 : decode cX12_closesSums 42 = .ok (.iconst 0, 1) := by decide +kernel
theorem dX12_closesSums_43 : decode cX12_closesSums 43 = .ok (.invokevirtual 163, 3) := by decide +kernel
theorem dX12_closesSums_46 : decode cX12_closesSums 46 = .ok (.aload_n 0, 1) := by decide +kernel
theorem dX12_closesSums_47 : decode cX12_closesSums 47 = .ok (.aload_n 0, 1) := by decide +kernel
theorem dX12_closesSums_48 : decode cX12_closesSums 48 = .ok (.getfield 157, 3) := by decide +kernel
theorem dX12_closesSums_51 : decode cX12_closesSums 51 = .ok (.iconst 1, 1) := by decide +kernel
theorem dX12_closesSums_52 : decode cX12_closesSums 52 = .ok (.isub, 1) := by decide +kernel
theorem dX12_closesSums_53 : decode cX12_closesSums 53 = .ok (.putfield 157, 3) := by decide +kernel
theorem dX12_closesSums_56 : decode cX12_closesSums 56 = .ok (.goto (-56), 3) := by decide +kernel
theorem dX12_closesSums_59 : decode cX12_closesSums 59 = .ok (.return_, 1) := by decide +kernel
def md_X12_closesSums : List (Nat × Nat) := [(10, 10), (10, 11), (150, 0)]
set_option maxRecDepth 100000 in
set_option maxHeartbeats 4000000 in
theorem c_X12_closesSums {l : Launch} {D : q_D} (τ : q_T) (σ : q_V) (a0 : Nat) (x1 : Int32) (hI : q_I τ σ) (tA0 : τ a0 = some (10, 1)) (rA1 : q_r x1 0 1) (bs bw : Nat) (hbs : σ a0 15 = .ref bs) (hbw : σ a0 16 = .ref bw) (Tbs : τ bs = some (150, 260)) (Tbw : τ bw = some (151, 260)) (cq wq pq : Int32) (hcq : σ a0 10 = .int cq) (hwq : σ a0 11 = .int wq) (hpq : σ a0 5 = .int pq) (S0 : Nat → Value) (F : Nat) (K base Dd : Int) (hQ : q_sm (σ bs) (σ bw) S0 F cq.toInt wq.toInt K pq.toInt base Dd) (hD : 1 ≤ Dd) : q_Cv l D yX12_closesSums cX12_closesSums 2 none 1 22 τ σ [.ref a0, .int x1] (fun σ1 => q_S md_X12_closesSums τ σ σ1 ∧ (fx_N σ1 = f_X12_closesSums (fx_N σ) a0 x1.toInt) ∧ (q_x (∃ c1 w1 : Int32, σ1 a0 10 = .int c1 ∧ σ1 a0 11 = .int w1 ∧ q_sm (σ1 bs) (σ bw) S0 F c1.toInt w1.toInt K pq.toInt base Dd ∧ w1.toInt ≤ wq.toInt ∧ (∀ j : Nat, w1.toInt ≤ (j : Int) → (j : Int) < wq.toInt → 2 ≤ q_kd (σ bw j) ∧ q_kd (σ bw j) ≤ 6) ∧ (x1.toInt = 1 → ¬ (2 ≤ q_wt (σ bw) w1.toInt ∧ q_wt (σ bw) w1.toInt ≤ 6))))) := by
  refine q_metv rfl (Nat.le_of_ble_eq_true rfl) (fun X hG hE => ?_)
  show q_O X 0 0 τ σ 0 [(0, .ref a0), (1, .int x1)] []
  have hS0 : q_S md_X12_closesSums τ σ σ := q_S.rf hI
  obtain ⟨Fv, hF⟩ : ∃ z, fx_eq z (f_X12_closesSums (fx_N σ) a0 x1.toInt) := ⟨_, fx_rf⟩
  have hF0 := hF
  unfold f_X12_closesSums at hF
  replace hF := fx_R hF hbs rfl
  replace hF := fx_R hF hbw rfl
  replace hF := fx_I hF hpq rfl
  replace hF := fx_I hF hcq rfl
  replace hF := fx_I hF hwq rfl
  have J0 : ∀ (n0 : Nat) (σ0 : q_V) (cq0 : Int32) (wq0 : Int32) (pq0 : Int32), (q_S md_X12_closesSums τ σ σ0) → ((σ0 a0 10 = .int cq0 ∧ σ0 a0 11 = .int wq0 ∧ σ0 a0 5 = .int pq) ∧ q_sm (σ0 bs) (σ bw) S0 F cq0.toInt wq0.toInt K pq.toInt base Dd ∧ (wq0.toInt ≤ wq.toInt ∧ pq.toInt = pq.toInt ∧ ∀ j : Nat, wq0.toInt ≤ (j : Int) → (j : Int) < wq.toInt → 2 ≤ q_kd (σ bw j) ∧ q_kd (σ bw j) ≤ 6)) → (fx_eq Fv (kL_X12_closesSums_0 a0 x1.toInt pq.toInt n0 (fx_N σ0) cq0.toInt wq0.toInt pq0.toInt)) → (wq0.toInt.toNat < n0) → q_O X 0 0 τ σ0 0 [(0, .ref a0), (1, .int x1)] [] := by
    intro n0
    induction n0 with
    | zero => intro σ0 cq0 wq0 pq0 hS0 iQ0 hF hm0; exact absurd hm0 (Nat.not_lt_zero _)
    | succ n0 ih0 =>
      intro σ0 cq0 wq0 pq0 hS0 iQ0 hF hm0
      replace hF := (show fx_eq Fv (kB_X12_closesSums_0 (kL_X12_closesSums_0 a0 x1.toInt pq.toInt n0) a0 x1.toInt pq.toInt (fx_N σ0) cq0.toInt wq0.toInt pq0.toInt) from hF)
      unfold kB_X12_closesSums_0 at hF
      refine q_aload_n (pc := 0) hG dX12_closesSums_0 0 rfl ?_
      have r_1 := (show q_r wq0 0 260 from ⟨by have q := iQ0.2.1.rng; omega, by have q := iQ0.2.1.rng; omega⟩)
      refine q_pV (pc := 1) [] [] hG (c_X12_waitTop τ σ0 a0 hS0.1 tA0 bw (hS0.same tA0 rfl hbw) Tbw wq0 iQ0.1.2.1 r_1 (show q_sm (σ0 bs) (σ0 bw) S0 F cq0.toInt wq0.toInt K pq.toInt base Dd from (by rw [((funext fun j => hS0.2.arr Tbw (by decide) rfl) : σ0 bw = σ bw)]; exact iQ0.2.1)).1.wn) my_X12_waitTop mv_X12_waitTop w932 dX12_closesSums_1 tA0 (by decide) rfl rfl (Nat.le_of_ble_eq_true rfl) (by decide) (fun v1 p1 => ?_)
      replace hF := fx_E hF p1.2.1
      have t1 : v1.toInt = q_wt (σ bw) wq0.toInt := (by have q := p1.2.2; rw [((funext fun j => hS0.2.arr Tbw (by decide) rfl) : σ0 bw = σ bw)] at q; exact q)
      refine q_iconst (pc := 4) hG dX12_closesSums_4 ki_4 ?_
      have J37 : (2 ≤ q_wt (σ bw) wq0.toInt ∧ q_wt (σ bw) wq0.toInt ≤ 6) → (fx_eq Fv (kJ_X12_closesSums_37 (fx_N σ0) a0 wq0.toInt (kL_X12_closesSums_0 a0 x1.toInt pq.toInt n0) pq.toInt)) → q_O X 0 0 τ σ0 37 [(0, .ref a0), (1, .int x1)] [] := by
        intro iT37 hF
        unfold kJ_X12_closesSums_37 at hF
        refine q_aload_n (pc := 37) hG dX12_closesSums_37 0 rfl ?_
        have r_2 := (show q_r cq 0 260 from ⟨by have q := hQ.rng; omega, by have q := hQ.rng; omega⟩)
        have r_3 := (show q_r cq0 0 260 from ⟨by have q := iQ0.2.1.rng; omega, by have q := iQ0.2.1.rng; omega⟩)
        have r_4 := (show q_r pq 0 260 from ⟨by have q := hQ.rng; omega, by have q := hQ.rng; omega⟩)
        have r_5 := (show q_r wq 0 260 from ⟨by have q := hQ.rng; omega, by have q := hQ.rng; omega⟩)
        have wp37 := (q_wt_pos (fw := σ bw) (w := wq0.toInt) (by have o0 := iQ0.2.1.rng; have o1 := iQ0.2.2.1; have o2 := iQ0.2.2.2.1; have o3 := t1; have o4 := iT37; have o5 := hQ.rng; have o6 := r_2; have o7 := r_3; have o8 := r_4; have o9 := p1.1; have o10 := r_5; have o11 := r_1; unfold q_r at o6 o7 o8 o9 o10 o11; omega))
        refine q_aload_n (pc := 38) hG dX12_closesSums_38 0 rfl ?_
        refine q_pV (pc := 39) [] [.ref a0] hG (c_X12_waitTop τ σ0 a0 hS0.1 tA0 bw (hS0.same tA0 rfl hbw) Tbw wq0 iQ0.1.2.1 r_1 (show q_sm (σ0 bs) (σ0 bw) S0 F cq0.toInt wq0.toInt K pq.toInt base Dd from (by rw [((funext fun j => hS0.2.arr Tbw (by decide) rfl) : σ0 bw = σ bw)]; exact iQ0.2.1)).1.wn) my_X12_waitTop mv_X12_waitTop w932 dX12_closesSums_39 tA0 (by decide) rfl rfl (Nat.le_of_ble_eq_true rfl) (by decide) (fun v39 p39 => ?_)
        replace hF := fx_E hF p39.2.1
        have t39 : v39.toInt = q_wt (σ bw) wq0.toInt := (by have q := p39.2.2; rw [((funext fun j => hS0.2.arr Tbw (by decide) rfl) : σ0 bw = σ bw)] at q; exact q)
        refine q_iconst (pc := 42) hG dX12_closesSums_42 ki_0 ?_
        refine q_cVv (pc := 43) [.int v39, .int 0] [] hG (c_X12_notes τ σ0 a0 v39 0 hS0.1 tA0 (show q_r v39 0 12 from ⟨(by have o0 := t39; have o1 := iQ0.2.1.rng; have o2 := iQ0.2.2.1; have o3 := iQ0.2.2.2.1; have o4 := t1; have o5 := iT37; have o6 := wp37.1; have o7 := hQ.rng; have o8 := r_2; have o9 := r_3; have o10 := r_4; have o11 := p1.1; have o12 := p39.1; have o13 := r_5; have o14 := r_1; unfold q_r at o8 o9 o10 o11 o12 o13 o14; omega), (by have o0 := t39; have o1 := iQ0.2.1.rng; have o2 := iQ0.2.2.1; have o3 := iQ0.2.2.2.1; have o4 := t1; have o5 := iT37; have o6 := wp37.1; have o7 := hQ.rng; have o8 := r_2; have o9 := r_3; have o10 := r_4; have o11 := p1.1; have o12 := p39.1; have o13 := r_5; have o14 := r_1; unfold q_r at o8 o9 o10 o11 o12 o13 o14; omega)⟩) (q_r.mono rl_0 (by decide)) bs (hS0.same tA0 rfl hbs) Tbs cq0 iQ0.1.1 (show q_r cq0 0 259 from q_bn.one iQ0.2.1.2.1 (Or.inl (by have o0 := iQ0.2.1.rng; have o1 := iQ0.2.2.1; have o2 := iQ0.2.2.2.1; have o3 := t1; have o4 := iT37; have o5 := wp37.1; have o6 := t39; have o7 := hQ.rng; have o8 := r_2; have o9 := r_3; have o10 := r_4; have o11 := p1.1; have o12 := p39.1; have o13 := r_5; have o14 := r_1; unfold q_r at o8 o9 o10 o11 o12 o13 o14; omega)))) my_X12_notes mv_X12_notes w920 dX12_closesSums_43 tA0 (by decide) rfl rfl (Nat.le_of_ble_eq_true rfl) (by decide) (fun s43 p43 => ?_)
        have w43 := hS0.trans p43.1 rfl
        have fq43 := p43.2.1
        rewrite [tl_0] at fq43
        replace hF := fx_S hF fq43
        obtain ⟨xn43, c1_43, en43, fx43, fc1_43, gc1_43⟩ := p43.2.2
        replace hF := fx_I hF fc1_43 rfl
        refine q_aload_n (pc := 46) hG dX12_closesSums_46 0 rfl ?_
        refine q_aload_n (pc := 47) hG dX12_closesSums_47 0 rfl ?_
        refine q_getV (pc := 48) (v := .int wq0) hG fl_X12_157 dX12_closesSums_48 tA0 (p43.1.same tA0 rfl iQ0.1.2.1) ?_
        refine q_iconst (pc := 51) hG dX12_closesSums_51 ki_1 ?_
        refine q_isub (pc := 52) hG dX12_closesSums_52 (fun v52 e52 => ?_)
        replace hF := fx_sub hF rfl tl_1 (q_subN (lo := (-1)) (hi := 259) e52 r_1 rl_1 (by decide)).1
        have r_6 := (show q_r c1_43 1 260 from ⟨by have q := gc1_43; have q2 := (show q_r cq0 0 259 from q_bn.one iQ0.2.1.2.1 (Or.inl (by have o0 := iQ0.2.1.rng; have o1 := iQ0.2.2.1; have o2 := iQ0.2.2.2.1; have o3 := t1; have o4 := iT37; have o5 := wp37.1; have o6 := t39; have o7 := hQ.rng; have o8 := r_2; have o9 := r_3; have o10 := r_4; have o11 := p1.1; have o12 := p39.1; have o13 := r_5; have o14 := r_1; unfold q_r at o8 o9 o10 o11 o12 o13 o14; omega))); unfold q_r at q2; omega, by have q := gc1_43; have q2 := (show q_r cq0 0 259 from q_bn.one iQ0.2.1.2.1 (Or.inl (by have o0 := iQ0.2.1.rng; have o1 := iQ0.2.2.1; have o2 := iQ0.2.2.2.1; have o3 := t1; have o4 := iT37; have o5 := wp37.1; have o6 := t39; have o7 := hQ.rng; have o8 := r_2; have o9 := r_3; have o10 := r_4; have o11 := p1.1; have o12 := p39.1; have o13 := r_5; have o14 := r_1; unfold q_r at o8 o9 o10 o11 o12 o13 o14; omega))); unfold q_r at q2; omega⟩)
        have r_7 := (q_subN (lo := (-1)) (hi := 259) e52 r_1 rl_1 (by decide)).2
        refine q_putI (pc := 53) hG fl_X12_157 dX12_closesSums_53 w43 tA0 ff_10_11 (show q_r v52 0 260 from ⟨(by have o0 := (q_subN (lo := (-1)) (hi := 259) e52 r_1 rl_1 (by decide)).1; have o1 := iQ0.2.1.rng; have o2 := iQ0.2.2.1; have o3 := iQ0.2.2.2.1; have o4 := t1; have o5 := iT37; have o6 := wp37.1; have o7 := t39; have o8 := gc1_43; have o9 := fx43; have o10 := hQ.rng; have o11 := r_6; have o12 := r_2; have o13 := r_3; have o14 := r_4; have o15 := p1.1; have o16 := p39.1; have o17 := r_7; have o18 := r_5; have o19 := r_1; have l20 := tl_0; have l21 := tl_1; unfold q_r at o11 o12 o13 o14 o15 o16 o17 o18 o19; omega), (by have o0 := (q_subN (lo := (-1)) (hi := 259) e52 r_1 rl_1 (by decide)).1; have o1 := iQ0.2.1.rng; have o2 := iQ0.2.2.1; have o3 := iQ0.2.2.2.1; have o4 := t1; have o5 := iT37; have o6 := wp37.1; have o7 := t39; have o8 := gc1_43; have o9 := fx43; have o10 := hQ.rng; have o11 := r_6; have o12 := r_2; have o13 := r_3; have o14 := r_4; have o15 := p1.1; have o16 := p39.1; have o17 := r_7; have o18 := r_5; have o19 := r_1; have l20 := tl_0; have l21 := tl_1; unfold q_r at o11 o12 o13 o14 o15 o16 o17 o18 o19; omega)⟩) (by decide) rfl (fun s53 u53 w53 => ?_)
        replace hF := fx_P hF u53 rfl rfl
        have m53 : s53 a0 11 = .int v52 := by rw [u53]; exact q_up_same
        have Q53 : q_sm (s53 bs) (σ bw) S0 F c1_43.toInt v52.toInt K pq.toInt base Dd := by
          rw [(by rw [u53]; exact q_upK Tbs tA0 (by decide) : s53 bs = s43 bs), en43, gc1_43, (show v52.toInt = wq0.toInt - 1 from (by have o0 := iQ0.2.1.rng; have o1 := iQ0.2.2.1; have o2 := iQ0.2.2.2.1; have o3 := t1; have o4 := iT37; have o5 := wp37.1; have o6 := t39; have o7 := gc1_43; have o8 := fx43; have o9 := (q_subN (lo := (-1)) (hi := 259) e52 r_1 rl_1 (by decide)).1; have o10 := hQ.rng; have o11 := r_6; have o12 := r_2; have o13 := r_3; have o14 := r_4; have o15 := p1.1; have o16 := p39.1; have o17 := r_7; have o18 := r_5; have o19 := r_1; have l20 := tl_0; have l21 := tl_1; unfold q_r at o11 o12 o13 o14 o15 o16 o17 o18 o19; omega))]
          exact iQ0.2.1.close hD (q_wt_pos (fw := σ bw) (w := wq0.toInt) (by have o0 := iQ0.2.1.rng; have o1 := iQ0.2.2.1; have o2 := iQ0.2.2.2.1; have o3 := t1; have o4 := iT37; have o5 := wp37.1; have o6 := t39; have o7 := gc1_43; have o8 := fx43; have o9 := (q_subN (lo := (-1)) (hi := 259) e52 r_1 rl_1 (by decide)).1; have o10 := hQ.rng; have o11 := r_6; have o12 := r_2; have o13 := r_3; have o14 := r_4; have o15 := p1.1; have o16 := p39.1; have o17 := r_7; have o18 := r_5; have o19 := r_1; have l20 := tl_0; have l21 := tl_1; unfold q_r at o11 o12 o13 o14 o15 o16 o17 o18 o19; omega)).1 (q_wt_pos (fw := σ bw) (w := wq0.toInt) (by have o0 := iQ0.2.1.rng; have o1 := iQ0.2.2.1; have o2 := iQ0.2.2.2.1; have o3 := t1; have o4 := iT37; have o5 := wp37.1; have o6 := t39; have o7 := gc1_43; have o8 := fx43; have o9 := (q_subN (lo := (-1)) (hi := 259) e52 r_1 rl_1 (by decide)).1; have o10 := hQ.rng; have o11 := r_6; have o12 := r_2; have o13 := r_3; have o14 := r_4; have o15 := p1.1; have o16 := p39.1; have o17 := r_7; have o18 := r_5; have o19 := r_1; have l20 := tl_0; have l21 := tl_1; unfold q_r at o11 o12 o13 o14 o15 o16 o17 o18 o19; omega)).2 (by have o0 := iQ0.2.1.rng; have o1 := iQ0.2.2.1; have o2 := iQ0.2.2.2.1; have o3 := t1; have o4 := iT37; have o5 := wp37.1; have o6 := t39; have o7 := gc1_43; have o8 := fx43; have o9 := (q_subN (lo := (-1)) (hi := 259) e52 r_1 rl_1 (by decide)).1; have o10 := hQ.rng; have o11 := r_6; have o12 := r_2; have o13 := r_3; have o14 := r_4; have o15 := p1.1; have o16 := p39.1; have o17 := r_7; have o18 := r_5; have o19 := r_1; have l20 := tl_0; have l21 := tl_1; unfold q_r at o11 o12 o13 o14 o15 o16 o17 o18 o19; omega) (by have o0 := iQ0.2.1.rng; have o1 := iQ0.2.2.1; have o2 := iQ0.2.2.2.1; have o3 := t1; have o4 := iT37; have o5 := wp37.1; have o6 := t39; have o7 := gc1_43; have o8 := fx43; have o9 := (q_subN (lo := (-1)) (hi := 259) e52 r_1 rl_1 (by decide)).1; have o10 := hQ.rng; have o11 := r_6; have o12 := r_2; have o13 := r_3; have o14 := r_4; have o15 := p1.1; have o16 := p39.1; have o17 := r_7; have o18 := r_5; have o19 := r_1; have l20 := tl_0; have l21 := tl_1; unfold q_r at o11 o12 o13 o14 o15 o16 o17 o18 o19; omega)
        refine q_goto (pc := 56) 0 hG dX12_closesSums_56 rfl ?_
        refine q_lv [0, 1] rfl ?_
        have r_8 := (show q_r v52 0 260 from ⟨by have q := Q53.rng; omega, by have q := Q53.rng; omega⟩)
        exact ih0 s53 c1_43 v52 pq w53 ⟨⟨(by rw [u53]; exact (q_up_else (Or.inr (by decide))).trans fc1_43), m53, (w53.same tA0 rfl hpq)⟩, Q53, ⟨(by have o0 := iQ0.2.1.rng; have o1 := iQ0.2.2.1; have o2 := iQ0.2.2.2.1; have o3 := t1; have o4 := iT37; have o5 := wp37.1; have o6 := t39; have o7 := gc1_43; have o8 := fx43; have o9 := (q_subN (lo := (-1)) (hi := 259) e52 r_1 rl_1 (by decide)).1; have o10 := Q53.rng; have o11 := hQ.rng; have o12 := r_6; have o13 := r_2; have o14 := r_3; have o15 := r_4; have o16 := p1.1; have o17 := p39.1; have o18 := r_8; have o19 := r_5; have o20 := r_1; have l21 := tl_0; have l22 := tl_1; unfold q_r at o12 o13 o14 o15 o16 o17 o18 o19 o20; omega), (by have o0 := hQ.rng; have o1 := iQ0.2.1.rng; have o2 := iQ0.2.2.1; have o3 := iQ0.2.2.2.1; have o4 := t1; have o5 := iT37; have o6 := wp37.1; have o7 := t39; have o8 := gc1_43; have o9 := fx43; have o10 := (q_subN (lo := (-1)) (hi := 259) e52 r_1 rl_1 (by decide)).1; have o11 := Q53.rng; have o12 := r_6; have o13 := r_2; have o14 := r_3; have o15 := r_4; have o16 := p1.1; have o17 := p39.1; have o18 := r_8; have o19 := r_5; have o20 := r_1; have l21 := tl_0; have l22 := tl_1; unfold q_r at o12 o13 o14 o15 o16 o17 o18 o19 o20; omega), fun j j1 j2 => Classical.byCases (fun e : j = (wq0.toInt - 1).toNat => (by rw [e, (q_wt_pos (fw := σ bw) (w := wq0.toInt) (by have o0 := iQ0.2.1.rng; have o1 := iQ0.2.2.1; have o2 := iQ0.2.2.2.1; have o3 := t1; have o4 := iT37; have o5 := wp37.1; have o6 := t39; have o7 := gc1_43; have o8 := fx43; have o9 := (q_subN (lo := (-1)) (hi := 259) e52 r_1 rl_1 (by decide)).1; have o10 := Q53.rng; have o11 := hQ.rng; have o12 := r_6; have o13 := r_2; have o14 := r_3; have o15 := r_4; have o16 := p1.1; have o17 := p39.1; have o18 := r_8; have o19 := r_5; have o20 := r_1; have l21 := tl_0; have l22 := tl_1; unfold q_r at o12 o13 o14 o15 o16 o17 o18 o19 o20; omega)).2]; exact (by have o0 := iQ0.2.1.rng; have o1 := iQ0.2.2.1; have o2 := iQ0.2.2.2.1; have o3 := t1; have o4 := iT37; have o5 := wp37.1; have o6 := t39; have o7 := gc1_43; have o8 := fx43; have o9 := (q_subN (lo := (-1)) (hi := 259) e52 r_1 rl_1 (by decide)).1; have o10 := Q53.rng; have o11 := hQ.rng; have o12 := r_6; have o13 := r_2; have o14 := r_3; have o15 := r_4; have o16 := p1.1; have o17 := p39.1; have o18 := r_8; have o19 := r_5; have o20 := r_1; have l21 := tl_0; have l22 := tl_1; unfold q_r at o12 o13 o14 o15 o16 o17 o18 o19 o20; omega))) (fun e => iQ0.2.2.2.2 j (by have o0 := iQ0.2.1.rng; have o1 := iQ0.2.2.1; have o2 := iQ0.2.2.2.1; have o3 := t1; have o4 := iT37; have o5 := wp37.1; have o6 := t39; have o7 := gc1_43; have o8 := fx43; have o9 := (q_subN (lo := (-1)) (hi := 259) e52 r_1 rl_1 (by decide)).1; have o10 := Q53.rng; have o11 := hQ.rng; have o12 := r_6; have o13 := r_2; have o14 := r_3; have o15 := r_4; have o16 := p1.1; have o17 := p39.1; have o18 := r_8; have o19 := r_5; have o20 := r_1; have l21 := tl_0; have l22 := tl_1; unfold q_r at o12 o13 o14 o15 o16 o17 o18 o19 o20; omega) j2)⟩⟩ hF (by have o0 := iQ0.2.1.rng; have o1 := iQ0.2.2.1; have o2 := iQ0.2.2.2.1; have o3 := t1; have o4 := iT37; have o5 := wp37.1; have o6 := t39; have o7 := gc1_43; have o8 := fx43; have o9 := (q_subN (lo := (-1)) (hi := 259) e52 r_1 rl_1 (by decide)).1; have o10 := Q53.rng; have o11 := hQ.rng; have o12 := r_6; have o13 := r_2; have o14 := r_3; have o15 := r_4; have o16 := p1.1; have o17 := p39.1; have o18 := r_8; have o19 := r_5; have o20 := r_1; have l21 := tl_0; have l22 := tl_1; have o23 := hm0; unfold q_r at o12 o13 o14 o15 o16 o17 o18 o19 o20; omega)
      have J17 : (q_wt (σ bw) wq0.toInt < 4 ∨ 6 < q_wt (σ bw) wq0.toInt) → (fx_eq Fv (kJ_X12_closesSums_17 x1.toInt (fx_N σ0) a0 wq0.toInt (kL_X12_closesSums_0 a0 x1.toInt pq.toInt n0) pq.toInt)) → q_O X 0 0 τ σ0 17 [(0, .ref a0), (1, .int x1)] [] := by
        intro iT17 hF
        unfold kJ_X12_closesSums_17 at hF
        refine q_iload_n (pc := 17) hG dX12_closesSums_17 1 rfl ?_
        refine q_if_eq (pc := 18) hG 59 dX12_closesSums_18 rfl ?_ ?_
        · intro c18
          replace hF := fx_eq1 hF rfl rfl c18
          have r_9 := (show q_r cq 0 260 from ⟨by have q := hQ.rng; omega, by have q := hQ.rng; omega⟩)
          have r_10 := (show q_r cq0 0 260 from ⟨by have q := iQ0.2.1.rng; omega, by have q := iQ0.2.1.rng; omega⟩)
          have r_11 := (show q_r pq 0 260 from ⟨by have q := hQ.rng; omega, by have q := hQ.rng; omega⟩)
          have r_12 := (show q_r wq 0 260 from ⟨by have q := hQ.rng; omega, by have q := hQ.rng; omega⟩)
          have r_13 := q_zeq c18
          exact q_vrt hG hE dX12_closesSums_59 ⟨hS0, (fx_end hF hF0), q_x.mk ⟨cq0, wq0, iQ0.1.1, iQ0.1.2.1, (by have e : pq.toInt = pq.toInt := (by have o0 := hQ.rng; have o1 := iQ0.2.1.rng; have o2 := iQ0.2.2.1; have o3 := iQ0.2.2.2.1; have o4 := t1; have o5 := iT17; have o6 := r_9; have o7 := r_10; have o8 := r_11; have o9 := p1.1; have o10 := r_12; have o11 := r_1; unfold q_r at o6 o7 o8 o9 o10 o11; omega); rw [e]; exact iQ0.2.1), iQ0.2.2.1, iQ0.2.2.2.2, fun q => (by have o0 := iQ0.2.1.rng; have o1 := iQ0.2.2.1; have o2 := iQ0.2.2.2.1; have o3 := t1; have o4 := iT17; have o5 := c18; have o6 := hQ.rng; have o7 := r_9; have o8 := r_10; have o9 := r_11; have o10 := p1.1; have o11 := r_12; have o12 := r_1; have o13 := r_13; have o14 := q; unfold q_r at o7 o8 o9 o10 o11 o12 o13; omega)⟩⟩
        intro c18
        replace hF := fx_eq2 hF rfl rfl c18
        refine q_aload_n (pc := 21) hG dX12_closesSums_21 0 rfl ?_
        refine q_pV (pc := 22) [] [] hG (c_X12_waitTop τ σ0 a0 hS0.1 tA0 bw (hS0.same tA0 rfl hbw) Tbw wq0 iQ0.1.2.1 r_1 (show q_sm (σ0 bs) (σ0 bw) S0 F cq0.toInt wq0.toInt K pq.toInt base Dd from (by rw [((funext fun j => hS0.2.arr Tbw (by decide) rfl) : σ0 bw = σ bw)]; exact iQ0.2.1)).1.wn) my_X12_waitTop mv_X12_waitTop w932 dX12_closesSums_22 tA0 (by decide) rfl rfl (Nat.le_of_ble_eq_true rfl) (by decide) (fun v22 p22 => ?_)
        replace hF := fx_E hF p22.2.1
        have t22 : v22.toInt = q_wt (σ bw) wq0.toInt := (by have q := p22.2.2; rw [((funext fun j => hS0.2.arr Tbw (by decide) rfl) : σ0 bw = σ bw)] at q; exact q)
        refine q_iconst (pc := 25) hG dX12_closesSums_25 ki_2 ?_
        refine q_icmp_eq (pc := 26) hG 37 dX12_closesSums_26 rfl ?_ ?_
        · intro c26
          replace hF := fx_eq1 hF rfl tl_2 c26
          refine q_lv [0, 1] rfl ?_
          have r_14 := (show q_r cq 0 260 from ⟨by have q := hQ.rng; omega, by have q := hQ.rng; omega⟩)
          have r_15 := (show q_r cq0 0 260 from ⟨by have q := iQ0.2.1.rng; omega, by have q := iQ0.2.1.rng; omega⟩)
          have r_16 := (show q_r pq 0 260 from ⟨by have q := hQ.rng; omega, by have q := hQ.rng; omega⟩)
          have r_17 := q_req rl_2 c26
          have r_18 := (show q_r wq 0 260 from ⟨by have q := hQ.rng; omega, by have q := hQ.rng; omega⟩)
          exact J37 (by have o0 := iQ0.2.1.rng; have o1 := iQ0.2.2.1; have o2 := iQ0.2.2.2.1; have o3 := t1; have o4 := iT17; have o5 := t22; have o6 := c26; have o7 := hQ.rng; have o8 := r_14; have o9 := r_15; have o10 := r_16; have o11 := p1.1; have o12 := r_17; have o13 := r_18; have o14 := r_1; have l15 := tl_2; unfold q_r at o8 o9 o10 o11 o12 o13 o14; omega) hF
        intro c26
        replace hF := fx_eq2 hF rfl tl_2 c26
        refine q_aload_n (pc := 29) hG dX12_closesSums_29 0 rfl ?_
        refine q_pV (pc := 30) [] [] hG (c_X12_waitTop τ σ0 a0 hS0.1 tA0 bw (hS0.same tA0 rfl hbw) Tbw wq0 iQ0.1.2.1 r_1 (show q_sm (σ0 bs) (σ0 bw) S0 F cq0.toInt wq0.toInt K pq.toInt base Dd from (by rw [((funext fun j => hS0.2.arr Tbw (by decide) rfl) : σ0 bw = σ bw)]; exact iQ0.2.1)).1.wn) my_X12_waitTop mv_X12_waitTop w932 dX12_closesSums_30 tA0 (by decide) rfl rfl (Nat.le_of_ble_eq_true rfl) (by decide) (fun v30 p30 => ?_)
        replace hF := fx_E hF p30.2.1
        have t30 : v30.toInt = q_wt (σ bw) wq0.toInt := (by have q := p30.2.2; rw [((funext fun j => hS0.2.arr Tbw (by decide) rfl) : σ0 bw = σ bw)] at q; exact q)
        refine q_iconst (pc := 33) hG dX12_closesSums_33 ki_3 ?_
        refine q_icmp_ne (pc := 34) hG 59 dX12_closesSums_34 rfl ?_ ?_
        · intro c34
          replace hF := fx_eq2 hF rfl tl_3 c34
          have r_19 := (show q_r cq 0 260 from ⟨by have q := hQ.rng; omega, by have q := hQ.rng; omega⟩)
          have r_20 := (show q_r cq0 0 260 from ⟨by have q := iQ0.2.1.rng; omega, by have q := iQ0.2.1.rng; omega⟩)
          have r_21 := (show q_r pq 0 260 from ⟨by have q := hQ.rng; omega, by have q := hQ.rng; omega⟩)
          have r_22 := (show q_r wq 0 260 from ⟨by have q := hQ.rng; omega, by have q := hQ.rng; omega⟩)
          have r_23 := q_neL (c := 1) rA1 c18 (by decide)
          exact q_vrt hG hE dX12_closesSums_59 ⟨hS0, (fx_end hF hF0), q_x.mk ⟨cq0, wq0, iQ0.1.1, iQ0.1.2.1, (by have e : pq.toInt = pq.toInt := (by have o0 := hQ.rng; have o1 := iQ0.2.1.rng; have o2 := iQ0.2.2.1; have o3 := iQ0.2.2.2.1; have o4 := t1; have o5 := iT17; have o6 := t22; have o7 := c26; have o8 := t30; have o9 := c34; have o10 := r_19; have o11 := r_20; have o12 := r_21; have o13 := p1.1; have o14 := p22.1; have o15 := p30.1; have o16 := r_22; have o17 := r_1; have l18 := tl_2; have l19 := tl_3; unfold q_r at o10 o11 o12 o13 o14 o15 o16 o17; omega); rw [e]; exact iQ0.2.1), iQ0.2.2.1, iQ0.2.2.2.2, fun q => (by have o0 := iQ0.2.1.rng; have o1 := iQ0.2.2.1; have o2 := iQ0.2.2.2.1; have o3 := t1; have o4 := iT17; have o5 := c18; have o6 := t22; have o7 := c26; have o8 := t30; have o9 := c34; have o10 := hQ.rng; have o11 := r_19; have o12 := r_20; have o13 := r_21; have o14 := p1.1; have o15 := p22.1; have o16 := p30.1; have o17 := r_22; have o18 := r_1; have o19 := r_23; have l20 := tl_2; have l21 := tl_3; have o22 := q; unfold q_r at o11 o12 o13 o14 o15 o16 o17 o18 o19; omega)⟩⟩
        intro c34
        replace hF := fx_eq1 hF rfl tl_3 c34
        refine q_lv [0, 1] rfl ?_
        have r_24 := (show q_r cq 0 260 from ⟨by have q := hQ.rng; omega, by have q := hQ.rng; omega⟩)
        have r_25 := (show q_r cq0 0 260 from ⟨by have q := iQ0.2.1.rng; omega, by have q := iQ0.2.1.rng; omega⟩)
        have r_26 := (show q_r pq 0 260 from ⟨by have q := hQ.rng; omega, by have q := hQ.rng; omega⟩)
        have r_27 := q_req rl_3 c34
        have r_28 := (show q_r wq 0 260 from ⟨by have q := hQ.rng; omega, by have q := hQ.rng; omega⟩)
        exact J37 (by have o0 := iQ0.2.1.rng; have o1 := iQ0.2.2.1; have o2 := iQ0.2.2.2.1; have o3 := t1; have o4 := iT17; have o5 := t22; have o6 := c26; have o7 := t30; have o8 := c34; have o9 := hQ.rng; have o10 := r_24; have o11 := r_25; have o12 := r_26; have o13 := p1.1; have o14 := p22.1; have o15 := r_27; have o16 := r_28; have o17 := r_1; have l18 := tl_2; have l19 := tl_3; unfold q_r at o10 o11 o12 o13 o14 o15 o16 o17; omega) hF
      refine q_icmp_lt (pc := 5) hG 17 dX12_closesSums_5 rfl ?_ ?_
      · intro c5
        replace hF := fx_lt1 hF rfl tl_4 c5
        refine q_lv [0, 1] rfl ?_
        have r_29 := (show q_r cq 0 260 from ⟨by have q := hQ.rng; omega, by have q := hQ.rng; omega⟩)
        have r_30 := (show q_r cq0 0 260 from ⟨by have q := iQ0.2.1.rng; omega, by have q := iQ0.2.1.rng; omega⟩)
        have r_31 := (show q_r pq 0 260 from ⟨by have q := hQ.rng; omega, by have q := hQ.rng; omega⟩)
        have r_32 := q_rlt p1.1 rl_4 c5 3 (by decide)
        have r_33 := (show q_r wq 0 260 from ⟨by have q := hQ.rng; omega, by have q := hQ.rng; omega⟩)
        exact J17 (by have o0 := iQ0.2.1.rng; have o1 := iQ0.2.2.1; have o2 := iQ0.2.2.2.1; have o3 := t1; have o4 := c5; have o5 := hQ.rng; have o6 := r_29; have o7 := r_30; have o8 := r_31; have o9 := r_32; have o10 := r_33; have o11 := r_1; have l12 := tl_4; unfold q_r at o6 o7 o8 o9 o10 o11; omega) hF
      intro c5
      replace hF := fx_lt2 hF rfl tl_4 c5
      refine q_aload_n (pc := 8) hG dX12_closesSums_8 0 rfl ?_
      refine q_pV (pc := 9) [] [] hG (c_X12_waitTop τ σ0 a0 hS0.1 tA0 bw (hS0.same tA0 rfl hbw) Tbw wq0 iQ0.1.2.1 r_1 (show q_sm (σ0 bs) (σ0 bw) S0 F cq0.toInt wq0.toInt K pq.toInt base Dd from (by rw [((funext fun j => hS0.2.arr Tbw (by decide) rfl) : σ0 bw = σ bw)]; exact iQ0.2.1)).1.wn) my_X12_waitTop mv_X12_waitTop w932 dX12_closesSums_9 tA0 (by decide) rfl rfl (Nat.le_of_ble_eq_true rfl) (by decide) (fun v9 p9 => ?_)
      replace hF := fx_E hF p9.2.1
      have t9 : v9.toInt = q_wt (σ bw) wq0.toInt := (by have q := p9.2.2; rw [((funext fun j => hS0.2.arr Tbw (by decide) rfl) : σ0 bw = σ bw)] at q; exact q)
      refine q_bipush (pc := 12) hG dX12_closesSums_12 kb_6 ?_
      refine q_icmp_le (pc := 14) hG 37 dX12_closesSums_14 rfl ?_ ?_
      · intro c14
        replace hF := fx_lt2 hF tl_6 rfl c14
        refine q_lv [0, 1] rfl ?_
        have r_34 := (show q_r cq 0 260 from ⟨by have q := hQ.rng; omega, by have q := hQ.rng; omega⟩)
        have r_35 := (show q_r cq0 0 260 from ⟨by have q := iQ0.2.1.rng; omega, by have q := iQ0.2.1.rng; omega⟩)
        have r_36 := (show q_r pq 0 260 from ⟨by have q := hQ.rng; omega, by have q := hQ.rng; omega⟩)
        have r_37 := q_rge p1.1 rl_4 c5
        have r_38 := q_rle p9.1 rl_6 c14
        have r_39 := (show q_r wq 0 260 from ⟨by have q := hQ.rng; omega, by have q := hQ.rng; omega⟩)
        exact J37 (by have o0 := iQ0.2.1.rng; have o1 := iQ0.2.2.1; have o2 := iQ0.2.2.2.1; have o3 := t1; have o4 := c5; have o5 := t9; have o6 := c14; have o7 := hQ.rng; have o8 := r_34; have o9 := r_35; have o10 := r_36; have o11 := r_37; have o12 := r_38; have o13 := r_39; have o14 := r_1; have l15 := tl_4; have l16 := tl_6; unfold q_r at o8 o9 o10 o11 o12 o13 o14; omega) hF
      intro c14
      replace hF := fx_lt1 hF tl_6 rfl c14
      refine q_lv [0, 1] rfl ?_
      have r_40 := (show q_r cq 0 260 from ⟨by have q := hQ.rng; omega, by have q := hQ.rng; omega⟩)
      have r_41 := (show q_r cq0 0 260 from ⟨by have q := iQ0.2.1.rng; omega, by have q := iQ0.2.1.rng; omega⟩)
      have r_42 := (show q_r pq 0 260 from ⟨by have q := hQ.rng; omega, by have q := hQ.rng; omega⟩)
      have r_43 := q_rge p1.1 rl_4 c5
      have r_44 := q_rgt p9.1 rl_6 c14 7 (by decide)
      have r_45 := (show q_r wq 0 260 from ⟨by have q := hQ.rng; omega, by have q := hQ.rng; omega⟩)
      exact J17 (by have o0 := iQ0.2.1.rng; have o1 := iQ0.2.2.1; have o2 := iQ0.2.2.2.1; have o3 := t1; have o4 := c5; have o5 := t9; have o6 := c14; have o7 := hQ.rng; have o8 := r_40; have o9 := r_41; have o10 := r_42; have o11 := r_43; have o12 := r_44; have o13 := r_45; have o14 := r_1; have l15 := tl_4; have l16 := tl_6; unfold q_r at o8 o9 o10 o11 o12 o13 o14; omega) hF
  refine q_lv [0, 1] rfl ?_
  exact J0 (wq.toInt.toNat + 1) σ cq wq pq hS0 ⟨⟨hcq, hwq, hpq⟩, hQ, ⟨Int.le_refl _, rfl, fun j j1 j2 => absurd j2 (by omega)⟩⟩ hF (Nat.lt_succ_self _)
theorem dX12_readsNumber_0 : decode cX12_readsNumber 0 = .ok (.aload_n 0, 1) := by decide +kernel
theorem dX12_readsNumber_1 : decode cX12_readsNumber 1 = .ok (.getfield 126, 3) := by decide +kernel
theorem dX12_readsNumber_4 : decode cX12_readsNumber 4 = .ok (.istore_n 1, 1) := by decide +kernel
theorem dX12_readsNumber_5 : decode cX12_readsNumber 5 = .ok (.aload_n 0, 1) := by decide +kernel
theorem dX12_readsNumber_6 : decode cX12_readsNumber 6 = .ok (.iconst 0, 1) := by decide +kernel
theorem dX12_readsNumber_7 : decode cX12_readsNumber 7 = .ok (.putfield 143, 3) := by decide +kernel
theorem dX12_readsNumber_10 : decode cX12_readsNumber 10 = .ok (.aload_n 0, 1) := by decide +kernel
theorem dX12_readsNumber_11 : decode cX12_readsNumber 11 = .ok (.invokevirtual 146, 3) := by decide +kernel
theorem dX12_readsNumber_14 : decode cX12_readsNumber 14 = .ok (.ifCond .eq 55, 3) := by decide +kernel
theorem dX12_readsNumber_17 : decode cX12_readsNumber 17 = .ok (.aload_n 0, 1) := by decide +kernel
theorem dX12_readsNumber_18 : decode cX12_readsNumber 18 = .ok (.getfield 126, 3) := by decide +kernel
theorem dX12_readsNumber_21 : decode cX12_readsNumber 21 = .ok (.iload_n 1, 1) := by decide +kernel
theorem dX12_readsNumber_22 : decode cX12_readsNumber 22 = .ok (.iconst 5, 1) := by decide +kernel
theorem dX12_readsNumber_23 : decode cX12_readsNumber 23 = .ok (.iadd, 1) := by decide +kernel
theorem dX12_readsNumber_24 : decode cX12_readsNumber 24 = .ok (.if_icmp .ne 13, 3) := by decide +kernel
theorem dX12_readsNumber_27 : decode cX12_readsNumber 27 = .ok (.aload_n 0, 1) := by decide +kernel
theorem dX12_readsNumber_28 : decode cX12_readsNumber 28 = .ok (.iconst 2, 1) := by decide +kernel
theorem dX12_readsNumber_29 : decode cX12_readsNumber 29 = .ok (.aload_n 0, 1) := by decide +kernel
theorem dX12_readsNumber_30 : decode cX12_readsNumber 30 = .ok (.getfield 126, 3) := by decide +kernel
theorem dX12_readsNumber_33 : decode cX12_readsNumber 33 = .ok (.invokevirtual 139, 3) := by decide +kernel
theorem dX12_readsNumber_36 : decode cX12_readsNumber 36 = .ok (.ireturn, 1) := by decide +kernel
theorem dX12_readsNumber_37 : decode cX12_readsNumber 37 = .ok (.aload_n 0, 1) := by decide +kernel
theorem dX12_readsNumber_38 : decode cX12_readsNumber 38 = .ok (.bipush 10, 2) := by decide +kernel
theorem dX12_readsNumber_40 : decode cX12_readsNumber 40 = .ok (.aload_n 0, 1) := by decide +kernel
theorem dX12_readsNumber_41 : decode cX12_readsNumber 41 = .ok (.getfield 143, 3) := by decide +kernel
theorem dX12_readsNumber_44 : decode cX12_readsNumber 44 = .ok (.imul, 1) := by decide +kernel
theorem dX12_readsNumber_45 : decode cX12_readsNumber 45 = .ok (.aload_n 0, 1) := by decide +kernel
theorem dX12_readsNumber_46 : decode cX12_readsNumber 46 = .ok (.invokevirtual 132, 3) := by decide +kernel
theorem dX12_readsNumber_49 : decode cX12_readsNumber 49 = .ok (.iadd, 1) := by decide +kernel
theorem dX12_readsNumber_50 : decode cX12_readsNumber 50 = .ok (.bipush 48, 2) := by decide +kernel
theorem dX12_readsNumber_52 : decode cX12_readsNumber 52 = .ok (.isub, 1) := by decide +kernel
theorem dX12_readsNumber_53 : decode cX12_readsNumber 53 = .ok (.putfield 143, 3) := by decide +kernel
theorem dX12_readsNumber_56 : decode cX12_readsNumber 56 = .ok (.aload_n 0, 1) := by decide +kernel
theorem dX12_readsNumber_57 : decode cX12_readsNumber 57 = .ok (.aload_n 0, 1) := by decide +kernel
theorem dX12_readsNumber_58 : decode cX12_readsNumber 58 = .ok (.getfield 126, 3) := by decide +kernel
theorem dX12_readsNumber_61 : decode cX12_readsNumber 61 = .ok (.iconst 1, 1) := by decide +kernel
theorem dX12_readsNumber_62 : decode cX12_readsNumber 62 = .ok (.iadd, 1) := by decide +kernel
theorem dX12_readsNumber_63 : decode cX12_readsNumber 63 = .ok (.putfield 126, 3) := by decide +kernel
theorem dX12_readsNumber_66 : decode cX12_readsNumber 66 = .ok (.goto (-56), 3) := by decide +kernel
theorem dX12_readsNumber_69 : decode cX12_readsNumber 69 = .ok (.iconst 1, 1) := by decide +kernel
theorem dX12_readsNumber_70 : decode cX12_readsNumber 70 = .ok (.ireturn, 1) := by decide +kernel
def md_X12_readsNumber : List (Nat × Nat) := [(10, 5), (10, 7), (10, 8)]
set_option maxRecDepth 100000 in
set_option maxHeartbeats 4000000 in
theorem c_X12_readsNumber {l : Launch} {D : q_D} (τ : q_T) (σ : q_V) (a0 : Nat) (hI : q_I τ σ) (tA0 : τ a0 = some (10, 1)) : q_Ci l D yX12_readsNumber cX12_readsNumber 2 (some .boolean) 2 40 τ σ [.ref a0] (fun r σ1 => q_S md_X12_readsNumber τ σ σ1 ∧ (q_r r 0 1) ∧ ((r.toInt, fx_N σ1) = f_X12_readsNumber (fx_N σ) a0) ∧ (∀ x : Int32, σ a0 5 = .int x → r.toInt = 1 → q_x (∃ y n : Int32, σ1 a0 5 = .int y ∧ σ1 a0 8 = .int n ∧ q_r y 0 260 ∧ x.toInt ≤ y.toInt ∧ q_r n 0 99999 ∧ ((48 ≤ q_hr σ a0 ∧ q_hr σ a0 ≤ 57) → x.toInt < y.toInt)))) := by
  refine q_meti rfl (Nat.le_of_ble_eq_true rfl) (fun X hG hE => ?_)
  show q_O X 0 0 τ σ 0 [(0, .ref a0)] []
  have hS0 : q_S md_X12_readsNumber τ σ σ := q_S.rf hI
  obtain ⟨Fv, hF⟩ : ∃ z, fx_eq z (f_X12_readsNumber (fx_N σ) a0) := ⟨_, fx_rf⟩
  have hF0 := hF
  unfold f_X12_readsNumber at hF
  obtain ⟨q_1v, q_1f, q_1r⟩ := (hI a0 10 1 tA0 5 (by decide)).int ff_10_5
  replace hF := fx_I hF q_1f rfl
  obtain ⟨q_2b, q_2f, q_2T⟩ := (hI a0 10 1 tA0 3 (by decide)).ref (k := 310) (n := 260) rfl
  replace hF := fx_R hF q_2f rfl
  refine q_aload_n (pc := 0) hG dX12_readsNumber_0 0 rfl ?_
  refine q_getV (pc := 1) (v := .int q_1v) hG fl_X12_126 dX12_readsNumber_1 tA0 q_1f ?_
  refine q_istore_n (pc := 4) [(1, .int q_1v), (0, .ref a0)] hG dX12_readsNumber_4 (by decide) rfl ?_
  refine q_aload_n (pc := 5) hG dX12_readsNumber_5 1 rfl ?_
  refine q_iconst (pc := 6) hG dX12_readsNumber_6 ki_0 ?_
  refine q_putI (pc := 7) hG fl_X12_143 dX12_readsNumber_7 hS0 tA0 ff_10_8 rl_0 (by decide) rfl (fun s7 u7 w7 => ?_)
  replace hF := fx_P hF u7 rfl tl_0
  have m7 : s7 a0 8 = .int 0 := by rw [u7]; exact q_up_same
  have J10 : ∀ (n10 : Nat) (σ10 : q_V) (F10 : Int32) (G10 : Int32), (q_S md_X12_readsNumber τ σ σ10) → (σ10 a0 5 = .int F10 ∧ q_r F10 0 260) → (σ10 a0 8 = .int G10 ∧ q_r G10 0 99999) → ((F10.toInt = q_1v.toInt + 0 ∧ G10.toInt ≤ 0) ∨ (F10.toInt = q_1v.toInt + 1 ∧ G10.toInt ≤ 9) ∨ (F10.toInt = q_1v.toInt + 2 ∧ G10.toInt ≤ 99) ∨ (F10.toInt = q_1v.toInt + 3 ∧ G10.toInt ≤ 999) ∨ (F10.toInt = q_1v.toInt + 4 ∧ G10.toInt ≤ 9999) ∨ (F10.toInt = q_1v.toInt + 5 ∧ G10.toInt ≤ 99999)) → (F10.toInt ≠ q_1v.toInt ∨ q_hr σ10 a0 = q_hr σ a0) → (fx_eq Fv (kL_X12_readsNumber_10 a0 q_1v.toInt n10 (fx_N σ10) F10.toInt G10.toInt)) → ((260 - F10.toInt).toNat < n10) → q_O X 0 0 τ σ10 10 [(0, .ref a0), (1, .int q_1v)] [] := by
    intro n10
    induction n10 with
    | zero => intro σ10 F10 G10 hS10 iF10 iG10 iD10 iE10 hF hm10; exact absurd hm10 (Nat.not_lt_zero _)
    | succ n10 ih10 =>
      intro σ10 F10 G10 hS10 iF10 iG10 iD10 iE10 hF hm10
      replace hF := (show fx_eq Fv (kB_X12_readsNumber_10 (kL_X12_readsNumber_10 a0 q_1v.toInt n10) a0 q_1v.toInt (fx_N σ10) F10.toInt G10.toInt) from hF)
      unfold kB_X12_readsNumber_10 at hF
      refine q_aload_n (pc := 10) hG dX12_readsNumber_10 0 rfl ?_
      refine q_pV (pc := 11) [] [] hG (c_X12_isDigit τ σ10 a0 hS10.1 tA0) my_X12_isDigit mv_X12_isDigit w885 dX12_readsNumber_11 tA0 (by decide) rfl rfl (Nat.le_of_ble_eq_true rfl) (by decide) (fun v11 p11 => ?_)
      replace hF := fx_E hF p11.2.1
      refine q_if_eq (pc := 14) hG 69 dX12_readsNumber_14 rfl ?_ ?_
      · intro c14
        replace hF := fx_eq1 hF rfl rfl c14
        refine q_iconst (pc := 69) hG dX12_readsNumber_69 ki_1 ?_
        have r_3 := q_zeq c14
        exact q_zrt hG hE dX12_readsNumber_70 (q_r.mono rl_1 (by decide)) ⟨hS10, (q_r.mono rl_1 (by decide)), (by rw [tl_1]; exact fx_end hF hF0), (fun x e => by have q := e.symm.trans q_1f; cases q; exact fun _ => q_x.mk ⟨F10, G10, iF10.1, iG10.1, iF10.2, (by have o0 := iD10; have o1 := iE10; have o2 := (p11.2.2.1 F10 iF10.1); have o3 := p11.2.2.2; have o4 := c14; have o5 := iF10.2; have o6 := iG10.2; have o7 := q_1r; have o8 := r_3; unfold q_r at o5 o6 o7 o8; omega), iG10.2, fun q => (by have o0 := iD10; have o1 := iE10; have o2 := (p11.2.2.1 F10 iF10.1); have o3 := p11.2.2.2; have o4 := c14; have o5 := iF10.2; have o6 := iG10.2; have o7 := q_1r; have o8 := r_3; have o9 := q; unfold q_r at o5 o6 o7 o8; omega)⟩)⟩
      intro c14
      replace hF := fx_eq2 hF rfl rfl c14
      refine q_aload_n (pc := 17) hG dX12_readsNumber_17 0 rfl ?_
      refine q_getV (pc := 18) (v := .int F10) hG fl_X12_126 dX12_readsNumber_18 tA0 iF10.1 ?_
      refine q_iload_n (pc := 21) hG dX12_readsNumber_21 1 rfl ?_
      refine q_iconst (pc := 22) hG dX12_readsNumber_22 ki_5 ?_
      refine q_iadd (pc := 23) hG dX12_readsNumber_23 (fun v23 e23 => ?_)
      replace hF := fx_add hF rfl tl_5 (q_addN (lo := 5) (hi := 265) e23 q_1r rl_5 (by decide)).1
      refine q_icmp_ne (pc := 24) hG 37 dX12_readsNumber_24 rfl ?_ ?_
      · intro c24
        have r_4 := (q_addN (lo := 5) (hi := 265) e23 q_1r rl_5 (by decide)).2
        replace hF := fx_eq2 hF rfl rfl c24
        refine q_aload_n (pc := 37) hG dX12_readsNumber_37 0 rfl ?_
        refine q_bipush (pc := 38) hG dX12_readsNumber_38 kb_10 ?_
        refine q_aload_n (pc := 40) hG dX12_readsNumber_40 0 rfl ?_
        refine q_getV (pc := 41) (v := .int G10) hG fl_X12_143 dX12_readsNumber_41 tA0 iG10.1 ?_
        refine q_imul (pc := 44) hG dX12_readsNumber_44 (fun v44 e44 => ?_)
        replace hF := fx_mul hF tl_10 rfl (q_mulN (lo := 0) (hi := 999990) e44 rl_10 iG10.2 (by decide)).1
        refine q_aload_n (pc := 45) hG dX12_readsNumber_45 0 rfl ?_
        refine q_pV (pc := 46) [] [.int v44, .ref a0] hG (c_X12_here τ σ10 a0 hS10.1 tA0) my_X12_here mv_X12_here w879 dX12_readsNumber_46 tA0 (by decide) rfl rfl (Nat.le_of_ble_eq_true rfl) (by decide) (fun v46 p46 => ?_)
        replace hF := fx_E hF p46.2.1
        refine q_iadd (pc := 49) hG dX12_readsNumber_49 (fun v49 e49 => ?_)
        have r_5 := (q_mulN (lo := 0) (hi := 999990) e44 rl_10 iG10.2 (by decide)).2
        replace hF := fx_add hF rfl rfl (q_addN (lo := (-1)) (hi := 1000245) e49 r_5 p46.1 (by decide)).1
        refine q_bipush (pc := 50) hG dX12_readsNumber_50 kb_48 ?_
        refine q_isub (pc := 52) hG dX12_readsNumber_52 (fun v52 e52 => ?_)
        have r_6 := (q_addN (lo := (-1)) (hi := 1000245) e49 r_5 p46.1 (by decide)).2
        replace hF := fx_sub hF rfl tl_48 (q_subN (lo := (-49)) (hi := 1000197) e52 r_6 rl_48 (by decide)).1
        have r_7 := (q_subN (lo := (-49)) (hi := 1000197) e52 r_6 rl_48 (by decide)).2
        refine q_putI (pc := 53) hG fl_X12_143 dX12_readsNumber_53 hS10 tA0 ff_10_8 r_7 (by decide) rfl (fun s53 u53 w53 => ?_)
        replace hF := fx_P hF u53 rfl rfl
        have m53 : s53 a0 8 = .int v52 := by rw [u53]; exact q_up_same
        refine q_aload_n (pc := 56) hG dX12_readsNumber_56 0 rfl ?_
        refine q_aload_n (pc := 57) hG dX12_readsNumber_57 0 rfl ?_
        refine q_getV (pc := 58) (v := .int F10) hG fl_X12_126 dX12_readsNumber_58 tA0 (by rw [u53]; exact (q_up_else (Or.inr (by decide))).trans iF10.1) ?_
        refine q_iconst (pc := 61) hG dX12_readsNumber_61 ki_1 ?_
        refine q_iadd (pc := 62) hG dX12_readsNumber_62 (fun v62 e62 => ?_)
        replace hF := fx_add hF rfl tl_1 (q_addN (lo := 1) (hi := 261) e62 iF10.2 rl_1 (by decide)).1
        have r_8 := q_neL (c := 1) p11.1 c14 (by decide)
        have r_9 := (q_addN (lo := 1) (hi := 261) e62 iF10.2 rl_1 (by decide)).2
        refine q_putI (pc := 63) hG fl_X12_126 dX12_readsNumber_63 w53 tA0 ff_10_5 (show q_r v62 0 260 from ⟨(by have o0 := (q_addN (lo := 1) (hi := 261) e62 iF10.2 rl_1 (by decide)).1; have o1 := iD10; have o2 := iE10; have o3 := (p11.2.2.1 F10 iF10.1); have o4 := p11.2.2.2; have o5 := c14; have o6 := (q_addN (lo := 5) (hi := 265) e23 q_1r rl_5 (by decide)).1; have o7 := c24; have o8 := (by have q := (q_mulN (lo := 0) (hi := 999990) e44 rl_10 iG10.2 (by decide)).1; rw [tl_10] at q; exact q); have o9 := (p46.2.2.1 F10 iF10.1); have o10 := p46.2.2.2; have o11 := (q_addN (lo := (-1)) (hi := 1000245) e49 r_5 p46.1 (by decide)).1; have o12 := (q_subN (lo := (-49)) (hi := 1000197) e52 r_6 rl_48 (by decide)).1; have o13 := iF10.2; have o14 := iG10.2; have o15 := q_1r; have o16 := r_8; have o17 := r_4; have o18 := r_5; have o19 := p46.1; have o20 := r_6; have o21 := r_7; have o22 := r_9; have l23 := tl_1; have l24 := tl_5; have l25 := tl_48; unfold q_r at o13 o14 o15 o16 o17 o18 o19 o20 o21 o22; omega), (by have o0 := (q_addN (lo := 1) (hi := 261) e62 iF10.2 rl_1 (by decide)).1; have o1 := iD10; have o2 := iE10; have o3 := (p11.2.2.1 F10 iF10.1); have o4 := p11.2.2.2; have o5 := c14; have o6 := (q_addN (lo := 5) (hi := 265) e23 q_1r rl_5 (by decide)).1; have o7 := c24; have o8 := (by have q := (q_mulN (lo := 0) (hi := 999990) e44 rl_10 iG10.2 (by decide)).1; rw [tl_10] at q; exact q); have o9 := (p46.2.2.1 F10 iF10.1); have o10 := p46.2.2.2; have o11 := (q_addN (lo := (-1)) (hi := 1000245) e49 r_5 p46.1 (by decide)).1; have o12 := (q_subN (lo := (-49)) (hi := 1000197) e52 r_6 rl_48 (by decide)).1; have o13 := iF10.2; have o14 := iG10.2; have o15 := q_1r; have o16 := r_8; have o17 := r_4; have o18 := r_5; have o19 := p46.1; have o20 := r_6; have o21 := r_7; have o22 := r_9; have l23 := tl_1; have l24 := tl_5; have l25 := tl_48; unfold q_r at o13 o14 o15 o16 o17 o18 o19 o20 o21 o22; omega)⟩) (by decide) rfl (fun s63 u63 w63 => ?_)
        replace hF := fx_P hF u63 rfl rfl
        have m63 : s63 a0 5 = .int v62 := by rw [u63]; exact q_up_same
        refine q_goto (pc := 66) 10 hG dX12_readsNumber_66 rfl ?_
        refine q_lv [0, 1] rfl ?_
        exact ih10 s63 v62 v52 w63 ⟨m63, (show q_r v62 0 260 from ⟨(by have o0 := (q_addN (lo := 1) (hi := 261) e62 iF10.2 rl_1 (by decide)).1; have o1 := iD10; have o2 := iE10; have o3 := (p11.2.2.1 F10 iF10.1); have o4 := p11.2.2.2; have o5 := c14; have o6 := (q_addN (lo := 5) (hi := 265) e23 q_1r rl_5 (by decide)).1; have o7 := c24; have o8 := (by have q := (q_mulN (lo := 0) (hi := 999990) e44 rl_10 iG10.2 (by decide)).1; rw [tl_10] at q; exact q); have o9 := (p46.2.2.1 F10 iF10.1); have o10 := p46.2.2.2; have o11 := (q_addN (lo := (-1)) (hi := 1000245) e49 r_5 p46.1 (by decide)).1; have o12 := (q_subN (lo := (-49)) (hi := 1000197) e52 r_6 rl_48 (by decide)).1; have o13 := iF10.2; have o14 := iG10.2; have o15 := q_1r; have o16 := r_8; have o17 := r_4; have o18 := r_5; have o19 := p46.1; have o20 := r_6; have o21 := r_7; have o22 := r_9; have l23 := tl_1; have l24 := tl_5; have l25 := tl_48; unfold q_r at o13 o14 o15 o16 o17 o18 o19 o20 o21 o22; omega), (by have o0 := (q_addN (lo := 1) (hi := 261) e62 iF10.2 rl_1 (by decide)).1; have o1 := iD10; have o2 := iE10; have o3 := (p11.2.2.1 F10 iF10.1); have o4 := p11.2.2.2; have o5 := c14; have o6 := (q_addN (lo := 5) (hi := 265) e23 q_1r rl_5 (by decide)).1; have o7 := c24; have o8 := (by have q := (q_mulN (lo := 0) (hi := 999990) e44 rl_10 iG10.2 (by decide)).1; rw [tl_10] at q; exact q); have o9 := (p46.2.2.1 F10 iF10.1); have o10 := p46.2.2.2; have o11 := (q_addN (lo := (-1)) (hi := 1000245) e49 r_5 p46.1 (by decide)).1; have o12 := (q_subN (lo := (-49)) (hi := 1000197) e52 r_6 rl_48 (by decide)).1; have o13 := iF10.2; have o14 := iG10.2; have o15 := q_1r; have o16 := r_8; have o17 := r_4; have o18 := r_5; have o19 := p46.1; have o20 := r_6; have o21 := r_7; have o22 := r_9; have l23 := tl_1; have l24 := tl_5; have l25 := tl_48; unfold q_r at o13 o14 o15 o16 o17 o18 o19 o20 o21 o22; omega)⟩)⟩ ⟨(by rw [u63]; exact (q_up_else (Or.inr (by decide))).trans m53), (show q_r v52 0 99999 from ⟨(by have o0 := (q_subN (lo := (-49)) (hi := 1000197) e52 r_6 rl_48 (by decide)).1; have o1 := (q_addN (lo := (-1)) (hi := 1000245) e49 r_5 p46.1 (by decide)).1; have o2 := (by have q := (q_mulN (lo := 0) (hi := 999990) e44 rl_10 iG10.2 (by decide)).1; rw [tl_10] at q; exact q); have o3 := (p46.2.2.1 F10 iF10.1); have o4 := p46.2.2.2; have o5 := (q_addN (lo := 1) (hi := 261) e62 iF10.2 rl_1 (by decide)).1; have o6 := iD10; have o7 := iE10; have o8 := (p11.2.2.1 F10 iF10.1); have o9 := p11.2.2.2; have o10 := c14; have o11 := (q_addN (lo := 5) (hi := 265) e23 q_1r rl_5 (by decide)).1; have o12 := c24; have o13 := iF10.2; have o14 := iG10.2; have o15 := q_1r; have o16 := r_8; have o17 := r_4; have o18 := r_5; have o19 := p46.1; have o20 := r_6; have o21 := r_7; have o22 := r_9; have l23 := tl_1; have l24 := tl_5; have l25 := tl_48; unfold q_r at o13 o14 o15 o16 o17 o18 o19 o20 o21 o22; omega), (by have o0 := (q_subN (lo := (-49)) (hi := 1000197) e52 r_6 rl_48 (by decide)).1; have o1 := (q_addN (lo := (-1)) (hi := 1000245) e49 r_5 p46.1 (by decide)).1; have o2 := (by have q := (q_mulN (lo := 0) (hi := 999990) e44 rl_10 iG10.2 (by decide)).1; rw [tl_10] at q; exact q); have o3 := (p46.2.2.1 F10 iF10.1); have o4 := p46.2.2.2; have o5 := (q_addN (lo := 1) (hi := 261) e62 iF10.2 rl_1 (by decide)).1; have o6 := iD10; have o7 := iE10; have o8 := (p11.2.2.1 F10 iF10.1); have o9 := p11.2.2.2; have o10 := c14; have o11 := (q_addN (lo := 5) (hi := 265) e23 q_1r rl_5 (by decide)).1; have o12 := c24; have o13 := iF10.2; have o14 := iG10.2; have o15 := q_1r; have o16 := r_8; have o17 := r_4; have o18 := r_5; have o19 := p46.1; have o20 := r_6; have o21 := r_7; have o22 := r_9; have l23 := tl_1; have l24 := tl_5; have l25 := tl_48; unfold q_r at o13 o14 o15 o16 o17 o18 o19 o20 o21 o22; omega)⟩)⟩ (by have o0 := iD10; have o1 := iE10; have o2 := (p11.2.2.1 F10 iF10.1); have o3 := p11.2.2.2; have o4 := c14; have o5 := (q_addN (lo := 5) (hi := 265) e23 q_1r rl_5 (by decide)).1; have o6 := c24; have o7 := (by have q := (q_mulN (lo := 0) (hi := 999990) e44 rl_10 iG10.2 (by decide)).1; rw [tl_10] at q; exact q); have o8 := (p46.2.2.1 F10 iF10.1); have o9 := p46.2.2.2; have o10 := (q_addN (lo := (-1)) (hi := 1000245) e49 r_5 p46.1 (by decide)).1; have o11 := (q_subN (lo := (-49)) (hi := 1000197) e52 r_6 rl_48 (by decide)).1; have o12 := (q_addN (lo := 1) (hi := 261) e62 iF10.2 rl_1 (by decide)).1; have o13 := iF10.2; have o14 := iG10.2; have o15 := q_1r; have o16 := r_8; have o17 := r_4; have o18 := r_5; have o19 := p46.1; have o20 := r_6; have o21 := r_7; have o22 := r_9; have l23 := tl_1; have l24 := tl_5; have l25 := tl_48; unfold q_r at o13 o14 o15 o16 o17 o18 o19 o20 o21 o22; omega) (Or.inl (by have o0 := iD10; have o1 := iE10; have o2 := (p11.2.2.1 F10 iF10.1); have o3 := p11.2.2.2; have o4 := c14; have o5 := (q_addN (lo := 5) (hi := 265) e23 q_1r rl_5 (by decide)).1; have o6 := c24; have o7 := (by have q := (q_mulN (lo := 0) (hi := 999990) e44 rl_10 iG10.2 (by decide)).1; rw [tl_10] at q; exact q); have o8 := (p46.2.2.1 F10 iF10.1); have o9 := p46.2.2.2; have o10 := (q_addN (lo := (-1)) (hi := 1000245) e49 r_5 p46.1 (by decide)).1; have o11 := (q_subN (lo := (-49)) (hi := 1000197) e52 r_6 rl_48 (by decide)).1; have o12 := (q_addN (lo := 1) (hi := 261) e62 iF10.2 rl_1 (by decide)).1; have o13 := iF10.2; have o14 := iG10.2; have o15 := q_1r; have o16 := r_8; have o17 := r_4; have o18 := r_5; have o19 := p46.1; have o20 := r_6; have o21 := r_7; have o22 := r_9; have l23 := tl_1; have l24 := tl_5; have l25 := tl_48; unfold q_r at o13 o14 o15 o16 o17 o18 o19 o20 o21 o22; omega)) hF (q_measU hm10 (by have o0 := iD10; have o1 := iE10; have o2 := (p11.2.2.1 F10 iF10.1); have o3 := p11.2.2.2; have o4 := c14; have o5 := (q_addN (lo := 5) (hi := 265) e23 q_1r rl_5 (by decide)).1; have o6 := c24; have o7 := (by have q := (q_mulN (lo := 0) (hi := 999990) e44 rl_10 iG10.2 (by decide)).1; rw [tl_10] at q; exact q); have o8 := (p46.2.2.1 F10 iF10.1); have o9 := p46.2.2.2; have o10 := (q_addN (lo := (-1)) (hi := 1000245) e49 r_5 p46.1 (by decide)).1; have o11 := (q_subN (lo := (-49)) (hi := 1000197) e52 r_6 rl_48 (by decide)).1; have o12 := (q_addN (lo := 1) (hi := 261) e62 iF10.2 rl_1 (by decide)).1; have o13 := iF10.2; have o14 := iG10.2; have o15 := q_1r; have o16 := r_8; have o17 := r_4; have o18 := r_5; have o19 := p46.1; have o20 := r_6; have o21 := r_7; have o22 := r_9; have l23 := tl_1; have l24 := tl_5; have l25 := tl_48; unfold q_r at o13 o14 o15 o16 o17 o18 o19 o20 o21 o22; omega) (by have o0 := (q_addN (lo := 1) (hi := 261) e62 iF10.2 rl_1 (by decide)).1; have o1 := iD10; have o2 := iE10; have o3 := (p11.2.2.1 F10 iF10.1); have o4 := p11.2.2.2; have o5 := c14; have o6 := (q_addN (lo := 5) (hi := 265) e23 q_1r rl_5 (by decide)).1; have o7 := c24; have o8 := (by have q := (q_mulN (lo := 0) (hi := 999990) e44 rl_10 iG10.2 (by decide)).1; rw [tl_10] at q; exact q); have o9 := (p46.2.2.1 F10 iF10.1); have o10 := p46.2.2.2; have o11 := (q_addN (lo := (-1)) (hi := 1000245) e49 r_5 p46.1 (by decide)).1; have o12 := (q_subN (lo := (-49)) (hi := 1000197) e52 r_6 rl_48 (by decide)).1; have o13 := iF10.2; have o14 := iG10.2; have o15 := q_1r; have o16 := r_8; have o17 := r_4; have o18 := r_5; have o19 := p46.1; have o20 := r_6; have o21 := r_7; have o22 := r_9; have l23 := tl_1; have l24 := tl_5; have l25 := tl_48; unfold q_r at o13 o14 o15 o16 o17 o18 o19 o20 o21 o22; omega))
      intro c24
      have r_10 := (q_addN (lo := 5) (hi := 265) e23 q_1r rl_5 (by decide)).2
      replace hF := fx_eq1 hF rfl rfl c24
      refine q_aload_n (pc := 27) hG dX12_readsNumber_27 0 rfl ?_
      refine q_iconst (pc := 28) hG dX12_readsNumber_28 ki_2 ?_
      refine q_aload_n (pc := 29) hG dX12_readsNumber_29 0 rfl ?_
      refine q_getV (pc := 30) (v := .int F10) hG fl_X12_126 dX12_readsNumber_30 tA0 iF10.1 ?_
      refine q_cVi (pc := 33) [.int 2, .int F10] [] hG (c_X12_wrongAt τ σ10 a0 2 F10 hS10.1 tA0) my_X12_wrongAt mv_X12_wrongAt w888 dX12_readsNumber_33 tA0 (by decide) rfl rfl (Nat.le_of_ble_eq_true rfl) (by decide) (fun v33 s33 p33 => ?_)
      have w33 := hS10.trans p33.1 rfl
      have fq33 := p33.2.2
      rewrite [tl_2] at fq33
      replace hF := fx_C hF fq33
      exact q_zrt hG hE dX12_readsNumber_36 (q_r.mono p33.2.1 (by decide)) ⟨w33, (q_r.mono p33.2.1 (by decide)), (fx_end hF hF0), (fun x e => by have q := e.symm.trans q_1f; cases q; exact fun q => absurd q (by have o0 := p33.2.1; unfold q_r at o0; omega))⟩
  refine q_lv [1, 0] rfl ?_
  exact J10 ((260 - q_1v.toInt).toNat + 1) s7 q_1v 0 w7 ⟨(by rw [u7]; exact (q_up_else (Or.inr (by decide))).trans q_1f), q_1r⟩ ⟨m7, (q_r.mono rl_0 (by decide))⟩ (by have o0 := q_1r; have l1 := tl_0; unfold q_r at o0; omega) (Or.inr (q_hr_eq (by rw [u7]; exact q_up_else (Or.inr (by decide))) (by rw [u7]; exact q_up_else (Or.inr (by decide))) (by rw [u7]; exact q_up_else (Or.inr (by decide))) (fun b e => by cases e.symm.trans q_2f; rw [u7]; exact q_upK q_2T tA0 (by decide)))) (by rw [tl_0]; exact hF) (Nat.lt_succ_self _)
theorem dX12_readsFactor_0 : decode cX12_readsFactor 0 = .ok (.aload_n 0, 1) := by decide +kernel
theorem dX12_readsFactor_1 : decode cX12_readsFactor 1 = .ok (.invokevirtual 132, 3) := by decide +kernel
theorem dX12_readsFactor_4 : decode cX12_readsFactor 4 = .ok (.bipush 91, 2) := by decide +kernel
theorem dX12_readsFactor_6 : decode cX12_readsFactor 6 = .ok (.if_icmp .ne 14, 3) := by decide +kernel
theorem dX12_readsFactor_9 : decode cX12_readsFactor 9 = .ok (.aload_n 0, 1) := by decide +kernel
theorem dX12_readsFactor_10 : decode cX12_readsFactor 10 = .ok (.bipush 14, 2) := by decide +kernel
theorem dX12_readsFactor_12 : decode cX12_readsFactor 12 = .ok (.invokevirtual 167, 3) := by decide +kernel
theorem dX12_readsFactor_15 : decode cX12_readsFactor 15 = .ok (.ifCond .ne (-15), 3) := by decide +kernel
theorem dX12_readsFactor_18 : decode cX12_readsFactor 18 = .ok (.iconst 0, 1) := by decide +kernel
theorem dX12_readsFactor_19 : decode cX12_readsFactor 19 = .ok (.ireturn, 1) := by decide +kernel
theorem dX12_readsFactor_20 : decode cX12_readsFactor 20 = .ok (.aload_n 0, 1) := by decide +kernel
theorem dX12_readsFactor_21 : decode cX12_readsFactor 21 = .ok (.invokevirtual 146, 3) := by decide +kernel
theorem dX12_readsFactor_24 : decode cX12_readsFactor 24 = .ok (.ifCond .eq 23, 3) := by decide +kernel
theorem dX12_readsFactor_27 : decode cX12_readsFactor 27 = .ok (.aload_n 0, 1) := by decide +kernel
theorem dX12_readsFactor_28 : decode cX12_readsFactor 28 = .ok (.invokevirtual 170, 3) := by decide +kernel
theorem dX12_readsFactor_31 : decode cX12_readsFactor 31 = .ok (.ifCond .ne 5, 3) := by decide +kernel
theorem dX12_readsFactor_34 : decode cX12_readsFactor 34 = .ok (.iconst 0, 1) := by decide +kernel
theorem dX12_readsFactor_35 : decode cX12_readsFactor 35 = .ok (.ireturn, 1) := by decide +kernel
theorem dX12_readsFactor_36 : decode cX12_readsFactor 36 = .ok (.aload_n 0, 1) := by decide +kernel
theorem dX12_readsFactor_37 : decode cX12_readsFactor 37 = .ok (.iconst 0, 1) := by decide +kernel
theorem dX12_readsFactor_38 : decode cX12_readsFactor 38 = .ok (.aload_n 0, 1) := by decide +kernel
theorem dX12_readsFactor_39 : decode cX12_readsFactor 39 = .ok (.getfield 143, 3) := by decide +kernel
theorem dX12_readsFactor_42 : decode cX12_readsFactor 42 = .ok (.invokevirtual 163, 3) := by decide +kernel
theorem dX12_readsFactor_45 : decode cX12_readsFactor 45 = .ok (.iconst 1, 1) := by decide +kernel
theorem dX12_readsFactor_46 : decode cX12_readsFactor 46 = .ok (.ireturn, 1) := by decide +kernel
theorem dX12_readsFactor_47 : decode cX12_readsFactor 47 = .ok (.aload_n 0, 1) := by decide +kernel
theorem dX12_readsFactor_48 : decode cX12_readsFactor 48 = .ok (.invokevirtual 132, 3) := by decide +kernel
theorem dX12_readsFactor_51 : decode cX12_readsFactor 51 = .ok (.invokestatic 173, 3) := by decide +kernel
theorem dX12_readsFactor_54 : decode cX12_readsFactor 54 = .ok (.istore_n 1, 1) := by decide +kernel
theorem dX12_readsFactor_55 : decode cX12_readsFactor 55 = .ok (.iload_n 1, 1) := by decide +kernel
theorem dX12_readsFactor_56 : decode cX12_readsFactor 56 = .ok (.iconst (-1), 1) := by decide +kernel
theorem dX12_readsFactor_57 : decode cX12_readsFactor 57 = .ok (.if_icmp .ne 13, 3) := by decide +kernel
theorem dX12_readsFactor_60 : decode cX12_readsFactor 60 = .ok (.aload_n 0, 1) := by decide +kernel
theorem dX12_readsFactor_61 : decode cX12_readsFactor 61 = .ok (.iconst 1, 1) := by decide +kernel
theorem dX12_readsFactor_62 : decode cX12_readsFactor 62 = .ok (.aload_n 0, 1) := by decide +kernel
theorem dX12_readsFactor_63 : decode cX12_readsFactor 63 = .ok (.getfield 126, 3) := by decide +kernel
theorem dX12_readsFactor_66 : decode cX12_readsFactor 66 = .ok (.invokevirtual 139, 3) := by decide +kernel
theorem dX12_readsFactor_69 : decode cX12_readsFactor 69 = .ok (.ireturn, 1) := by decide +kernel
theorem dX12_readsFactor_70 : decode cX12_readsFactor 70 = .ok (.aload_n 0, 1) := by decide +kernel
theorem dX12_readsFactor_71 : decode cX12_readsFactor 71 = .ok (.iconst 1, 1) := by decide +kernel
theorem dX12_readsFactor_72 : decode cX12_readsFactor 72 = .ok (.iload_n 1, 1) := by decide +kernel
theorem dX12_readsFactor_73 : decode cX12_readsFactor 73 = .ok (.invokevirtual 163, 3) := by decide +kernel
theorem dX12_readsFactor_76 : decode cX12_readsFactor 76 = .ok (.aload_n 0, 1) := by decide +kernel
theorem dX12_readsFactor_77 : decode cX12_readsFactor 77 = .ok (.aload_n 0, 1) := by decide +kernel
theorem dX12_readsFactor_78 : decode cX12_readsFactor 78 = .ok (.getfield 126, 3) := by decide +kernel
theorem dX12_readsFactor_81 : decode cX12_readsFactor 81 = .ok (.iconst 1, 1) := by decide +kernel
theorem dX12_readsFactor_82 : decode cX12_readsFactor 82 = .ok (.iadd, 1) := by decide +kernel
theorem dX12_readsFactor_83 : decode cX12_readsFactor 83 = .ok (.putfield 126, 3) := by decide +kernel
theorem dX12_readsFactor_86 : decode cX12_readsFactor 86 = .ok (.iconst 1, 1) := by decide +kernel
theorem dX12_readsFactor_87 : decode cX12_readsFactor 87 = .ok (.ireturn, 1) := by decide +kernel
def md_X12_readsFactor : List (Nat × Nat) := [(10, 5), (10, 7), (10, 8), (10, 9), (10, 10), (10, 11), (150, 0), (151, 0)]
set_option maxRecDepth 100000 in
set_option maxHeartbeats 4000000 in
theorem c_X12_readsFactor {l : Launch} {D : q_D} (τ : q_T) (σ : q_V) (a0 : Nat) (hI : q_I τ σ) (tA0 : τ a0 = some (10, 1)) (bs bw : Nat) (hbs : σ a0 15 = .ref bs) (hbw : σ a0 16 = .ref bw) (Tbs : τ bs = some (150, 260)) (Tbw : τ bw = some (151, 260)) (cq wq pq : Int32) (hcq : σ a0 10 = .int cq) (hwq : σ a0 11 = .int wq) (hpq : σ a0 5 = .int pq) (S0 : Nat → Value) (F : Nat) (K base Dd : Int) (hQ : q_sm (σ bs) (σ bw) S0 F cq.toInt wq.toInt K pq.toInt base Dd) : q_Ci l D yX12_readsFactor cX12_readsFactor 2 (some .boolean) 3 61 τ σ [.ref a0] (fun r σ1 => q_S md_X12_readsFactor τ σ σ1 ∧ (q_r r 0 1) ∧ ((r.toInt, fx_N σ1) = f_X12_readsFactor (fx_N σ) a0) ∧ (r.toInt = 1 → q_x (∃ c1 w1 p1 : Int32, (σ1 a0 10 = .int c1 ∧ σ1 a0 11 = .int w1 ∧ σ1 a0 5 = .int p1) ∧ q_sm (σ1 bs) (σ1 bw) S0 F c1.toInt w1.toInt K p1.toInt base (Dd + 1) ∧ pq.toInt < p1.toInt ∧ wq.toInt ≤ w1.toInt ∧ (∀ j : Nat, (j : Int) < wq.toInt → σ1 bw j = σ bw j) ∧ ∀ j : Nat, wq.toInt ≤ (j : Int) → (j : Int) < w1.toInt → q_kd (σ1 bw j) = 14))) := by
  refine q_meti rfl (Nat.le_of_ble_eq_true rfl) (fun X hG hE => ?_)
  show q_O X 0 0 τ σ 0 [(0, .ref a0)] []
  have hS0 : q_S md_X12_readsFactor τ σ σ := q_S.rf hI
  obtain ⟨Fv, hF⟩ : ∃ z, fx_eq z (f_X12_readsFactor (fx_N σ) a0) := ⟨_, fx_rf⟩
  have hF0 := hF
  unfold f_X12_readsFactor at hF
  replace hF := fx_R hF hbs rfl
  replace hF := fx_R hF hbw rfl
  replace hF := fx_I hF hcq rfl
  replace hF := fx_I hF hwq rfl
  replace hF := fx_I hF hpq rfl
  have J0 : ∀ (n0 : Nat) (σ0 : q_V) (cq0 : Int32) (wq0 : Int32) (pq0 : Int32), (q_S md_X12_readsFactor τ σ σ0) → ((σ0 a0 10 = .int cq0 ∧ σ0 a0 11 = .int wq0 ∧ σ0 a0 5 = .int pq0) ∧ q_sm (σ0 bs) (σ0 bw) S0 F cq0.toInt wq0.toInt K pq0.toInt base Dd ∧ (wq.toInt ≤ wq0.toInt ∧ pq.toInt ≤ pq0.toInt ∧ (∀ j : Nat, (j : Int) < wq.toInt → σ0 bw j = σ bw j) ∧ ∀ j : Nat, wq.toInt ≤ (j : Int) → (j : Int) < wq0.toInt → q_kd (σ0 bw j) = 14)) → (fx_eq Fv (kL_X12_readsFactor_0 a0 n0 (fx_N σ0) cq0.toInt wq0.toInt pq0.toInt)) → ((260 - pq0.toInt).toNat < n0) → q_O X 0 0 τ σ0 0 [(0, .ref a0)] [] := by
    intro n0
    induction n0 with
    | zero => intro σ0 cq0 wq0 pq0 hS0 iQ0 hF hm0; exact absurd hm0 (Nat.not_lt_zero _)
    | succ n0 ih0 =>
      intro σ0 cq0 wq0 pq0 hS0 iQ0 hF hm0
      replace hF := (show fx_eq Fv (kB_X12_readsFactor_0 (kL_X12_readsFactor_0 a0 n0) a0 (fx_N σ0) cq0.toInt wq0.toInt pq0.toInt) from hF)
      unfold kB_X12_readsFactor_0 at hF
      refine q_aload_n (pc := 0) hG dX12_readsFactor_0 0 rfl ?_
      refine q_pV (pc := 1) [] [] hG (c_X12_here τ σ0 a0 hS0.1 tA0) my_X12_here mv_X12_here w879 dX12_readsFactor_1 tA0 (by decide) rfl rfl (Nat.le_of_ble_eq_true rfl) (by decide) (fun v1 p1 => ?_)
      replace hF := fx_E hF p1.2.1
      refine q_bipush (pc := 4) hG dX12_readsFactor_4 kb_91 ?_
      refine q_icmp_ne (pc := 6) hG 20 dX12_readsFactor_6 rfl ?_ ?_
      · intro c6
        replace hF := fx_eq2 hF rfl tl_91 c6
        refine q_aload_n (pc := 20) hG dX12_readsFactor_20 0 rfl ?_
        refine q_pV (pc := 21) [] [] hG (c_X12_isDigit τ σ0 a0 hS0.1 tA0) my_X12_isDigit mv_X12_isDigit w885 dX12_readsFactor_21 tA0 (by decide) rfl rfl (Nat.le_of_ble_eq_true rfl) (by decide) (fun v21 p21 => ?_)
        replace hF := fx_E hF p21.2.1
        refine q_if_eq (pc := 24) hG 47 dX12_readsFactor_24 rfl ?_ ?_
        · intro c24
          replace hF := fx_eq1 hF rfl rfl c24
          refine q_aload_n (pc := 47) hG dX12_readsFactor_47 0 rfl ?_
          refine q_pV (pc := 48) [] [] hG (c_X12_here τ σ0 a0 hS0.1 tA0) my_X12_here mv_X12_here w879 dX12_readsFactor_48 tA0 (by decide) rfl rfl (Nat.le_of_ble_eq_true rfl) (by decide) (fun v48 p48 => ?_)
          replace hF := fx_E hF p48.2.1
          refine q_pS (pc := 51) [.int v48] [] hG (c_X12_factOf τ σ0 v48 hS0.1) my_X12_factOf w924 w923 dX12_readsFactor_51 rfl rfl (Nat.le_of_ble_eq_true rfl) (by decide) (fun v51 p51 => ?_)
          replace hF := fx_E hF p51.2.1
          refine q_istore_n (pc := 54) [(1, .int v51), (0, .ref a0)] hG dX12_readsFactor_54 (by decide) rfl ?_
          refine q_iload_n (pc := 55) hG dX12_readsFactor_55 0 rfl ?_
          refine q_iconst (pc := 56) hG dX12_readsFactor_56 ki_m1 ?_
          refine q_icmp_ne (pc := 57) hG 70 dX12_readsFactor_57 rfl ?_ ?_
          · intro c57
            replace hF := fx_eq2 hF rfl tl_m1 c57
            refine q_aload_n (pc := 70) hG dX12_readsFactor_70 1 rfl ?_
            refine q_iconst (pc := 71) hG dX12_readsFactor_71 ki_1 ?_
            refine q_iload_n (pc := 72) hG dX12_readsFactor_72 0 rfl ?_
            have r_1 := q_neL (c := 0) p51.1 (q_nel c57 tl_m1) (by decide)
            have r_2 := (show q_r cq 0 260 from ⟨by have q := hQ.rng; omega, by have q := hQ.rng; omega⟩)
            have r_3 := (show q_r cq0 0 260 from ⟨by have q := iQ0.2.1.rng; omega, by have q := iQ0.2.1.rng; omega⟩)
            have r_4 := (show q_r pq 0 260 from ⟨by have q := hQ.rng; omega, by have q := hQ.rng; omega⟩)
            have r_5 := (show q_r pq0 0 260 from ⟨by have q := iQ0.2.1.rng; omega, by have q := iQ0.2.1.rng; omega⟩)
            have r_6 := q_zeq c24
            have r_7 := (show q_r wq 0 260 from ⟨by have q := hQ.rng; omega, by have q := hQ.rng; omega⟩)
            have r_8 := (show q_r wq0 0 260 from ⟨by have q := iQ0.2.1.rng; omega, by have q := iQ0.2.1.rng; omega⟩)
            refine q_cVv (pc := 73) [.int 1, .int v51] [] hG (c_X12_notes τ σ0 a0 1 v51 hS0.1 tA0 (q_r.mono rl_1 (by decide)) (q_r.mono r_1 (by decide)) bs (hS0.same tA0 rfl hbs) Tbs cq0 iQ0.1.1 (show q_r cq0 0 259 from ⟨(by have o0 := iQ0.2.1.rng; have o1 := iQ0.2.2.1; have o2 := iQ0.2.2.2.1; have o3 := (p1.2.2.1 pq0 iQ0.1.2.2); have o4 := p1.2.2.2; have o5 := c6; have o6 := p21.2.2.2; have o7 := c24; have o8 := p48.2.2.2; have o9 := p51.2.2; have o10 := c57; have o11 := hQ.rng; have o12 := r_2; have o13 := r_3; have o14 := r_4; have o15 := r_5; have o16 := p1.1; have o17 := r_6; have o18 := p48.1; have o19 := r_1; have o20 := r_7; have o21 := r_8; have l22 := tl_m1; have l23 := tl_91; unfold q_r at o12 o13 o14 o15 o16 o17 o18 o19 o20 o21; omega), (by have o0 := iQ0.2.1.rng; have o1 := iQ0.2.2.1; have o2 := iQ0.2.2.2.1; have o3 := (p1.2.2.1 pq0 iQ0.1.2.2); have o4 := p1.2.2.2; have o5 := c6; have o6 := p21.2.2.2; have o7 := c24; have o8 := p48.2.2.2; have o9 := p51.2.2; have o10 := c57; have o11 := hQ.rng; have o12 := r_2; have o13 := r_3; have o14 := r_4; have o15 := r_5; have o16 := p1.1; have o17 := r_6; have o18 := p48.1; have o19 := r_1; have o20 := r_7; have o21 := r_8; have l22 := tl_m1; have l23 := tl_91; unfold q_r at o12 o13 o14 o15 o16 o17 o18 o19 o20 o21; omega)⟩)) my_X12_notes mv_X12_notes w920 dX12_readsFactor_73 tA0 (by decide) rfl rfl (Nat.le_of_ble_eq_true rfl) (by decide) (fun s73 p73 => ?_)
            have w73 := hS0.trans p73.1 rfl
            have fq73 := p73.2.1
            rewrite [tl_1] at fq73
            replace hF := fx_S hF fq73
            obtain ⟨xn73, c1_73, en73, fx73, fc1_73, gc1_73⟩ := p73.2.2
            replace hF := fx_I hF fc1_73 rfl
            refine q_aload_n (pc := 76) hG dX12_readsFactor_76 1 rfl ?_
            refine q_aload_n (pc := 77) hG dX12_readsFactor_77 1 rfl ?_
            refine q_getV (pc := 78) (v := .int pq0) hG fl_X12_126 dX12_readsFactor_78 tA0 (p73.1.same tA0 rfl iQ0.1.2.2) ?_
            refine q_iconst (pc := 81) hG dX12_readsFactor_81 ki_1 ?_
            refine q_iadd (pc := 82) hG dX12_readsFactor_82 (fun v82 e82 => ?_)
            replace hF := fx_add hF rfl tl_1 (q_addN (lo := 1) (hi := 261) e82 r_5 rl_1 (by decide)).1
            have r_9 := (show q_r c1_73 1 260 from ⟨by have q := gc1_73; have q2 := (show q_r cq0 0 259 from ⟨(by have o0 := iQ0.2.1.rng; have o1 := iQ0.2.2.1; have o2 := iQ0.2.2.2.1; have o3 := (p1.2.2.1 pq0 iQ0.1.2.2); have o4 := p1.2.2.2; have o5 := c6; have o6 := p21.2.2.2; have o7 := c24; have o8 := p48.2.2.2; have o9 := p51.2.2; have o10 := c57; have o11 := hQ.rng; have o12 := r_2; have o13 := r_3; have o14 := r_4; have o15 := r_5; have o16 := p1.1; have o17 := r_6; have o18 := p48.1; have o19 := r_1; have o20 := r_7; have o21 := r_8; have l22 := tl_m1; have l23 := tl_91; unfold q_r at o12 o13 o14 o15 o16 o17 o18 o19 o20 o21; omega), (by have o0 := iQ0.2.1.rng; have o1 := iQ0.2.2.1; have o2 := iQ0.2.2.2.1; have o3 := (p1.2.2.1 pq0 iQ0.1.2.2); have o4 := p1.2.2.2; have o5 := c6; have o6 := p21.2.2.2; have o7 := c24; have o8 := p48.2.2.2; have o9 := p51.2.2; have o10 := c57; have o11 := hQ.rng; have o12 := r_2; have o13 := r_3; have o14 := r_4; have o15 := r_5; have o16 := p1.1; have o17 := r_6; have o18 := p48.1; have o19 := r_1; have o20 := r_7; have o21 := r_8; have l22 := tl_m1; have l23 := tl_91; unfold q_r at o12 o13 o14 o15 o16 o17 o18 o19 o20 o21; omega)⟩); unfold q_r at q2; omega, by have q := gc1_73; have q2 := (show q_r cq0 0 259 from ⟨(by have o0 := iQ0.2.1.rng; have o1 := iQ0.2.2.1; have o2 := iQ0.2.2.2.1; have o3 := (p1.2.2.1 pq0 iQ0.1.2.2); have o4 := p1.2.2.2; have o5 := c6; have o6 := p21.2.2.2; have o7 := c24; have o8 := p48.2.2.2; have o9 := p51.2.2; have o10 := c57; have o11 := hQ.rng; have o12 := r_2; have o13 := r_3; have o14 := r_4; have o15 := r_5; have o16 := p1.1; have o17 := r_6; have o18 := p48.1; have o19 := r_1; have o20 := r_7; have o21 := r_8; have l22 := tl_m1; have l23 := tl_91; unfold q_r at o12 o13 o14 o15 o16 o17 o18 o19 o20 o21; omega), (by have o0 := iQ0.2.1.rng; have o1 := iQ0.2.2.1; have o2 := iQ0.2.2.2.1; have o3 := (p1.2.2.1 pq0 iQ0.1.2.2); have o4 := p1.2.2.2; have o5 := c6; have o6 := p21.2.2.2; have o7 := c24; have o8 := p48.2.2.2; have o9 := p51.2.2; have o10 := c57; have o11 := hQ.rng; have o12 := r_2; have o13 := r_3; have o14 := r_4; have o15 := r_5; have o16 := p1.1; have o17 := r_6; have o18 := p48.1; have o19 := r_1; have o20 := r_7; have o21 := r_8; have l22 := tl_m1; have l23 := tl_91; unfold q_r at o12 o13 o14 o15 o16 o17 o18 o19 o20 o21; omega)⟩); unfold q_r at q2; omega⟩)
            have r_10 := (q_addN (lo := 1) (hi := 261) e82 r_5 rl_1 (by decide)).2
            refine q_putI (pc := 83) hG fl_X12_126 dX12_readsFactor_83 w73 tA0 ff_10_5 (show q_r v82 0 260 from ⟨(by have o0 := (q_addN (lo := 1) (hi := 261) e82 r_5 rl_1 (by decide)).1; have o1 := iQ0.2.1.rng; have o2 := iQ0.2.2.1; have o3 := iQ0.2.2.2.1; have o4 := (p1.2.2.1 pq0 iQ0.1.2.2); have o5 := p1.2.2.2; have o6 := c6; have o7 := p21.2.2.2; have o8 := c24; have o9 := p48.2.2.2; have o10 := p51.2.2; have o11 := c57; have o12 := gc1_73; have o13 := fx73; have o14 := hQ.rng; have o15 := r_9; have o16 := r_2; have o17 := r_3; have o18 := r_4; have o19 := r_5; have o20 := p1.1; have o21 := r_6; have o22 := p48.1; have o23 := r_1; have o24 := r_10; have o25 := r_7; have o26 := r_8; have l27 := tl_m1; have l28 := tl_1; have l29 := tl_91; unfold q_r at o15 o16 o17 o18 o19 o20 o21 o22 o23 o24 o25 o26; omega), (by have o0 := (q_addN (lo := 1) (hi := 261) e82 r_5 rl_1 (by decide)).1; have o1 := iQ0.2.1.rng; have o2 := iQ0.2.2.1; have o3 := iQ0.2.2.2.1; have o4 := (p1.2.2.1 pq0 iQ0.1.2.2); have o5 := p1.2.2.2; have o6 := c6; have o7 := p21.2.2.2; have o8 := c24; have o9 := p48.2.2.2; have o10 := p51.2.2; have o11 := c57; have o12 := gc1_73; have o13 := fx73; have o14 := hQ.rng; have o15 := r_9; have o16 := r_2; have o17 := r_3; have o18 := r_4; have o19 := r_5; have o20 := p1.1; have o21 := r_6; have o22 := p48.1; have o23 := r_1; have o24 := r_10; have o25 := r_7; have o26 := r_8; have l27 := tl_m1; have l28 := tl_1; have l29 := tl_91; unfold q_r at o15 o16 o17 o18 o19 o20 o21 o22 o23 o24 o25 o26; omega)⟩) (by decide) rfl (fun s83 u83 w83 => ?_)
            replace hF := fx_P hF u83 rfl rfl
            have m83 : s83 a0 5 = .int v82 := by rw [u83]; exact q_up_same
            have Q83 : q_sm (s83 bs) (s83 bw) S0 F c1_73.toInt wq0.toInt K v82.toInt base (Dd + 1) := by
              rw [(by rw [u83]; exact q_upK Tbs tA0 (by decide) : s83 bs = s73 bs), en73, ((by rw [u83]; exact q_upK Tbw tA0 (by decide) : s83 bw = s73 bw).trans ((funext fun j => p73.1.2.arr Tbw (by decide) rfl) : s73 bw = σ0 bw)), gc1_73]
              exact iQ0.2.1.num ⟨(by have o0 := fx73; have o1 := p51.2.2; have o2 := c57; have o3 := p48.2.2.2; have o4 := (q_addN (lo := 1) (hi := 261) e82 r_5 rl_1 (by decide)).1; have o5 := iQ0.2.1.rng; have o6 := iQ0.2.2.1; have o7 := iQ0.2.2.2.1; have o8 := (p1.2.2.1 pq0 iQ0.1.2.2); have o9 := p1.2.2.2; have o10 := c6; have o11 := p21.2.2.2; have o12 := c24; have o13 := gc1_73; have o14 := hQ.rng; have o15 := r_9; have o16 := r_2; have o17 := r_3; have o18 := r_4; have o19 := r_5; have o20 := p1.1; have o21 := r_6; have o22 := p48.1; have o23 := r_1; have o24 := r_10; have o25 := r_7; have o26 := r_8; have l27 := tl_m1; have l28 := tl_1; have l29 := tl_91; unfold q_r at o15 o16 o17 o18 o19 o20 o21 o22 o23 o24 o25 o26; omega), Or.inr ⟨(by have o0 := fx73; have o1 := p51.2.2; have o2 := c57; have o3 := p48.2.2.2; have o4 := (q_addN (lo := 1) (hi := 261) e82 r_5 rl_1 (by decide)).1; have o5 := iQ0.2.1.rng; have o6 := iQ0.2.2.1; have o7 := iQ0.2.2.2.1; have o8 := (p1.2.2.1 pq0 iQ0.1.2.2); have o9 := p1.2.2.2; have o10 := c6; have o11 := p21.2.2.2; have o12 := c24; have o13 := gc1_73; have o14 := hQ.rng; have o15 := r_9; have o16 := r_2; have o17 := r_3; have o18 := r_4; have o19 := r_5; have o20 := p1.1; have o21 := r_6; have o22 := p48.1; have o23 := r_1; have o24 := r_10; have o25 := r_7; have o26 := r_8; have l27 := tl_m1; have l28 := tl_1; have l29 := tl_91; unfold q_r at o15 o16 o17 o18 o19 o20 o21 o22 o23 o24 o25 o26; omega), (by have o0 := fx73; have o1 := p51.2.2; have o2 := c57; have o3 := p48.2.2.2; have o4 := (q_addN (lo := 1) (hi := 261) e82 r_5 rl_1 (by decide)).1; have o5 := iQ0.2.1.rng; have o6 := iQ0.2.2.1; have o7 := iQ0.2.2.2.1; have o8 := (p1.2.2.1 pq0 iQ0.1.2.2); have o9 := p1.2.2.2; have o10 := c6; have o11 := p21.2.2.2; have o12 := c24; have o13 := gc1_73; have o14 := hQ.rng; have o15 := r_9; have o16 := r_2; have o17 := r_3; have o18 := r_4; have o19 := r_5; have o20 := p1.1; have o21 := r_6; have o22 := p48.1; have o23 := r_1; have o24 := r_10; have o25 := r_7; have o26 := r_8; have l27 := tl_m1; have l28 := tl_1; have l29 := tl_91; unfold q_r at o15 o16 o17 o18 o19 o20 o21 o22 o23 o24 o25 o26; omega)⟩⟩ (by have o0 := iQ0.2.1.rng; have o1 := iQ0.2.2.1; have o2 := iQ0.2.2.2.1; have o3 := (p1.2.2.1 pq0 iQ0.1.2.2); have o4 := p1.2.2.2; have o5 := c6; have o6 := p21.2.2.2; have o7 := c24; have o8 := p48.2.2.2; have o9 := p51.2.2; have o10 := c57; have o11 := gc1_73; have o12 := fx73; have o13 := (q_addN (lo := 1) (hi := 261) e82 r_5 rl_1 (by decide)).1; have o14 := hQ.rng; have o15 := r_9; have o16 := r_2; have o17 := r_3; have o18 := r_4; have o19 := r_5; have o20 := p1.1; have o21 := r_6; have o22 := p48.1; have o23 := r_1; have o24 := r_10; have o25 := r_7; have o26 := r_8; have l27 := tl_m1; have l28 := tl_1; have l29 := tl_91; unfold q_r at o15 o16 o17 o18 o19 o20 o21 o22 o23 o24 o25 o26; omega) (by have o0 := (q_addN (lo := 1) (hi := 261) e82 r_5 rl_1 (by decide)).1; have o1 := iQ0.2.1.rng; have o2 := iQ0.2.2.1; have o3 := iQ0.2.2.2.1; have o4 := (p1.2.2.1 pq0 iQ0.1.2.2); have o5 := p1.2.2.2; have o6 := c6; have o7 := p21.2.2.2; have o8 := c24; have o9 := p48.2.2.2; have o10 := p51.2.2; have o11 := c57; have o12 := gc1_73; have o13 := fx73; have o14 := hQ.rng; have o15 := r_9; have o16 := r_2; have o17 := r_3; have o18 := r_4; have o19 := r_5; have o20 := p1.1; have o21 := r_6; have o22 := p48.1; have o23 := r_1; have o24 := r_10; have o25 := r_7; have o26 := r_8; have l27 := tl_m1; have l28 := tl_1; have l29 := tl_91; unfold q_r at o15 o16 o17 o18 o19 o20 o21 o22 o23 o24 o25 o26; omega)
            refine q_iconst (pc := 86) hG dX12_readsFactor_86 ki_1 ?_
            have r_11 := (show q_r v82 0 260 from ⟨by have q := Q83.rng; omega, by have q := Q83.rng; omega⟩)
            exact q_zrt hG hE dX12_readsFactor_87 (q_r.mono rl_1 (by decide)) ⟨w83, (q_r.mono rl_1 (by decide)), (by rw [tl_1]; exact fx_end hF hF0), (fun _ => q_x.mk ⟨c1_73, wq0, v82, ⟨(by rw [u83]; exact (q_up_else (Or.inr (by decide))).trans fc1_73), (by rw [u83]; exact (q_up_else (Or.inr (by decide))).trans (p73.1.same tA0 rfl iQ0.1.2.1)), m83⟩, Q83, (by have o0 := hQ.rng; have o1 := iQ0.2.2.1; have o2 := iQ0.2.2.2.1; have o3 := (p1.2.2.1 pq0 iQ0.1.2.2); have o4 := p1.2.2.2; have o5 := c6; have o6 := p21.2.2.2; have o7 := c24; have o8 := p48.2.2.2; have o9 := p51.2.2; have o10 := c57; have o11 := fx73; have o12 := (q_addN (lo := 1) (hi := 261) e82 r_5 rl_1 (by decide)).1; have o13 := Q83.rng; have o14 := iQ0.2.1.rng; have o15 := gc1_73; have o16 := r_9; have o17 := r_2; have o18 := r_3; have o19 := r_4; have o20 := r_5; have o21 := p1.1; have o22 := r_6; have o23 := p48.1; have o24 := r_1; have o25 := r_11; have o26 := r_7; have o27 := r_8; have l28 := tl_m1; have l29 := tl_1; have l30 := tl_91; unfold q_r at o16 o17 o18 o19 o20 o21 o22 o23 o24 o25 o26 o27; omega), (by have o0 := hQ.rng; have o1 := iQ0.2.1.rng; have o2 := iQ0.2.2.1; have o3 := iQ0.2.2.2.1; have o4 := (p1.2.2.1 pq0 iQ0.1.2.2); have o5 := p1.2.2.2; have o6 := c6; have o7 := p21.2.2.2; have o8 := c24; have o9 := p48.2.2.2; have o10 := p51.2.2; have o11 := c57; have o12 := gc1_73; have o13 := fx73; have o14 := (q_addN (lo := 1) (hi := 261) e82 r_5 rl_1 (by decide)).1; have o15 := Q83.rng; have o16 := r_9; have o17 := r_2; have o18 := r_3; have o19 := r_4; have o20 := r_5; have o21 := p1.1; have o22 := r_6; have o23 := p48.1; have o24 := r_1; have o25 := r_11; have o26 := r_7; have o27 := r_8; have l28 := tl_m1; have l29 := tl_1; have l30 := tl_91; unfold q_r at o16 o17 o18 o19 o20 o21 o22 o23 o24 o25 o26 o27; omega), (fun j hj => by rw [((by rw [u83]; exact q_upK Tbw tA0 (by decide) : s83 bw = s73 bw).trans ((funext fun j => p73.1.2.arr Tbw (by decide) rfl) : s73 bw = σ0 bw))]; exact iQ0.2.2.2.2.1 j hj), (fun j j1 j2 => by rw [((by rw [u83]; exact q_upK Tbw tA0 (by decide) : s83 bw = s73 bw).trans ((funext fun j => p73.1.2.arr Tbw (by decide) rfl) : s73 bw = σ0 bw))]; exact iQ0.2.2.2.2.2 j j1 j2)⟩)⟩
          intro c57
          replace hF := fx_eq1 hF rfl tl_m1 c57
          refine q_aload_n (pc := 60) hG dX12_readsFactor_60 1 rfl ?_
          refine q_iconst (pc := 61) hG dX12_readsFactor_61 ki_1 ?_
          refine q_aload_n (pc := 62) hG dX12_readsFactor_62 1 rfl ?_
          refine q_getV (pc := 63) (v := .int pq0) hG fl_X12_126 dX12_readsFactor_63 tA0 iQ0.1.2.2 ?_
          refine q_cVi (pc := 66) [.int 1, .int pq0] [] hG (c_X12_wrongAt τ σ0 a0 1 pq0 hS0.1 tA0) my_X12_wrongAt mv_X12_wrongAt w888 dX12_readsFactor_66 tA0 (by decide) rfl rfl (Nat.le_of_ble_eq_true rfl) (by decide) (fun v66 s66 p66 => ?_)
          have w66 := hS0.trans p66.1 rfl
          have fq66 := p66.2.2
          rewrite [tl_1] at fq66
          replace hF := fx_C hF fq66
          exact q_zrt hG hE dX12_readsFactor_69 (q_r.mono p66.2.1 (by decide)) ⟨w66, (q_r.mono p66.2.1 (by decide)), (fx_end hF hF0), (fun q => absurd q (by have o0 := p66.2.1; unfold q_r at o0; omega))⟩
        intro c24
        replace hF := fx_eq2 hF rfl rfl c24
        refine q_aload_n (pc := 27) hG dX12_readsFactor_27 0 rfl ?_
        refine q_cVi (pc := 28) [] [] hG (c_X12_readsNumber τ σ0 a0 hS0.1 tA0) my_X12_readsNumber mv_X12_readsNumber w917 dX12_readsFactor_28 tA0 (by decide) rfl rfl (Nat.le_of_ble_eq_true rfl) (by decide) (fun v28 s28 p28 => ?_)
        have w28 := hS0.trans p28.1 rfl
        replace hF := fx_C hF p28.2.2.1
        refine q_if_ne (pc := 31) hG 36 dX12_readsFactor_31 rfl ?_ ?_
        · intro c31
          have g_12 := (p28.2.2.2 pq0 iQ0.1.2.2) (q_one p28.2.1 c31)
          obtain ⟨y28, n28, fy28, fn28, ry28, ly28, rn28, dg28⟩ := g_12
          replace hF := fx_eq2 hF rfl rfl c31
          replace hF := fx_I hF fy28 rfl
          replace hF := fx_I hF fn28 rfl
          refine q_aload_n (pc := 36) hG dX12_readsFactor_36 0 rfl ?_
          refine q_iconst (pc := 37) hG dX12_readsFactor_37 ki_0 ?_
          refine q_aload_n (pc := 38) hG dX12_readsFactor_38 0 rfl ?_
          refine q_getV (pc := 39) (v := .int n28) hG fl_X12_143 dX12_readsFactor_39 tA0 fn28 ?_
          have r_13 := (show q_r cq 0 260 from ⟨by have q := hQ.rng; omega, by have q := hQ.rng; omega⟩)
          have r_14 := (show q_r cq0 0 260 from ⟨by have q := iQ0.2.1.rng; omega, by have q := iQ0.2.1.rng; omega⟩)
          have r_15 := (show q_r pq 0 260 from ⟨by have q := hQ.rng; omega, by have q := hQ.rng; omega⟩)
          have r_16 := (show q_r pq0 0 260 from ⟨by have q := iQ0.2.1.rng; omega, by have q := iQ0.2.1.rng; omega⟩)
          have r_17 := q_neL (c := 1) p21.1 c24 (by decide)
          have r_18 := (show q_r wq 0 260 from ⟨by have q := hQ.rng; omega, by have q := hQ.rng; omega⟩)
          have r_19 := (show q_r wq0 0 260 from ⟨by have q := iQ0.2.1.rng; omega, by have q := iQ0.2.1.rng; omega⟩)
          refine q_cVv (pc := 42) [.int 0, .int n28] [] hG (c_X12_notes τ s28 a0 0 n28 w28.1 tA0 (q_r.mono rl_0 (by decide)) rn28 bs (w28.same tA0 rfl hbs) Tbs cq0 (p28.1.same tA0 rfl iQ0.1.1) (show q_r cq0 0 259 from ⟨(by have o0 := iQ0.2.1.rng; have o1 := iQ0.2.2.1; have o2 := iQ0.2.2.2.1; have o3 := (p1.2.2.1 pq0 iQ0.1.2.2); have o4 := p1.2.2.2; have o5 := c6; have o6 := p21.2.2.2; have o7 := c24; have o8 := ly28; have o9 := dg28; have o10 := hQ.rng; have o11 := r_13; have o12 := r_14; have o13 := r_15; have o14 := r_16; have o15 := p1.1; have o16 := r_17; have o17 := r_18; have o18 := r_19; have o19 := ry28; have l20 := tl_91; unfold q_r at o11 o12 o13 o14 o15 o16 o17 o18 o19; omega), (by have o0 := iQ0.2.1.rng; have o1 := iQ0.2.2.1; have o2 := iQ0.2.2.2.1; have o3 := (p1.2.2.1 pq0 iQ0.1.2.2); have o4 := p1.2.2.2; have o5 := c6; have o6 := p21.2.2.2; have o7 := c24; have o8 := ly28; have o9 := dg28; have o10 := hQ.rng; have o11 := r_13; have o12 := r_14; have o13 := r_15; have o14 := r_16; have o15 := p1.1; have o16 := r_17; have o17 := r_18; have o18 := r_19; have o19 := ry28; have l20 := tl_91; unfold q_r at o11 o12 o13 o14 o15 o16 o17 o18 o19; omega)⟩)) my_X12_notes mv_X12_notes w920 dX12_readsFactor_42 tA0 (by decide) rfl rfl (Nat.le_of_ble_eq_true rfl) (by decide) (fun s42 p42 => ?_)
          have w42 := w28.trans p42.1 rfl
          have fq42 := p42.2.1
          rewrite [tl_0] at fq42
          replace hF := fx_S hF fq42
          obtain ⟨xn42, c1_42, en42, fx42, fc1_42, gc1_42⟩ := p42.2.2
          replace hF := fx_I hF fc1_42 rfl
          have r_20 := (show q_r c1_42 1 260 from ⟨by have q := gc1_42; have q2 := (show q_r cq0 0 259 from ⟨(by have o0 := iQ0.2.1.rng; have o1 := iQ0.2.2.1; have o2 := iQ0.2.2.2.1; have o3 := (p1.2.2.1 pq0 iQ0.1.2.2); have o4 := p1.2.2.2; have o5 := c6; have o6 := p21.2.2.2; have o7 := c24; have o8 := ly28; have o9 := dg28; have o10 := hQ.rng; have o11 := r_13; have o12 := r_14; have o13 := r_15; have o14 := r_16; have o15 := p1.1; have o16 := r_17; have o17 := r_18; have o18 := r_19; have o19 := ry28; have l20 := tl_91; unfold q_r at o11 o12 o13 o14 o15 o16 o17 o18 o19; omega), (by have o0 := iQ0.2.1.rng; have o1 := iQ0.2.2.1; have o2 := iQ0.2.2.2.1; have o3 := (p1.2.2.1 pq0 iQ0.1.2.2); have o4 := p1.2.2.2; have o5 := c6; have o6 := p21.2.2.2; have o7 := c24; have o8 := ly28; have o9 := dg28; have o10 := hQ.rng; have o11 := r_13; have o12 := r_14; have o13 := r_15; have o14 := r_16; have o15 := p1.1; have o16 := r_17; have o17 := r_18; have o18 := r_19; have o19 := ry28; have l20 := tl_91; unfold q_r at o11 o12 o13 o14 o15 o16 o17 o18 o19; omega)⟩); unfold q_r at q2; omega, by have q := gc1_42; have q2 := (show q_r cq0 0 259 from ⟨(by have o0 := iQ0.2.1.rng; have o1 := iQ0.2.2.1; have o2 := iQ0.2.2.2.1; have o3 := (p1.2.2.1 pq0 iQ0.1.2.2); have o4 := p1.2.2.2; have o5 := c6; have o6 := p21.2.2.2; have o7 := c24; have o8 := ly28; have o9 := dg28; have o10 := hQ.rng; have o11 := r_13; have o12 := r_14; have o13 := r_15; have o14 := r_16; have o15 := p1.1; have o16 := r_17; have o17 := r_18; have o18 := r_19; have o19 := ry28; have l20 := tl_91; unfold q_r at o11 o12 o13 o14 o15 o16 o17 o18 o19; omega), (by have o0 := iQ0.2.1.rng; have o1 := iQ0.2.2.1; have o2 := iQ0.2.2.2.1; have o3 := (p1.2.2.1 pq0 iQ0.1.2.2); have o4 := p1.2.2.2; have o5 := c6; have o6 := p21.2.2.2; have o7 := c24; have o8 := ly28; have o9 := dg28; have o10 := hQ.rng; have o11 := r_13; have o12 := r_14; have o13 := r_15; have o14 := r_16; have o15 := p1.1; have o16 := r_17; have o17 := r_18; have o18 := r_19; have o19 := ry28; have l20 := tl_91; unfold q_r at o11 o12 o13 o14 o15 o16 o17 o18 o19; omega)⟩); unfold q_r at q2; omega⟩)
          have Q42 : q_sm (s42 bs) (s42 bw) S0 F c1_42.toInt wq0.toInt K y28.toInt base (Dd + 1) := by
            rw [en42, ((funext fun j => p28.1.2.arr Tbs (by decide) rfl) : s28 bs = σ0 bs), (((funext fun j => p42.1.2.arr Tbw (by decide) rfl) : s42 bw = s28 bw).trans ((funext fun j => p28.1.2.arr Tbw (by decide) rfl) : s28 bw = σ0 bw)), gc1_42]
            exact iQ0.2.1.num ⟨(by have o0 := fx42; have o1 := rn28; have l2 := tl_0; unfold q_r at o1; omega), Or.inl (by have o0 := fx42; have o1 := rn28; have l2 := tl_0; unfold q_r at o1; omega)⟩ (by have o0 := iQ0.2.1.rng; have o1 := iQ0.2.2.1; have o2 := iQ0.2.2.2.1; have o3 := (p1.2.2.1 pq0 iQ0.1.2.2); have o4 := p1.2.2.2; have o5 := c6; have o6 := p21.2.2.2; have o7 := c24; have o8 := ly28; have o9 := dg28; have o10 := gc1_42; have o11 := hQ.rng; have o12 := r_20; have o13 := r_13; have o14 := r_14; have o15 := r_15; have o16 := r_16; have o17 := p1.1; have o18 := r_17; have o19 := r_18; have o20 := r_19; have o21 := ry28; have l22 := tl_91; unfold q_r at o12 o13 o14 o15 o16 o17 o18 o19 o20 o21; omega) (by have o0 := ly28; have o1 := dg28; have o2 := iQ0.2.1.rng; have o3 := iQ0.2.2.1; have o4 := iQ0.2.2.2.1; have o5 := (p1.2.2.1 pq0 iQ0.1.2.2); have o6 := p1.2.2.2; have o7 := c6; have o8 := p21.2.2.2; have o9 := c24; have o10 := gc1_42; have o11 := hQ.rng; have o12 := r_20; have o13 := r_13; have o14 := r_14; have o15 := r_15; have o16 := r_16; have o17 := p1.1; have o18 := r_17; have o19 := r_18; have o20 := r_19; have o21 := ry28; have l22 := tl_91; unfold q_r at o12 o13 o14 o15 o16 o17 o18 o19 o20 o21; omega)
          refine q_iconst (pc := 45) hG dX12_readsFactor_45 ki_1 ?_
          exact q_zrt hG hE dX12_readsFactor_46 (q_r.mono rl_1 (by decide)) ⟨w42, (q_r.mono rl_1 (by decide)), (by rw [tl_1]; exact fx_end hF hF0), (fun _ => q_x.mk ⟨c1_42, wq0, y28, ⟨fc1_42, (p42.1.same tA0 rfl (p28.1.same tA0 rfl iQ0.1.2.1)), (p42.1.same tA0 rfl fy28)⟩, Q42, (by have o0 := hQ.rng; have o1 := iQ0.2.2.1; have o2 := iQ0.2.2.2.1; have o3 := (p1.2.2.1 pq0 iQ0.1.2.2); have o4 := p1.2.2.2; have o5 := c6; have o6 := p21.2.2.2; have o7 := c24; have o8 := ly28; have o9 := dg28; have o10 := Q42.rng; have o11 := iQ0.2.1.rng; have o12 := gc1_42; have o13 := r_20; have o14 := r_13; have o15 := r_14; have o16 := r_15; have o17 := r_16; have o18 := p1.1; have o19 := r_17; have o20 := r_18; have o21 := r_19; have o22 := ry28; have l23 := tl_91; unfold q_r at o13 o14 o15 o16 o17 o18 o19 o20 o21 o22; omega), (by have o0 := hQ.rng; have o1 := iQ0.2.1.rng; have o2 := iQ0.2.2.1; have o3 := iQ0.2.2.2.1; have o4 := (p1.2.2.1 pq0 iQ0.1.2.2); have o5 := p1.2.2.2; have o6 := c6; have o7 := p21.2.2.2; have o8 := c24; have o9 := ly28; have o10 := dg28; have o11 := gc1_42; have o12 := Q42.rng; have o13 := r_20; have o14 := r_13; have o15 := r_14; have o16 := r_15; have o17 := r_16; have o18 := p1.1; have o19 := r_17; have o20 := r_18; have o21 := r_19; have o22 := ry28; have l23 := tl_91; unfold q_r at o13 o14 o15 o16 o17 o18 o19 o20 o21 o22; omega), (fun j hj => by rw [(((funext fun j => p42.1.2.arr Tbw (by decide) rfl) : s42 bw = s28 bw).trans ((funext fun j => p28.1.2.arr Tbw (by decide) rfl) : s28 bw = σ0 bw))]; exact iQ0.2.2.2.2.1 j hj), (fun j j1 j2 => by rw [(((funext fun j => p42.1.2.arr Tbw (by decide) rfl) : s42 bw = s28 bw).trans ((funext fun j => p28.1.2.arr Tbw (by decide) rfl) : s28 bw = σ0 bw))]; exact iQ0.2.2.2.2.2 j j1 j2)⟩)⟩
        intro c31
        replace hF := fx_eq1 hF rfl rfl c31
        refine q_iconst (pc := 34) hG dX12_readsFactor_34 ki_0 ?_
        exact q_zrt hG hE dX12_readsFactor_35 (q_r.mono rl_0 (by decide)) ⟨w28, (q_r.mono rl_0 (by decide)), (by rw [tl_0]; exact fx_end hF hF0), (fun q => absurd q (by have l0 := tl_0; omega))⟩
      intro c6
      replace hF := fx_eq1 hF rfl tl_91 c6
      refine q_aload_n (pc := 9) hG dX12_readsFactor_9 0 rfl ?_
      refine q_bipush (pc := 10) hG dX12_readsFactor_10 kb_14 ?_
      have r_21 := (show q_r cq 0 260 from ⟨by have q := hQ.rng; omega, by have q := hQ.rng; omega⟩)
      have r_22 := (show q_r cq0 0 260 from ⟨by have q := iQ0.2.1.rng; omega, by have q := iQ0.2.1.rng; omega⟩)
      have r_23 := (show q_r pq 0 260 from ⟨by have q := hQ.rng; omega, by have q := hQ.rng; omega⟩)
      have r_24 := (show q_r pq0 0 260 from ⟨by have q := iQ0.2.1.rng; omega, by have q := iQ0.2.1.rng; omega⟩)
      have r_25 := q_req rl_91 c6
      have r_26 := (show q_r wq 0 260 from ⟨by have q := hQ.rng; omega, by have q := hQ.rng; omega⟩)
      have r_27 := (show q_r wq0 0 260 from ⟨by have q := iQ0.2.1.rng; omega, by have q := iQ0.2.1.rng; omega⟩)
      refine q_cVi (pc := 12) [.int 14] [] hG (c_X12_opens τ σ0 a0 14 hS0.1 tA0 (q_r.mono rl_14 (by decide)) bw (hS0.same tA0 rfl hbw) Tbw wq0 pq0 iQ0.1.2.1 iQ0.1.2.2 (show q_r wq0 0 259 from ⟨(by have o0 := iQ0.2.1.rng; have o1 := iQ0.2.2.1; have o2 := iQ0.2.2.2.1; have o3 := (p1.2.2.1 pq0 iQ0.1.2.2); have o4 := p1.2.2.2; have o5 := c6; have o6 := hQ.rng; have o7 := r_21; have o8 := r_22; have o9 := r_23; have o10 := r_24; have o11 := r_25; have o12 := r_26; have o13 := r_27; have l14 := tl_91; unfold q_r at o7 o8 o9 o10 o11 o12 o13; omega), (by have o0 := iQ0.2.1.rng; have o1 := iQ0.2.2.1; have o2 := iQ0.2.2.2.1; have o3 := (p1.2.2.1 pq0 iQ0.1.2.2); have o4 := p1.2.2.2; have o5 := c6; have o6 := hQ.rng; have o7 := r_21; have o8 := r_22; have o9 := r_23; have o10 := r_24; have o11 := r_25; have o12 := r_26; have o13 := r_27; have l14 := tl_91; unfold q_r at o7 o8 o9 o10 o11 o12 o13; omega)⟩) (show q_r pq0 0 259 from ⟨(by have o0 := iQ0.2.1.rng; have o1 := iQ0.2.2.1; have o2 := iQ0.2.2.2.1; have o3 := (p1.2.2.1 pq0 iQ0.1.2.2); have o4 := p1.2.2.2; have o5 := c6; have o6 := hQ.rng; have o7 := r_21; have o8 := r_22; have o9 := r_23; have o10 := r_24; have o11 := r_25; have o12 := r_26; have o13 := r_27; have l14 := tl_91; unfold q_r at o7 o8 o9 o10 o11 o12 o13; omega), (by have o0 := iQ0.2.1.rng; have o1 := iQ0.2.2.1; have o2 := iQ0.2.2.2.1; have o3 := (p1.2.2.1 pq0 iQ0.1.2.2); have o4 := p1.2.2.2; have o5 := c6; have o6 := hQ.rng; have o7 := r_21; have o8 := r_22; have o9 := r_23; have o10 := r_24; have o11 := r_25; have o12 := r_26; have o13 := r_27; have l14 := tl_91; unfold q_r at o7 o8 o9 o10 o11 o12 o13; omega)⟩)) my_X12_opens mv_X12_opens w913 dX12_readsFactor_12 tA0 (by decide) rfl rfl (Nat.le_of_ble_eq_true rfl) (by decide) (fun v12 s12 p12 => ?_)
      have w12 := hS0.trans p12.1 rfl
      have fq12 := p12.2.2.1
      rewrite [tl_14] at fq12
      replace hF := fx_C hF fq12
      refine q_if_ne (pc := 15) hG 0 dX12_readsFactor_15 rfl ?_ ?_
      · intro c15
        have g_28 := p12.2.2.2 (q_one p12.2.1 c15)
        obtain ⟨y12, w1_12, p1_12, ey12, fy12, fw12, gw12, fp12, gp12⟩ := g_28
        have Q12 : q_sm (s12 bs) (s12 bw) S0 F cq0.toInt w1_12.toInt K p1_12.toInt base Dd := by
          rw [((funext fun j => p12.1.2.arr Tbs (by decide) rfl) : s12 bs = σ0 bs), ey12, gw12, gp12]
          exact iQ0.2.1.opn (by have o0 := fy12; have l1 := tl_14; omega) (by have o0 := iQ0.2.1.rng; have o1 := iQ0.2.2.1; have o2 := iQ0.2.2.2.1; have o3 := (p1.2.2.1 pq0 iQ0.1.2.2); have o4 := p1.2.2.2; have o5 := c6; have o6 := gw12; have o7 := gp12; have o8 := hQ.rng; have o9 := r_21; have o10 := r_22; have o11 := r_23; have o12 := r_24; have o13 := r_25; have o14 := r_26; have o15 := r_27; have l16 := tl_91; unfold q_r at o9 o10 o11 o12 o13 o14 o15; omega)
        replace hF := fx_eq2 hF rfl rfl c15
        replace hF := fx_I hF fw12 rfl
        replace hF := fx_I hF fp12 rfl
        refine q_lv [0] rfl ?_
        have r_29 := (show q_r p1_12 0 260 from ⟨by have q := Q12.rng; omega, by have q := Q12.rng; omega⟩)
        have r_30 := (show q_r w1_12 0 260 from ⟨by have q := Q12.rng; omega, by have q := Q12.rng; omega⟩)
        exact ih0 s12 cq0 w1_12 p1_12 w12 ⟨⟨(p12.1.same tA0 rfl iQ0.1.1), fw12, fp12⟩, Q12, ⟨(by have o0 := hQ.rng; have o1 := iQ0.2.1.rng; have o2 := iQ0.2.2.1; have o3 := iQ0.2.2.2.1; have o4 := (p1.2.2.1 pq0 iQ0.1.2.2); have o5 := p1.2.2.2; have o6 := c6; have o7 := gw12; have o8 := gp12; have o9 := Q12.rng; have o10 := r_21; have o11 := r_22; have o12 := r_29; have o13 := r_23; have o14 := r_24; have o15 := r_25; have o16 := r_30; have o17 := r_26; have o18 := r_27; have l19 := tl_91; unfold q_r at o10 o11 o12 o13 o14 o15 o16 o17 o18; omega), (by have o0 := hQ.rng; have o1 := iQ0.2.2.1; have o2 := iQ0.2.2.2.1; have o3 := (p1.2.2.1 pq0 iQ0.1.2.2); have o4 := p1.2.2.2; have o5 := c6; have o6 := gw12; have o7 := gp12; have o8 := Q12.rng; have o9 := iQ0.2.1.rng; have o10 := r_21; have o11 := r_22; have o12 := r_29; have o13 := r_23; have o14 := r_24; have o15 := r_25; have o16 := r_30; have o17 := r_26; have o18 := r_27; have l19 := tl_91; unfold q_r at o10 o11 o12 o13 o14 o15 o16 o17 o18; omega), fun j j1 => (by rw [ey12, q_uo (by have o0 := hQ.rng; have o1 := iQ0.2.1.rng; have o2 := iQ0.2.2.1; have o3 := iQ0.2.2.2.1; have o4 := (p1.2.2.1 pq0 iQ0.1.2.2); have o5 := p1.2.2.2; have o6 := c6; have o7 := gw12; have o8 := gp12; have o9 := Q12.rng; have o10 := r_21; have o11 := r_22; have o12 := r_29; have o13 := r_23; have o14 := r_24; have o15 := r_25; have o16 := r_30; have o17 := r_26; have o18 := r_27; have l19 := tl_91; unfold q_r at o10 o11 o12 o13 o14 o15 o16 o17 o18; omega)]; exact iQ0.2.2.2.2.1 j j1), fun j j1 j2 => Classical.byCases (fun e : j = wq0.toInt.toNat => (by rw [ey12, e, q_us]; exact (show y12.toInt / 1048576 = 14 from (by have o0 := fy12; have l1 := tl_14; omega)))) (fun e => (by rw [ey12, q_uo e]; exact iQ0.2.2.2.2.2 j j1 (by have o0 := iQ0.2.1.rng; have o1 := iQ0.2.2.1; have o2 := iQ0.2.2.2.1; have o3 := (p1.2.2.1 pq0 iQ0.1.2.2); have o4 := p1.2.2.2; have o5 := c6; have o6 := gw12; have o7 := gp12; have o8 := Q12.rng; have o9 := hQ.rng; have o10 := r_21; have o11 := r_22; have o12 := r_29; have o13 := r_23; have o14 := r_24; have o15 := r_25; have o16 := r_30; have o17 := r_26; have o18 := r_27; have l19 := tl_91; unfold q_r at o10 o11 o12 o13 o14 o15 o16 o17 o18; omega)))⟩⟩ hF (by have o0 := iQ0.2.1.rng; have o1 := iQ0.2.2.1; have o2 := iQ0.2.2.2.1; have o3 := (p1.2.2.1 pq0 iQ0.1.2.2); have o4 := p1.2.2.2; have o5 := c6; have o6 := gw12; have o7 := gp12; have o8 := Q12.rng; have o9 := hQ.rng; have o10 := r_21; have o11 := r_22; have o12 := r_29; have o13 := r_23; have o14 := r_24; have o15 := r_25; have o16 := r_30; have o17 := r_26; have o18 := r_27; have l19 := tl_91; have o20 := hm0; unfold q_r at o10 o11 o12 o13 o14 o15 o16 o17 o18; omega)
      intro c15
      replace hF := fx_eq1 hF rfl rfl c15
      refine q_iconst (pc := 18) hG dX12_readsFactor_18 ki_0 ?_
      exact q_zrt hG hE dX12_readsFactor_19 (q_r.mono rl_0 (by decide)) ⟨w12, (q_r.mono rl_0 (by decide)), (by rw [tl_0]; exact fx_end hF hF0), (fun q => absurd q (by have l0 := tl_0; omega))⟩
  refine q_lv [0] rfl ?_
  exact J0 ((260 - pq.toInt).toNat + 1) σ cq wq pq hS0 ⟨⟨hcq, hwq, hpq⟩, hQ, ⟨Int.le_refl _, Int.le_refl _, fun _ _ => rfl, fun j j1 j2 => absurd j2 (by omega)⟩⟩ hF (Nat.lt_succ_self _)
theorem dX12_readsSum_0 : decode cX12_readsSum 0 = .ok (.aload_n 0, 1) := by decide +kernel
theorem dX12_readsSum_1 : decode cX12_readsSum 1 = .ok (.getfield 157, 3) := by decide +kernel
theorem dX12_readsSum_4 : decode cX12_readsSum 4 = .ok (.istore_n 1, 1) := by decide +kernel
theorem dX12_readsSum_5 : decode cX12_readsSum 5 = .ok (.aload_n 0, 1) := by decide +kernel
theorem dX12_readsSum_6 : decode cX12_readsSum 6 = .ok (.invokevirtual 177, 3) := by decide +kernel
theorem dX12_readsSum_9 : decode cX12_readsSum 9 = .ok (.ifCond .ne 5, 3) := by decide +kernel
theorem dX12_readsSum_12 : decode cX12_readsSum 12 = .ok (.iconst 0, 1) := by decide +kernel
theorem dX12_readsSum_13 : decode cX12_readsSum 13 = .ok (.ireturn, 1) := by decide +kernel
theorem dX12_readsSum_14 : decode cX12_readsSum 14 = .ok (.aload_n 0, 1) := by decide +kernel
theorem dX12_readsSum_15 : decode cX12_readsSum 15 = .ok (.invokevirtual 132, 3) := by decide +kernel
theorem dX12_readsSum_18 : decode cX12_readsSum 18 = .ok (.invokestatic 180, 3) := by decide +kernel
theorem dX12_readsSum_21 : decode cX12_readsSum 21 = .ok (.istore_n 2, 1) := by decide +kernel
theorem dX12_readsSum_22 : decode cX12_readsSum 22 = .ok (.iload_n 2, 1) := by decide +kernel
theorem dX12_readsSum_23 : decode cX12_readsSum 23 = .ok (.iconst (-1), 1) := by decide +kernel
theorem dX12_readsSum_24 : decode cX12_readsSum 24 = .ok (.if_icmp .eq 59, 3) := by decide +kernel
theorem dX12_readsSum_27 : decode cX12_readsSum 27 = .ok (.aload_n 0, 1) := by decide +kernel
theorem dX12_readsSum_28 : decode cX12_readsSum 28 = .ok (.iload_n 2, 1) := by decide +kernel
theorem dX12_readsSum_29 : decode cX12_readsSum 29 = .ok (.iconst 4, 1) := by decide +kernel
theorem dX12_readsSum_30 : decode cX12_readsSum 30 = .ok (.if_icmp .ge 7, 3) := by decide +kernel
theorem dX12_readsSum_33 : decode cX12_readsSum 33 = .ok (.iconst 1, 1) := by decide +kernel
theorem dX12_readsSum_34 : decode cX12_readsSum 34 = .ok (.goto 4, 3) := by decide +kernel
theorem dX12_readsSum_37 : decode cX12_readsSum 37 = .ok (.iconst 0, 1) := by decide +kernel
theorem dX12_readsSum_38 : decode cX12_readsSum 38 = .ok (.invokevirtual 183, 3) := by decide +kernel
theorem dX12_readsSum_41 : decode cX12_readsSum 41 = .ok (.aload_n 0, 1) := by decide +kernel
theorem dX12_readsSum_42 : decode cX12_readsSum 42 = .ok (.getfield 26, 3) := by decide +kernel
theorem dX12_readsSum_45 : decode cX12_readsSum 45 = .ok (.aload_n 0, 1) := by decide +kernel
theorem dX12_readsSum_46 : decode cX12_readsSum 46 = .ok (.getfield 157, 3) := by decide +kernel
theorem dX12_readsSum_49 : decode cX12_readsSum 49 = .ok (.ldc 153, 2) := by decide +kernel
theorem dX12_readsSum_51 : decode cX12_readsSum 51 = .ok (.iload_n 2, 1) := by decide +kernel
theorem dX12_readsSum_52 : decode cX12_readsSum 52 = .ok (.imul, 1) := by decide +kernel
theorem dX12_readsSum_53 : decode cX12_readsSum 53 = .ok (.iastore, 1) := by decide +kernel
theorem dX12_readsSum_54 : decode cX12_readsSum 54 = .ok (.aload_n 0, 1) := by decide +kernel
theorem dX12_readsSum_55 : decode cX12_readsSum 55 = .ok (.aload_n 0, 1) := by decide +kernel
theorem dX12_readsSum_56 : decode cX12_readsSum 56 = .ok (.getfield 157, 3) := by decide +kernel
theorem dX12_readsSum_59 : decode cX12_readsSum 59 = .ok (.iconst 1, 1) := by decide +kernel
theorem dX12_readsSum_60 : decode cX12_readsSum 60 = .ok (.iadd, 1) := by decide +kernel
theorem dX12_readsSum_61 : decode cX12_readsSum 61 = .ok (.putfield 157, 3) := by decide +kernel
theorem dX12_readsSum_64 : decode cX12_readsSum 64 = .ok (.aload_n 0, 1) := by decide +kernel
theorem dX12_readsSum_65 : decode cX12_readsSum 65 = .ok (.aload_n 0, 1) := by decide +kernel
theorem dX12_readsSum_66 : decode cX12_readsSum 66 = .ok (.getfield 126, 3) := by decide +kernel
theorem dX12_readsSum_69 : decode cX12_readsSum 69 = .ok (.iconst 1, 1) := by decide +kernel
theorem dX12_readsSum_70 : decode cX12_readsSum 70 = .ok (.iadd, 1) := by decide +kernel
theorem dX12_readsSum_71 : decode cX12_readsSum 71 = .ok (.putfield 126, 3) := by decide +kernel
theorem dX12_readsSum_74 : decode cX12_readsSum 74 = .ok (.aload_n 0, 1) := by decide +kernel
theorem dX12_readsSum_75 : decode cX12_readsSum 75 = .ok (.invokevirtual 177, 3) := by decide +kernel
theorem dX12_readsSum_78 : decode cX12_readsSum 78 = .ok (.ifCond .ne 85, 3) := by decide +kernel
theorem dX12_readsSum_81 : decode cX12_readsSum 81 = .ok (.iconst 0, 1) := by decide +kernel
theorem dX12_readsSum_82 : decode cX12_readsSum 82 = .ok (.ireturn, 1) := by decide +kernel
theorem dX12_readsSum_83 : decode cX12_readsSum 83 = .ok (.aload_n 0, 1) := by decide +kernel
theorem dX12_readsSum_84 : decode cX12_readsSum 84 = .ok (.invokevirtual 132, 3) := by decide +kernel
theorem dX12_readsSum_87 : decode cX12_readsSum 87 = .ok (.bipush 93, 2) := by decide +kernel
theorem dX12_readsSum_89 : decode cX12_readsSum 89 = .ok (.if_icmp .ne 49, 3) := by decide +kernel
theorem dX12_readsSum_92 : decode cX12_readsSum 92 = .ok (.aload_n 0, 1) := by decide +kernel
theorem dX12_readsSum_93 : decode cX12_readsSum 93 = .ok (.iload_n 1, 1) := by decide +kernel
theorem dX12_readsSum_94 : decode cX12_readsSum 94 = .ok (.invokevirtual 187, 3) := by decide +kernel
theorem dX12_readsSum_97 : decode cX12_readsSum 97 = .ok (.ifCond .eq 41, 3) := by decide +kernel
theorem dX12_readsSum_100 : decode cX12_readsSum 100 = .ok (.aload_n 0, 1) := by decide +kernel
theorem dX12_readsSum_101 : decode cX12_readsSum 101 = .ok (.iconst 1, 1) := by decide +kernel
theorem dX12_readsSum_102 : decode cX12_readsSum 102 = .ok (.invokevirtual 183, 3) := by decide +kernel
theorem dX12_readsSum_105 : decode cX12_readsSum 105 = .ok (.aload_n 0, 1) := by decide +kernel
theorem dX12_readsSum_106 : decode cX12_readsSum 106 = .ok (.aload_n 0, 1) := by decide +kernel
theorem dX12_readsSum_107 : decode cX12_readsSum 107 = .ok (.getfield 157, 3) := by decide +kernel
theorem dX12_readsSum_110 : decode cX12_readsSum 110 = .ok (.iconst 1, 1) := by decide +kernel
theorem dX12_readsSum_111 : decode cX12_readsSum 111 = .ok (.isub, 1) := by decide +kernel
theorem dX12_readsSum_112 : decode cX12_readsSum 112 = .ok (.putfield 157, 3) := by decide +kernel
theorem dX12_readsSum_115 : decode cX12_readsSum 115 = .ok (.aload_n 0, 1) := by decide +kernel
theorem dX12_readsSum_116 : decode cX12_readsSum 116 = .ok (.aload_n 0, 1) := by decide +kernel
theorem dX12_readsSum_117 : decode cX12_readsSum 117 = .ok (.getfield 154, 3) := by decide +kernel
theorem dX12_readsSum_120 : decode cX12_readsSum 120 = .ok (.iconst 1, 1) := by decide +kernel
theorem dX12_readsSum_121 : decode cX12_readsSum 121 = .ok (.isub, 1) := by decide +kernel
theorem dX12_readsSum_122 : decode cX12_readsSum 122 = .ok (.putfield 154, 3) := by decide +kernel
theorem dX12_readsSum_125 : decode cX12_readsSum 125 = .ok (.aload_n 0, 1) := by decide +kernel
theorem dX12_readsSum_126 : decode cX12_readsSum 126 = .ok (.aload_n 0, 1) := by decide +kernel
theorem dX12_readsSum_127 : decode cX12_readsSum 127 = .ok (.getfield 126, 3) := by decide +kernel
theorem dX12_readsSum_130 : decode cX12_readsSum 130 = .ok (.iconst 1, 1) := by decide +kernel
theorem dX12_readsSum_131 : decode cX12_readsSum 131 = .ok (.iadd, 1) := by decide +kernel
theorem dX12_readsSum_132 : decode cX12_readsSum 132 = .ok (.putfield 126, 3) := by decide +kernel
theorem dX12_readsSum_135 : decode cX12_readsSum 135 = .ok (.goto 28, 3) := by decide +kernel
theorem dX12_readsSum_138 : decode cX12_readsSum 138 = .ok (.aload_n 0, 1) := by decide +kernel
theorem dX12_readsSum_139 : decode cX12_readsSum 139 = .ok (.iload_n 1, 1) := by decide +kernel
theorem dX12_readsSum_140 : decode cX12_readsSum 140 = .ok (.invokevirtual 187, 3) := by decide +kernel
theorem dX12_readsSum_143 : decode cX12_readsSum 143 = .ok (.ifCond .eq 13, 3) := by decide +kernel
theorem dX12_readsSum_146 : decode cX12_readsSum 146 = .ok (.aload_n 0, 1) := by decide +kernel
theorem dX12_readsSum_147 : decode cX12_readsSum 147 = .ok (.iconst 1, 1) := by decide +kernel
theorem dX12_readsSum_148 : decode cX12_readsSum 148 = .ok (.aload_n 0, 1) := by decide +kernel
theorem dX12_readsSum_149 : decode cX12_readsSum 149 = .ok (.getfield 126, 3) := by decide +kernel
theorem dX12_readsSum_152 : decode cX12_readsSum 152 = .ok (.invokevirtual 139, 3) := by decide +kernel
theorem dX12_readsSum_155 : decode cX12_readsSum 155 = .ok (.ireturn, 1) := by decide +kernel
theorem dX12_readsSum_156 : decode cX12_readsSum 156 = .ok (.aload_n 0, 1) := by decide +kernel
theorem dX12_readsSum_157 : decode cX12_readsSum 157 = .ok (.iconst 1, 1) := by decide +kernel
theorem dX12_readsSum_158 : decode cX12_readsSum 158 = .ok (.invokevirtual 183, 3) := by decide +kernel
theorem dX12_readsSum_161 : decode cX12_readsSum 161 = .ok (.iconst 1, 1) := by decide +kernel
theorem dX12_readsSum_162 : decode cX12_readsSum 162 = .ok (.ireturn, 1) := by decide +kernel
theorem dX12_readsSum_163 : decode cX12_readsSum 163 = .ok (.goto (-149), 3) := by decide +kernel
def md_X12_readsSum : List (Nat × Nat) := [(10, 5), (10, 7), (10, 8), (10, 9), (10, 10), (10, 11), (150, 0), (151, 0)]
set_option maxRecDepth 100000 in
set_option maxHeartbeats 4000000 in
theorem c_X12_readsSum {l : Launch} {D : q_D} (τ : q_T) (σ : q_V) (a0 : Nat) (hI : q_I τ σ) (tA0 : τ a0 = some (10, 1)) (bs bw : Nat) (hbs : σ a0 15 = .ref bs) (hbw : σ a0 16 = .ref bw) (Tbs : τ bs = some (150, 260)) (Tbw : τ bw = some (151, 260)) (cq wq pq : Int32) (hcq : σ a0 10 = .int cq) (hwq : σ a0 11 = .int wq) (hpq : σ a0 5 = .int pq) (S0 : Nat → Value) (F : Nat) (K Dd : Int) (hQ : q_sm (σ bs) (σ bw) S0 F cq.toInt wq.toInt K pq.toInt wq.toInt Dd) (hD : 0 ≤ Dd) : q_Ci l D yX12_readsSum cX12_readsSum 3 (some .boolean) 4 82 τ σ [.ref a0] (fun r σ1 => q_S md_X12_readsSum τ σ σ1 ∧ (q_r r 0 1) ∧ ((r.toInt, fx_N σ1) = f_X12_readsSum (fx_N σ) a0) ∧ (r.toInt = 1 → q_x (∃ c1 p1 : Int32, (σ1 a0 10 = .int c1 ∧ σ1 a0 11 = .int wq ∧ σ1 a0 5 = .int p1) ∧ q_sm (σ1 bs) (σ1 bw) S0 F c1.toInt wq.toInt K p1.toInt wq.toInt (Dd + 1) ∧ pq.toInt < p1.toInt ∧ ∀ j : Nat, (j : Int) < wq.toInt → σ1 bw j = σ bw j))) := by
  refine q_meti rfl (Nat.le_of_ble_eq_true rfl) (fun X hG hE => ?_)
  show q_O X 0 0 τ σ 0 [(0, .ref a0)] []
  have hS0 : q_S md_X12_readsSum τ σ σ := q_S.rf hI
  obtain ⟨Fv, hF⟩ : ∃ z, fx_eq z (f_X12_readsSum (fx_N σ) a0) := ⟨_, fx_rf⟩
  have hF0 := hF
  unfold f_X12_readsSum at hF
  replace hF := fx_R hF hbs rfl
  replace hF := fx_R hF hbw rfl
  replace hF := fx_I hF hcq rfl
  replace hF := fx_I hF hwq rfl
  replace hF := fx_I hF hpq rfl
  refine q_aload_n (pc := 0) hG dX12_readsSum_0 0 rfl ?_
  refine q_getV (pc := 1) (v := .int wq) hG fl_X12_157 dX12_readsSum_1 tA0 hwq ?_
  refine q_istore_n (pc := 4) [(1, .int wq), (0, .ref a0)] hG dX12_readsSum_4 (by decide) rfl ?_
  refine q_aload_n (pc := 5) hG dX12_readsSum_5 1 rfl ?_
  refine q_cVi (pc := 6) [] [] hG (c_X12_readsFactor τ σ a0 hI tA0 bs bw hbs hbw Tbs Tbw cq wq pq hcq hwq hpq S0 F (K) (wq.toInt) (Dd) hQ) my_X12_readsFactor mv_X12_readsFactor w910 dX12_readsSum_6 tA0 (by decide) rfl rfl (Nat.le_of_ble_eq_true rfl) (by decide) (fun v6 s6 p6 => ?_)
  have w6 := hS0.trans p6.1 rfl
  replace hF := fx_C hF p6.2.2.1
  have J14 : ∀ (n14 : Nat) (σ14 : q_V) (cq14 : Int32) (wq14 : Int32) (pq14 : Int32), (q_S md_X12_readsSum τ σ σ14) → ((σ14 a0 10 = .int cq14 ∧ σ14 a0 11 = .int wq14 ∧ σ14 a0 5 = .int pq14) ∧ q_sm (σ14 bs) (σ14 bw) S0 F cq14.toInt wq14.toInt K pq14.toInt wq.toInt (Dd + 1) ∧ (pq.toInt < pq14.toInt ∧ q_kn (σ bw) (σ14 bw) wq.toInt wq14.toInt)) → (fx_eq Fv (kL_X12_readsSum_14 a0 wq.toInt bw n14 (fx_N σ14) cq14.toInt wq14.toInt pq14.toInt)) → ((260 - pq14.toInt).toNat < n14) → q_O X 0 0 τ σ14 14 [(0, .ref a0), (1, .int wq)] [] := by
    intro n14
    induction n14 with
    | zero => intro σ14 cq14 wq14 pq14 hS14 iQ14 hF hm14; exact absurd hm14 (Nat.not_lt_zero _)
    | succ n14 ih14 =>
      intro σ14 cq14 wq14 pq14 hS14 iQ14 hF hm14
      replace hF := (show fx_eq Fv (kB_X12_readsSum_14 (kL_X12_readsSum_14 a0 wq.toInt bw n14) a0 wq.toInt bw (fx_N σ14) cq14.toInt wq14.toInt pq14.toInt) from hF)
      unfold kB_X12_readsSum_14 at hF
      refine q_aload_n (pc := 14) hG dX12_readsSum_14 0 rfl ?_
      refine q_pV (pc := 15) [] [] hG (c_X12_here τ σ14 a0 hS14.1 tA0) my_X12_here mv_X12_here w879 dX12_readsSum_15 tA0 (by decide) rfl rfl (Nat.le_of_ble_eq_true rfl) (by decide) (fun v15 p15 => ?_)
      replace hF := fx_E hF p15.2.1
      refine q_pS (pc := 18) [.int v15] [] hG (c_X12_sumSign τ σ14 v15 hS14.1) my_X12_sumSign w927 w926 dX12_readsSum_18 rfl rfl (Nat.le_of_ble_eq_true rfl) (by decide) (fun v18 p18 => ?_)
      replace hF := fx_E hF p18.2.1
      refine q_istore_n (pc := 21) [(2, .int v18), (0, .ref a0), (1, .int wq)] hG dX12_readsSum_21 (by decide) rfl ?_
      refine q_iload_n (pc := 22) hG dX12_readsSum_22 0 rfl ?_
      refine q_iconst (pc := 23) hG dX12_readsSum_23 ki_m1 ?_
      have J163 : ∀ (σ163 : q_V) (cq163 : Int32) (wq163 : Int32) (pq163 : Int32), (q_S md_X12_readsSum τ σ σ163) → ((σ163 a0 10 = .int cq163 ∧ σ163 a0 11 = .int wq163 ∧ σ163 a0 5 = .int pq163) ∧ q_sm (σ163 bs) (σ163 bw) S0 F cq163.toInt wq163.toInt K pq163.toInt wq.toInt (Dd + 1) ∧ (pq14.toInt < pq163.toInt ∧ (pq.toInt < pq163.toInt ∧ q_kn (σ bw) (σ163 bw) wq.toInt wq163.toInt))) → (fx_eq Fv (kJ_X12_readsSum_163 (kL_X12_readsSum_14 a0 wq.toInt bw n14) (fx_N σ163) cq163.toInt wq163.toInt pq163.toInt)) → q_O X 0 0 τ σ163 163 [(0, .ref a0), (1, .int wq)] [] := by
        intro σ163 cq163 wq163 pq163 hS163 iQ163 hF
        unfold kJ_X12_readsSum_163 at hF
        refine q_goto (pc := 163) 14 hG dX12_readsSum_163 rfl ?_
        refine q_lv [0, 1] rfl ?_
        have r_1 := (show q_r cq 0 260 from ⟨by have q := hQ.rng; omega, by have q := hQ.rng; omega⟩)
        have r_2 := (show q_r cq14 0 260 from ⟨by have q := iQ14.2.1.rng; omega, by have q := iQ14.2.1.rng; omega⟩)
        have r_3 := (show q_r cq163 0 260 from ⟨by have q := iQ163.2.1.rng; omega, by have q := iQ163.2.1.rng; omega⟩)
        have r_4 := (show q_r pq 0 260 from ⟨by have q := hQ.rng; omega, by have q := hQ.rng; omega⟩)
        have r_5 := (show q_r pq14 0 260 from ⟨by have q := iQ14.2.1.rng; omega, by have q := iQ14.2.1.rng; omega⟩)
        have r_6 := (show q_r pq163 0 260 from ⟨by have q := iQ163.2.1.rng; omega, by have q := iQ163.2.1.rng; omega⟩)
        have r_7 := (show q_r wq 0 260 from ⟨by have q := hQ.rng; omega, by have q := hQ.rng; omega⟩)
        have r_8 := (show q_r wq14 0 260 from ⟨by have q := iQ14.2.1.rng; omega, by have q := iQ14.2.1.rng; omega⟩)
        have r_9 := (show q_r wq163 0 260 from ⟨by have q := iQ163.2.1.rng; omega, by have q := iQ163.2.1.rng; omega⟩)
        exact ih14 σ163 cq163 wq163 pq163 hS163 ⟨⟨iQ163.1.1, iQ163.1.2.1, iQ163.1.2.2⟩, iQ163.2.1, ⟨(by have o0 := hQ.rng; have o1 := iQ14.2.2.1; have o2 := iQ14.2.1.rng; have o3 := (p15.2.2.1 pq14 iQ14.1.2.2); have o4 := p15.2.2.2; have o5 := p18.2.2; have o6 := iQ163.2.1.rng; have o7 := iQ163.2.2.1; have o8 := iQ163.2.2.2.1; have o9 := iQ163.2.1.rng; have o10 := iQ14.2.1.rng; have o11 := r_1; have o12 := r_2; have o13 := r_3; have o14 := r_4; have o15 := r_5; have o16 := r_6; have o17 := p15.1; have o18 := p18.1; have o19 := r_7; have o20 := r_8; have o21 := r_9; unfold q_r at o11 o12 o13 o14 o15 o16 o17 o18 o19 o20 o21; omega), iQ163.2.2.2.2⟩⟩ hF (by have o0 := iQ14.2.1.rng; have o1 := iQ14.2.2.1; have o2 := iQ14.2.1.rng; have o3 := (p15.2.2.1 pq14 iQ14.1.2.2); have o4 := p15.2.2.2; have o5 := p18.2.2; have o6 := iQ163.2.1.rng; have o7 := iQ163.2.2.1; have o8 := iQ163.2.2.2.1; have o9 := iQ163.2.1.rng; have o10 := hQ.rng; have o11 := r_1; have o12 := r_2; have o13 := r_3; have o14 := r_4; have o15 := r_5; have o16 := r_6; have o17 := p15.1; have o18 := p18.1; have o19 := r_7; have o20 := r_8; have o21 := r_9; have o22 := hm14; unfold q_r at o11 o12 o13 o14 o15 o16 o17 o18 o19 o20 o21; omega)
      refine q_icmp_eq (pc := 24) hG 83 dX12_readsSum_24 rfl ?_ ?_
      · intro c24
        replace hF := fx_eq1 hF rfl tl_m1 c24
        refine q_aload_n (pc := 83) hG dX12_readsSum_83 1 rfl ?_
        refine q_pV (pc := 84) [] [] hG (c_X12_here τ σ14 a0 hS14.1 tA0) my_X12_here mv_X12_here w879 dX12_readsSum_84 tA0 (by decide) rfl rfl (Nat.le_of_ble_eq_true rfl) (by decide) (fun v84 p84 => ?_)
        replace hF := fx_E hF p84.2.1
        refine q_bipush (pc := 87) hG dX12_readsSum_87 kb_93 ?_
        have J138 : (fx_eq Fv (kJ_X12_readsSum_138 (fx_N σ14) a0 wq.toInt pq14.toInt)) → q_O X 0 0 τ σ14 138 [(0, .ref a0), (1, .int wq)] [] := by
          intro hF
          unfold kJ_X12_readsSum_138 at hF
          refine q_aload_n (pc := 138) hG dX12_readsSum_138 0 rfl ?_
          refine q_iload_n (pc := 139) hG dX12_readsSum_139 1 rfl ?_
          have r_10 := (show q_r wq 0 260 from ⟨by have q := hQ.rng; omega, by have q := hQ.rng; omega⟩)
          have r_11 := (show q_r wq14 0 260 from ⟨by have q := iQ14.2.1.rng; omega, by have q := iQ14.2.1.rng; omega⟩)
          refine q_pV (pc := 140) [.int wq] [] hG (c_X12_hasOpenSum τ σ14 a0 wq hS14.1 tA0 r_10 bw (hS14.same tA0 rfl hbw) Tbw wq14 iQ14.1.2.1 r_11 (show q_sm (σ14 bs) (σ14 bw) S0 F cq14.toInt wq14.toInt K pq14.toInt wq.toInt (Dd + 1) from iQ14.2.1).1.wn) my_X12_hasOpenSum mv_X12_hasOpenSum w935 dX12_readsSum_140 tA0 (by decide) rfl rfl (Nat.le_of_ble_eq_true rfl) (by decide) (fun v140 p140 => ?_)
          replace hF := fx_E hF p140.2.1
          refine q_if_eq (pc := 143) hG 156 dX12_readsSum_143 rfl ?_ ?_
          · intro c143
            replace hF := fx_eq1 hF rfl rfl c143
            refine q_aload_n (pc := 156) hG dX12_readsSum_156 0 rfl ?_
            refine q_iconst (pc := 157) hG dX12_readsSum_157 ki_1 ?_
            refine q_cVv (pc := 158) [.int 1] [] hG (c_X12_closesSums τ σ14 a0 1 hS14.1 tA0 (q_r.mono rl_1 (by decide)) bs bw (hS14.same tA0 rfl hbs) (hS14.same tA0 rfl hbw) Tbs Tbw cq14 wq14 pq14 iQ14.1.1 iQ14.1.2.1 iQ14.1.2.2 S0 F (K) (wq.toInt) ((Dd + 1)) iQ14.2.1 (Int.le_add_of_nonneg_left hD)) my_X12_closesSums mv_X12_closesSums w929 dX12_readsSum_158 tA0 (by decide) rfl rfl (Nat.le_of_ble_eq_true rfl) (by decide) (fun s158 p158 => ?_)
            have w158 := hS14.trans p158.1 rfl
            have fq158 := p158.2.1
            rewrite [tl_1] at fq158
            replace hF := fx_S hF fq158
            obtain ⟨c2_158, w2_158, fc158, fw158, qq158, lw158, ls158, lt158⟩ := p158.2.2
            have Q158 : q_sm (s158 bs) (s158 bw) S0 F c2_158.toInt w2_158.toInt K pq14.toInt wq.toInt (Dd + 1) := by
              rw [((funext fun j => p158.1.2.arr Tbw (by decide) rfl) : s158 bw = σ14 bw)]
              exact qq158
            replace hF := fx_I hF fc158 rfl
            replace hF := fx_I hF fw158 rfl
            have K158 : q_kn (σ bw) (s158 bw) wq.toInt w2_158.toInt := (by rw [((funext fun j => p158.1.2.arr Tbw (by decide) rfl) : s158 bw = σ14 bw)]; exact q_kn.le iQ14.2.2.2 lw158)
            refine q_iconst (pc := 161) hG dX12_readsSum_161 ki_1 ?_
            have r_12 := (show q_r c2_158 0 260 from ⟨by have q := Q158.rng; omega, by have q := Q158.rng; omega⟩)
            have r_13 := (show q_r cq 0 260 from ⟨by have q := hQ.rng; omega, by have q := hQ.rng; omega⟩)
            have r_14 := (show q_r cq14 0 260 from ⟨by have q := iQ14.2.1.rng; omega, by have q := iQ14.2.1.rng; omega⟩)
            have r_15 := (show q_r pq 0 260 from ⟨by have q := hQ.rng; omega, by have q := hQ.rng; omega⟩)
            have r_16 := (show q_r pq14 0 260 from ⟨by have q := iQ14.2.1.rng; omega, by have q := iQ14.2.1.rng; omega⟩)
            have r_17 := q_req rl_m1 c24
            have r_18 := (show q_r w2_158 0 260 from ⟨by have q := Q158.rng; omega, by have q := Q158.rng; omega⟩)
            have r_19 := q_zeq c143
            have fi158 := q_kn.fin iQ14.2.2.2 lw158 (by have o0 := hQ.rng; have o1 := iQ14.2.2.1; have o2 := iQ14.2.1.rng; have o3 := (p15.2.2.1 pq14 iQ14.1.2.2); have o4 := p15.2.2.2; have o5 := p18.2.2; have o6 := c24; have o7 := p84.2.2.2; have o8 := lw158; have o9 := Q158.rng; have o10 := iQ14.2.1.rng; have o11 := r_12; have o12 := r_13; have o13 := r_14; have o14 := r_15; have o15 := r_16; have o16 := p15.1; have o17 := r_17; have o18 := p84.1; have o19 := r_18; have o20 := r_10; have o21 := r_11; have l22 := tl_m1; unfold q_r at o11 o12 o13 o14 o15 o16 o17 o18 o19 o20 o21; omega) (by have o0 := hQ.rng; have o1 := iQ14.2.2.1; have o2 := iQ14.2.1.rng; have o3 := (p15.2.2.1 pq14 iQ14.1.2.2); have o4 := p15.2.2.2; have o5 := p18.2.2; have o6 := c24; have o7 := p84.2.2.2; have o8 := lw158; have o9 := Q158.rng; have o10 := iQ14.2.1.rng; have o11 := r_12; have o12 := r_13; have o13 := r_14; have o14 := r_15; have o15 := r_16; have o16 := p15.1; have o17 := r_17; have o18 := p84.1; have o19 := r_18; have o20 := r_10; have o21 := r_11; have l22 := tl_m1; unfold q_r at o11 o12 o13 o14 o15 o16 o17 o18 o19 o20 o21; omega) (p140.2.2.2 (by have o0 := c143; have o1 := r_19; unfold q_r at o1; omega)) (lt158 rfl)
            have fe158 : w2_158 = wq := Int32.toInt_inj.mp fi158
            exact q_zrt hG hE dX12_readsSum_162 (q_r.mono rl_1 (by decide)) ⟨w158, (q_r.mono rl_1 (by decide)), (by rw [tl_1]; exact fx_end hF hF0), (fun _ => q_x.mk ⟨c2_158, pq14, ⟨fc158, by rw [← fe158]; exact fw158, (p158.1.same tA0 rfl iQ14.1.2.2)⟩, by rw [← fi158]; exact (show q_sm (s158 bs) (s158 bw) S0 F c2_158.toInt w2_158.toInt K pq14.toInt w2_158.toInt (Dd + 1) from (by have q := Q158; rw [← fi158] at q; exact q)), (by have o0 := hQ.rng; have o1 := iQ14.2.1.rng; have o2 := iQ14.2.2.1; have o3 := iQ14.2.1.rng; have o4 := (p15.2.2.1 pq14 iQ14.1.2.2); have o5 := p15.2.2.2; have o6 := p18.2.2; have o7 := c24; have o8 := p84.2.2.2; have o9 := lw158; have o10 := Q158.rng; have o11 := r_12; have o12 := r_13; have o13 := r_14; have o14 := r_15; have o15 := r_16; have o16 := p15.1; have o17 := r_17; have o18 := p84.1; have o19 := r_18; have o20 := r_10; have o21 := r_11; have l22 := tl_m1; unfold q_r at o11 o12 o13 o14 o15 o16 o17 o18 o19 o20 o21; omega), K158.1⟩)⟩
          intro c143
          replace hF := fx_eq2 hF rfl rfl c143
          refine q_aload_n (pc := 146) hG dX12_readsSum_146 0 rfl ?_
          refine q_iconst (pc := 147) hG dX12_readsSum_147 ki_1 ?_
          refine q_aload_n (pc := 148) hG dX12_readsSum_148 0 rfl ?_
          refine q_getV (pc := 149) (v := .int pq14) hG fl_X12_126 dX12_readsSum_149 tA0 iQ14.1.2.2 ?_
          refine q_cVi (pc := 152) [.int 1, .int pq14] [] hG (c_X12_wrongAt τ σ14 a0 1 pq14 hS14.1 tA0) my_X12_wrongAt mv_X12_wrongAt w888 dX12_readsSum_152 tA0 (by decide) rfl rfl (Nat.le_of_ble_eq_true rfl) (by decide) (fun v152 s152 p152 => ?_)
          have w152 := hS14.trans p152.1 rfl
          have fq152 := p152.2.2
          rewrite [tl_1] at fq152
          replace hF := fx_C hF fq152
          exact q_zrt hG hE dX12_readsSum_155 (q_r.mono p152.2.1 (by decide)) ⟨w152, (q_r.mono p152.2.1 (by decide)), (fx_end hF hF0), (fun q => absurd q (by have o0 := p152.2.1; unfold q_r at o0; omega))⟩
        refine q_icmp_ne (pc := 89) hG 138 dX12_readsSum_89 rfl ?_ ?_
        · intro c89
          replace hF := fx_eq2 hF rfl tl_93 c89
          refine q_lv [1, 2] rfl ?_
          exact J138 hF
        intro c89
        replace hF := fx_eq1 hF rfl tl_93 c89
        refine q_aload_n (pc := 92) hG dX12_readsSum_92 1 rfl ?_
        refine q_iload_n (pc := 93) hG dX12_readsSum_93 2 rfl ?_
        have r_20 := (show q_r wq 0 260 from ⟨by have q := hQ.rng; omega, by have q := hQ.rng; omega⟩)
        have r_21 := (show q_r wq14 0 260 from ⟨by have q := iQ14.2.1.rng; omega, by have q := iQ14.2.1.rng; omega⟩)
        refine q_pV (pc := 94) [.int wq] [] hG (c_X12_hasOpenSum τ σ14 a0 wq hS14.1 tA0 r_20 bw (hS14.same tA0 rfl hbw) Tbw wq14 iQ14.1.2.1 r_21 (show q_sm (σ14 bs) (σ14 bw) S0 F cq14.toInt wq14.toInt K pq14.toInt wq.toInt (Dd + 1) from iQ14.2.1).1.wn) my_X12_hasOpenSum mv_X12_hasOpenSum w935 dX12_readsSum_94 tA0 (by decide) rfl rfl (Nat.le_of_ble_eq_true rfl) (by decide) (fun v94 p94 => ?_)
        replace hF := fx_E hF p94.2.1
        refine q_if_eq (pc := 97) hG 138 dX12_readsSum_97 rfl ?_ ?_
        · intro c97
          replace hF := fx_eq1 hF rfl rfl c97
          refine q_lv [1, 2] rfl ?_
          exact J138 hF
        intro c97
        replace hF := fx_eq2 hF rfl rfl c97
        refine q_aload_n (pc := 100) hG dX12_readsSum_100 1 rfl ?_
        refine q_iconst (pc := 101) hG dX12_readsSum_101 ki_1 ?_
        refine q_cVv (pc := 102) [.int 1] [] hG (c_X12_closesSums τ σ14 a0 1 hS14.1 tA0 (q_r.mono rl_1 (by decide)) bs bw (hS14.same tA0 rfl hbs) (hS14.same tA0 rfl hbw) Tbs Tbw cq14 wq14 pq14 iQ14.1.1 iQ14.1.2.1 iQ14.1.2.2 S0 F (K) (wq.toInt) ((Dd + 1)) iQ14.2.1 (Int.le_add_of_nonneg_left hD)) my_X12_closesSums mv_X12_closesSums w929 dX12_readsSum_102 tA0 (by decide) rfl rfl (Nat.le_of_ble_eq_true rfl) (by decide) (fun s102 p102 => ?_)
        have w102 := hS14.trans p102.1 rfl
        have fq102 := p102.2.1
        rewrite [tl_1] at fq102
        replace hF := fx_S hF fq102
        obtain ⟨c2_102, w2_102, fc102, fw102, qq102, lw102, ls102, lt102⟩ := p102.2.2
        have Q102 : q_sm (s102 bs) (s102 bw) S0 F c2_102.toInt w2_102.toInt K pq14.toInt wq.toInt (Dd + 1) := by
          rw [((funext fun j => p102.1.2.arr Tbw (by decide) rfl) : s102 bw = σ14 bw)]
          exact qq102
        replace hF := fx_I hF fc102 rfl
        replace hF := fx_I hF fw102 rfl
        have K102 : q_kn (σ bw) (s102 bw) wq.toInt w2_102.toInt := (by rw [((funext fun j => p102.1.2.arr Tbw (by decide) rfl) : s102 bw = σ14 bw)]; exact q_kn.le iQ14.2.2.2 lw102)
        have r_22 := (show q_r c2_102 0 260 from ⟨by have q := Q102.rng; omega, by have q := Q102.rng; omega⟩)
        have r_23 := (show q_r cq 0 260 from ⟨by have q := hQ.rng; omega, by have q := hQ.rng; omega⟩)
        have r_24 := (show q_r cq14 0 260 from ⟨by have q := iQ14.2.1.rng; omega, by have q := iQ14.2.1.rng; omega⟩)
        have r_25 := (show q_r pq 0 260 from ⟨by have q := hQ.rng; omega, by have q := hQ.rng; omega⟩)
        have r_26 := (show q_r pq14 0 260 from ⟨by have q := iQ14.2.1.rng; omega, by have q := iQ14.2.1.rng; omega⟩)
        have r_27 := q_req rl_m1 c24
        have r_28 := q_req rl_93 c89
        have r_29 := (show q_r w2_102 0 260 from ⟨by have q := Q102.rng; omega, by have q := Q102.rng; omega⟩)
        have r_30 := q_neL (c := 1) p94.1 c97 (by decide)
        have to102 := q_kn.top iQ14.2.2.2 lw102 (by have o0 := hQ.rng; have o1 := iQ14.2.2.1; have o2 := iQ14.2.1.rng; have o3 := (p15.2.2.1 pq14 iQ14.1.2.2); have o4 := p15.2.2.2; have o5 := p18.2.2; have o6 := c24; have o7 := p84.2.2.2; have o8 := c89; have o9 := lw102; have o10 := Q102.rng; have o11 := iQ14.2.1.rng; have o12 := r_22; have o13 := r_23; have o14 := r_24; have o15 := r_25; have o16 := r_26; have o17 := p15.1; have o18 := r_27; have o19 := r_28; have o20 := r_29; have o21 := r_20; have o22 := r_21; have l23 := tl_m1; have l24 := tl_93; unfold q_r at o12 o13 o14 o15 o16 o17 o18 o19 o20 o21 o22; omega) (p94.2.2.1 (by have o0 := c97; have o1 := r_30; unfold q_r at o1; omega)) ls102 (lt102 rfl)
        refine q_aload_n (pc := 105) hG dX12_readsSum_105 1 rfl ?_
        refine q_aload_n (pc := 106) hG dX12_readsSum_106 1 rfl ?_
        refine q_getV (pc := 107) (v := .int w2_102) hG fl_X12_157 dX12_readsSum_107 tA0 fw102 ?_
        refine q_iconst (pc := 110) hG dX12_readsSum_110 ki_1 ?_
        refine q_isub (pc := 111) hG dX12_readsSum_111 (fun v111 e111 => ?_)
        replace hF := fx_sub hF rfl tl_1 (q_subN (lo := (-1)) (hi := 259) e111 r_29 rl_1 (by decide)).1
        have r_31 := (q_subN (lo := (-1)) (hi := 259) e111 r_29 rl_1 (by decide)).2
        refine q_putI (pc := 112) hG fl_X12_157 dX12_readsSum_112 w102 tA0 ff_10_11 (show q_r v111 0 260 from ⟨(by have o0 := (q_subN (lo := (-1)) (hi := 259) e111 r_29 rl_1 (by decide)).1; have o1 := lw102; have o2 := Q102.rng; have o3 := to102.1; have o4 := hQ.rng; have o5 := iQ14.2.1.rng; have o6 := iQ14.2.2.1; have o7 := iQ14.2.1.rng; have o8 := (p15.2.2.1 pq14 iQ14.1.2.2); have o9 := p15.2.2.2; have o10 := p18.2.2; have o11 := c24; have o12 := p84.2.2.2; have o13 := c89; have o14 := r_22; have o15 := r_23; have o16 := r_24; have o17 := r_25; have o18 := r_26; have o19 := r_31; have o20 := p15.1; have o21 := r_27; have o22 := r_28; have o23 := r_29; have o24 := r_20; have o25 := r_21; have l26 := tl_m1; have l27 := tl_1; have l28 := tl_93; unfold q_r at o14 o15 o16 o17 o18 o19 o20 o21 o22 o23 o24 o25; omega), (by have o0 := (q_subN (lo := (-1)) (hi := 259) e111 r_29 rl_1 (by decide)).1; have o1 := lw102; have o2 := Q102.rng; have o3 := to102.1; have o4 := hQ.rng; have o5 := iQ14.2.1.rng; have o6 := iQ14.2.2.1; have o7 := iQ14.2.1.rng; have o8 := (p15.2.2.1 pq14 iQ14.1.2.2); have o9 := p15.2.2.2; have o10 := p18.2.2; have o11 := c24; have o12 := p84.2.2.2; have o13 := c89; have o14 := r_22; have o15 := r_23; have o16 := r_24; have o17 := r_25; have o18 := r_26; have o19 := r_31; have o20 := p15.1; have o21 := r_27; have o22 := r_28; have o23 := r_29; have o24 := r_20; have o25 := r_21; have l26 := tl_m1; have l27 := tl_1; have l28 := tl_93; unfold q_r at o14 o15 o16 o17 o18 o19 o20 o21 o22 o23 o24 o25; omega)⟩) (by decide) rfl (fun s112 u112 w112 => ?_)
        replace hF := fx_P hF u112 rfl rfl
        have m112 : s112 a0 11 = .int v111 := by rw [u112]; exact q_up_same
        refine q_aload_n (pc := 115) hG dX12_readsSum_115 1 rfl ?_
        refine q_aload_n (pc := 116) hG dX12_readsSum_116 1 rfl ?_
        refine q_getI (pc := 117) hG fl_X12_154 dX12_readsSum_117 w112.1 tA0 ff_10_9 (fun v117 f117 g117 => ?_)
        replace hF := fx_I hF f117 rfl
        refine q_iconst (pc := 120) hG dX12_readsSum_120 ki_1 ?_
        refine q_isub (pc := 121) hG dX12_readsSum_121 (fun v121 e121 => ?_)
        replace hF := fx_B_sub hF rfl tl_1 e121
        refine q_putI (pc := 122) hG fl_X12_154 dX12_readsSum_122 w112 tA0 ff_10_9 (q_r_any v121) (by decide) rfl (fun s122 u122 w122 => ?_)
        replace hF := fx_P hF u122 rfl rfl
        have m122 : s122 a0 9 = .int v121 := by rw [u122]; exact q_up_same
        refine q_aload_n (pc := 125) hG dX12_readsSum_125 1 rfl ?_
        refine q_aload_n (pc := 126) hG dX12_readsSum_126 1 rfl ?_
        refine q_getV (pc := 127) (v := .int pq14) hG fl_X12_126 dX12_readsSum_127 tA0 (by rw [u122]; exact (q_up_else (Or.inr (by decide))).trans (by rw [u112]; exact (q_up_else (Or.inr (by decide))).trans (p102.1.same tA0 rfl iQ14.1.2.2))) ?_
        refine q_iconst (pc := 130) hG dX12_readsSum_130 ki_1 ?_
        refine q_iadd (pc := 131) hG dX12_readsSum_131 (fun v131 e131 => ?_)
        replace hF := fx_add hF rfl tl_1 (q_addN (lo := 1) (hi := 261) e131 r_26 rl_1 (by decide)).1
        have r_32 := (q_addN (lo := 1) (hi := 261) e131 r_26 rl_1 (by decide)).2
        refine q_putI (pc := 132) hG fl_X12_126 dX12_readsSum_132 w122 tA0 ff_10_5 (show q_r v131 0 260 from ⟨(by have o0 := (q_addN (lo := 1) (hi := 261) e131 r_26 rl_1 (by decide)).1; have o1 := iQ14.2.1.rng; have o2 := iQ14.2.2.1; have o3 := iQ14.2.1.rng; have o4 := (p15.2.2.1 pq14 iQ14.1.2.2); have o5 := p15.2.2.2; have o6 := p18.2.2; have o7 := c24; have o8 := p84.2.2.2; have o9 := c89; have o10 := lw102; have o11 := Q102.rng; have o12 := to102.1; have o13 := (q_subN (lo := (-1)) (hi := 259) e111 r_29 rl_1 (by decide)).1; have o14 := hQ.rng; have o15 := r_22; have o16 := r_23; have o17 := r_24; have o18 := r_25; have o19 := r_26; have o20 := r_31; have o21 := r_32; have o22 := p15.1; have o23 := r_27; have o24 := r_28; have o25 := r_29; have o26 := r_20; have o27 := r_21; have l28 := tl_m1; have l29 := tl_1; have l30 := tl_93; unfold q_r at o15 o16 o17 o18 o19 o20 o21 o22 o23 o24 o25 o26 o27; omega), (by have o0 := (q_addN (lo := 1) (hi := 261) e131 r_26 rl_1 (by decide)).1; have o1 := iQ14.2.1.rng; have o2 := iQ14.2.2.1; have o3 := iQ14.2.1.rng; have o4 := (p15.2.2.1 pq14 iQ14.1.2.2); have o5 := p15.2.2.2; have o6 := p18.2.2; have o7 := c24; have o8 := p84.2.2.2; have o9 := c89; have o10 := lw102; have o11 := Q102.rng; have o12 := to102.1; have o13 := (q_subN (lo := (-1)) (hi := 259) e111 r_29 rl_1 (by decide)).1; have o14 := hQ.rng; have o15 := r_22; have o16 := r_23; have o17 := r_24; have o18 := r_25; have o19 := r_26; have o20 := r_31; have o21 := r_32; have o22 := p15.1; have o23 := r_27; have o24 := r_28; have o25 := r_29; have o26 := r_20; have o27 := r_21; have l28 := tl_m1; have l29 := tl_1; have l30 := tl_93; unfold q_r at o15 o16 o17 o18 o19 o20 o21 o22 o23 o24 o25 o26 o27; omega)⟩) (by decide) rfl (fun s132 u132 w132 => ?_)
        replace hF := fx_P hF u132 rfl rfl
        have m132 : s132 a0 5 = .int v131 := by rw [u132]; exact q_up_same
        have Q132 : q_sm (s132 bs) (s132 bw) S0 F c2_102.toInt v111.toInt K v131.toInt wq.toInt (Dd + 1) := by
          rw [((by rw [u132]; exact q_upK Tbs tA0 (by decide) : s132 bs = s122 bs).trans ((by rw [u122]; exact q_upK Tbs tA0 (by decide) : s122 bs = s112 bs).trans (by rw [u112]; exact q_upK Tbs tA0 (by decide) : s112 bs = s102 bs))), ((by rw [u132]; exact q_upK Tbw tA0 (by decide) : s132 bw = s122 bw).trans ((by rw [u122]; exact q_upK Tbw tA0 (by decide) : s122 bw = s112 bw).trans (by rw [u112]; exact q_upK Tbw tA0 (by decide) : s112 bw = s102 bw))), (show v111.toInt = w2_102.toInt - 1 from (by have o0 := lw102; have o1 := Q102.rng; have o2 := to102.1; have o3 := (q_subN (lo := (-1)) (hi := 259) e111 r_29 rl_1 (by decide)).1; have o4 := (q_addN (lo := 1) (hi := 261) e131 r_26 rl_1 (by decide)).1; have o5 := hQ.rng; have o6 := iQ14.2.1.rng; have o7 := iQ14.2.2.1; have o8 := iQ14.2.1.rng; have o9 := (p15.2.2.1 pq14 iQ14.1.2.2); have o10 := p15.2.2.2; have o11 := p18.2.2; have o12 := c24; have o13 := p84.2.2.2; have o14 := c89; have o15 := r_22; have o16 := r_23; have o17 := r_24; have o18 := r_25; have o19 := r_26; have o20 := r_31; have o21 := r_32; have o22 := p15.1; have o23 := r_27; have o24 := r_28; have o25 := r_29; have o26 := r_20; have o27 := r_21; have l28 := tl_m1; have l29 := tl_1; have l30 := tl_93; unfold q_r at o15 o16 o17 o18 o19 o20 o21 o22 o23 o24 o25 o26 o27; omega)), (show v131.toInt = pq14.toInt + 1 from (by have o0 := iQ14.2.1.rng; have o1 := iQ14.2.2.1; have o2 := iQ14.2.1.rng; have o3 := (p15.2.2.1 pq14 iQ14.1.2.2); have o4 := p15.2.2.2; have o5 := p18.2.2; have o6 := c24; have o7 := p84.2.2.2; have o8 := c89; have o9 := lw102; have o10 := Q102.rng; have o11 := to102.1; have o12 := (q_subN (lo := (-1)) (hi := 259) e111 r_29 rl_1 (by decide)).1; have o13 := (q_addN (lo := 1) (hi := 261) e131 r_26 rl_1 (by decide)).1; have o14 := hQ.rng; have o15 := r_22; have o16 := r_23; have o17 := r_24; have o18 := r_25; have o19 := r_26; have o20 := r_31; have o21 := r_32; have o22 := p15.1; have o23 := r_27; have o24 := r_28; have o25 := r_29; have o26 := r_20; have o27 := r_21; have l28 := tl_m1; have l29 := tl_1; have l30 := tl_93; unfold q_r at o15 o16 o17 o18 o19 o20 o21 o22 o23 o24 o25 o26 o27; omega))]
          exact Q102.popO to102.1 (by rw [((funext fun j => p102.1.2.arr Tbw (by decide) rfl) : s102 bw = σ14 bw)]; exact to102.2) (by have o0 := iQ14.2.1.rng; have o1 := iQ14.2.2.1; have o2 := iQ14.2.1.rng; have o3 := (p15.2.2.1 pq14 iQ14.1.2.2); have o4 := p15.2.2.2; have o5 := p18.2.2; have o6 := c24; have o7 := p84.2.2.2; have o8 := c89; have o9 := lw102; have o10 := Q102.rng; have o11 := to102.1; have o12 := (q_subN (lo := (-1)) (hi := 259) e111 r_29 rl_1 (by decide)).1; have o13 := (q_addN (lo := 1) (hi := 261) e131 r_26 rl_1 (by decide)).1; have o14 := hQ.rng; have o15 := r_22; have o16 := r_23; have o17 := r_24; have o18 := r_25; have o19 := r_26; have o20 := r_31; have o21 := r_32; have o22 := p15.1; have o23 := r_27; have o24 := r_28; have o25 := r_29; have o26 := r_20; have o27 := r_21; have l28 := tl_m1; have l29 := tl_1; have l30 := tl_93; unfold q_r at o15 o16 o17 o18 o19 o20 o21 o22 o23 o24 o25 o26 o27; omega)
        have r_33 := (show q_r v111 0 260 from ⟨by have q := Q132.rng; omega, by have q := Q132.rng; omega⟩)
        have r_34 := (show q_r v131 0 260 from ⟨by have q := Q132.rng; omega, by have q := Q132.rng; omega⟩)
        have K132 : q_kn (σ bw) (s132 bw) wq.toInt v111.toInt := (by rw [((by rw [u132]; exact q_upK Tbw tA0 (by decide) : s132 bw = s122 bw).trans ((by rw [u122]; exact q_upK Tbw tA0 (by decide) : s122 bw = s112 bw).trans (by rw [u112]; exact q_upK Tbw tA0 (by decide) : s112 bw = s102 bw)))]; exact q_kn.le K102 (by have o0 := lw102; have o1 := Q102.rng; have o2 := to102.1; have o3 := (q_subN (lo := (-1)) (hi := 259) e111 r_29 rl_1 (by decide)).1; have o4 := (q_addN (lo := 1) (hi := 261) e131 r_26 rl_1 (by decide)).1; have o5 := Q132.rng; have o6 := hQ.rng; have o7 := iQ14.2.1.rng; have o8 := iQ14.2.2.1; have o9 := iQ14.2.1.rng; have o10 := (p15.2.2.1 pq14 iQ14.1.2.2); have o11 := p15.2.2.2; have o12 := p18.2.2; have o13 := c24; have o14 := p84.2.2.2; have o15 := c89; have o16 := r_22; have o17 := r_23; have o18 := r_24; have o19 := r_25; have o20 := r_26; have o21 := r_33; have o22 := r_34; have o23 := p15.1; have o24 := r_27; have o25 := r_28; have o26 := r_29; have o27 := r_20; have o28 := r_21; have l29 := tl_m1; have l30 := tl_1; have l31 := tl_93; unfold q_r at o16 o17 o18 o19 o20 o21 o22 o23 o24 o25 o26 o27 o28; omega))
        refine q_goto (pc := 135) 163 hG dX12_readsSum_135 rfl ?_
        refine q_lv [1, 2] rfl ?_
        exact J163 s132 c2_102 v111 v131 w132 ⟨⟨(by rw [u132]; exact (q_up_else (Or.inr (by decide))).trans (by rw [u122]; exact (q_up_else (Or.inr (by decide))).trans (by rw [u112]; exact (q_up_else (Or.inr (by decide))).trans fc102))), (by rw [u132]; exact (q_up_else (Or.inr (by decide))).trans (by rw [u122]; exact (q_up_else (Or.inr (by decide))).trans m112)), m132⟩, Q132, ⟨(by have o0 := iQ14.2.1.rng; have o1 := iQ14.2.2.1; have o2 := iQ14.2.1.rng; have o3 := (p15.2.2.1 pq14 iQ14.1.2.2); have o4 := p15.2.2.2; have o5 := p18.2.2; have o6 := c24; have o7 := p84.2.2.2; have o8 := c89; have o9 := lw102; have o10 := Q102.rng; have o11 := to102.1; have o12 := (q_subN (lo := (-1)) (hi := 259) e111 r_29 rl_1 (by decide)).1; have o13 := (q_addN (lo := 1) (hi := 261) e131 r_26 rl_1 (by decide)).1; have o14 := Q132.rng; have o15 := hQ.rng; have o16 := r_22; have o17 := r_23; have o18 := r_24; have o19 := r_25; have o20 := r_26; have o21 := r_33; have o22 := r_34; have o23 := p15.1; have o24 := r_27; have o25 := r_28; have o26 := r_29; have o27 := r_20; have o28 := r_21; have l29 := tl_m1; have l30 := tl_1; have l31 := tl_93; unfold q_r at o16 o17 o18 o19 o20 o21 o22 o23 o24 o25 o26 o27 o28; omega), ⟨(by have o0 := hQ.rng; have o1 := iQ14.2.2.1; have o2 := iQ14.2.1.rng; have o3 := (p15.2.2.1 pq14 iQ14.1.2.2); have o4 := p15.2.2.2; have o5 := p18.2.2; have o6 := c24; have o7 := p84.2.2.2; have o8 := c89; have o9 := lw102; have o10 := Q102.rng; have o11 := to102.1; have o12 := (q_subN (lo := (-1)) (hi := 259) e111 r_29 rl_1 (by decide)).1; have o13 := (q_addN (lo := 1) (hi := 261) e131 r_26 rl_1 (by decide)).1; have o14 := Q132.rng; have o15 := iQ14.2.1.rng; have o16 := r_22; have o17 := r_23; have o18 := r_24; have o19 := r_25; have o20 := r_26; have o21 := r_33; have o22 := r_34; have o23 := p15.1; have o24 := r_27; have o25 := r_28; have o26 := r_29; have o27 := r_20; have o28 := r_21; have l29 := tl_m1; have l30 := tl_1; have l31 := tl_93; unfold q_r at o16 o17 o18 o19 o20 o21 o22 o23 o24 o25 o26 o27 o28; omega), K132⟩⟩⟩ hF
      intro c24
      replace hF := fx_eq2 hF rfl tl_m1 c24
      refine q_aload_n (pc := 27) hG dX12_readsSum_27 1 rfl ?_
      refine q_iload_n (pc := 28) hG dX12_readsSum_28 0 rfl ?_
      refine q_iconst (pc := 29) hG dX12_readsSum_29 ki_4 ?_
      have J38 : ∀ (p38_s0 : Int32), (q_r p38_s0 0 1) → (fx_eq Fv (kJ_X12_readsSum_38 (fx_N σ14) a0 v18.toInt bw pq14.toInt (kL_X12_readsSum_14 a0 wq.toInt bw n14) p38_s0.toInt)) → q_O X 0 0 τ σ14 38 [(0, .ref a0), (1, .int wq), (2, .int v18)] [.int p38_s0, .ref a0] := by
        intro p38_s0 r38_s0 hF
        unfold kJ_X12_readsSum_38 at hF
        refine q_cVv (pc := 38) [.int p38_s0] [] hG (c_X12_closesSums τ σ14 a0 p38_s0 hS14.1 tA0 r38_s0 bs bw (hS14.same tA0 rfl hbs) (hS14.same tA0 rfl hbw) Tbs Tbw cq14 wq14 pq14 iQ14.1.1 iQ14.1.2.1 iQ14.1.2.2 S0 F (K) (wq.toInt) ((Dd + 1)) iQ14.2.1 (Int.le_add_of_nonneg_left hD)) my_X12_closesSums mv_X12_closesSums w929 dX12_readsSum_38 tA0 (by decide) rfl rfl (Nat.le_of_ble_eq_true rfl) (by decide) (fun s38 p38 => ?_)
        have w38 := hS14.trans p38.1 rfl
        replace hF := fx_S hF p38.2.1
        obtain ⟨c2_38, w2_38, fc38, fw38, qq38, lw38, ls38, lt38⟩ := p38.2.2
        have Q38 : q_sm (s38 bs) (s38 bw) S0 F c2_38.toInt w2_38.toInt K pq14.toInt wq.toInt (Dd + 1) := by
          rw [((funext fun j => p38.1.2.arr Tbw (by decide) rfl) : s38 bw = σ14 bw)]
          exact qq38
        replace hF := fx_I hF fc38 rfl
        replace hF := fx_I hF fw38 rfl
        have K38 : q_kn (σ bw) (s38 bw) wq.toInt w2_38.toInt := (by rw [((funext fun j => p38.1.2.arr Tbw (by decide) rfl) : s38 bw = σ14 bw)]; exact q_kn.le iQ14.2.2.2 lw38)
        refine q_aload_n (pc := 41) hG dX12_readsSum_41 0 rfl ?_
        refine q_getV (pc := 42) (v := .ref bw) hG fl_X12_26 dX12_readsSum_42 tA0 (w38.same tA0 rfl hbw) ?_
        refine q_aload_n (pc := 45) hG dX12_readsSum_45 0 rfl ?_
        refine q_getV (pc := 46) (v := .int w2_38) hG fl_X12_157 dX12_readsSum_46 tA0 fw38 ?_
        refine q_ldc (pc := 49) hG w916 dX12_readsSum_49 ?_
        refine q_iload_n (pc := 51) hG dX12_readsSum_51 2 rfl ?_
        refine q_imul (pc := 52) hG dX12_readsSum_52 (fun v52 e52 => ?_)
        have r_35 := q_neL (c := 0) p18.1 (q_nel c24 tl_m1) (by decide)
        replace hF := fx_mul hF tl_1048576 rfl (q_mulN (lo := 0) (hi := 6291456) e52 rl_1048576 r_35 (by decide)).1
        have r_36 := (show q_r c2_38 0 260 from ⟨by have q := Q38.rng; omega, by have q := Q38.rng; omega⟩)
        have r_37 := (show q_r cq 0 260 from ⟨by have q := hQ.rng; omega, by have q := hQ.rng; omega⟩)
        have r_38 := (show q_r cq14 0 260 from ⟨by have q := iQ14.2.1.rng; omega, by have q := iQ14.2.1.rng; omega⟩)
        have r_39 := (show q_r pq 0 260 from ⟨by have q := hQ.rng; omega, by have q := hQ.rng; omega⟩)
        have r_40 := (show q_r pq14 0 260 from ⟨by have q := iQ14.2.1.rng; omega, by have q := iQ14.2.1.rng; omega⟩)
        have r_41 := (q_mulN (lo := 0) (hi := 6291456) e52 rl_1048576 r_35 (by decide)).2
        have r_42 := (show q_r w2_38 0 260 from ⟨by have q := Q38.rng; omega, by have q := Q38.rng; omega⟩)
        have r_43 := (show q_r wq 0 260 from ⟨by have q := hQ.rng; omega, by have q := hQ.rng; omega⟩)
        have r_44 := (show q_r wq14 0 260 from ⟨by have q := iQ14.2.1.rng; omega, by have q := iQ14.2.1.rng; omega⟩)
        refine q_iast (pc := 53) hG dX12_readsSum_53 w38 ai_151 Tbw (by have o0 := lw38; have o1 := Q38.rng; have o2 := iQ14.2.1.rng; have o3 := iQ14.2.2.1; have o4 := iQ14.2.1.rng; have o5 := (p15.2.2.1 pq14 iQ14.1.2.2); have o6 := p15.2.2.2; have o7 := p18.2.2; have o8 := c24; have o9 := (by have q := (q_mulN (lo := 0) (hi := 6291456) e52 rl_1048576 r_35 (by decide)).1; rw [tl_1048576] at q; exact q); have o10 := hQ.rng; have o11 := r_36; have o12 := r_37; have o13 := r_38; have o14 := r_39; have o15 := r_40; have o16 := p15.1; have o17 := r_35; have o18 := r_41; have o19 := r_42; have o20 := r_43; have o21 := r_44; have l22 := tl_m1; unfold q_r at o11 o12 o13 o14 o15 o16 o17 o18 o19 o20 o21; omega) r_41 (by decide) rfl (fun s53 u53 w53 => ?_)
        replace hF := fx_P hF u53 rfl rfl
        have m53 : s53 bw w2_38.toInt.toNat = .int v52 := by rw [u53]; exact q_up_same
        refine q_aload_n (pc := 54) hG dX12_readsSum_54 0 rfl ?_
        refine q_aload_n (pc := 55) hG dX12_readsSum_55 0 rfl ?_
        refine q_getV (pc := 56) (v := .int w2_38) hG fl_X12_157 dX12_readsSum_56 tA0 (by rw [u53]; exact (q_keepK tA0 Tbw (by decide)).trans fw38) ?_
        refine q_iconst (pc := 59) hG dX12_readsSum_59 ki_1 ?_
        refine q_iadd (pc := 60) hG dX12_readsSum_60 (fun v60 e60 => ?_)
        replace hF := fx_add hF rfl tl_1 (q_addN (lo := 1) (hi := 261) e60 r_42 rl_1 (by decide)).1
        have r_45 := (q_addN (lo := 1) (hi := 261) e60 r_42 rl_1 (by decide)).2
        refine q_putI (pc := 61) hG fl_X12_157 dX12_readsSum_61 w53 tA0 ff_10_11 (show q_r v60 0 260 from ⟨(by have o0 := (q_addN (lo := 1) (hi := 261) e60 r_42 rl_1 (by decide)).1; have o1 := lw38; have o2 := Q38.rng; have o3 := iQ14.2.1.rng; have o4 := iQ14.2.2.1; have o5 := iQ14.2.1.rng; have o6 := (p15.2.2.1 pq14 iQ14.1.2.2); have o7 := p15.2.2.2; have o8 := p18.2.2; have o9 := c24; have o10 := (by have q := (q_mulN (lo := 0) (hi := 6291456) e52 rl_1048576 r_35 (by decide)).1; rw [tl_1048576] at q; exact q); have o11 := hQ.rng; have o12 := r_36; have o13 := r_37; have o14 := r_38; have o15 := r_39; have o16 := r_40; have o17 := p15.1; have o18 := r_35; have o19 := r_41; have o20 := r_45; have o21 := r_42; have o22 := r_43; have o23 := r_44; have l24 := tl_m1; have l25 := tl_1; unfold q_r at o12 o13 o14 o15 o16 o17 o18 o19 o20 o21 o22 o23; omega), (by have o0 := (q_addN (lo := 1) (hi := 261) e60 r_42 rl_1 (by decide)).1; have o1 := lw38; have o2 := Q38.rng; have o3 := iQ14.2.1.rng; have o4 := iQ14.2.2.1; have o5 := iQ14.2.1.rng; have o6 := (p15.2.2.1 pq14 iQ14.1.2.2); have o7 := p15.2.2.2; have o8 := p18.2.2; have o9 := c24; have o10 := (by have q := (q_mulN (lo := 0) (hi := 6291456) e52 rl_1048576 r_35 (by decide)).1; rw [tl_1048576] at q; exact q); have o11 := hQ.rng; have o12 := r_36; have o13 := r_37; have o14 := r_38; have o15 := r_39; have o16 := r_40; have o17 := p15.1; have o18 := r_35; have o19 := r_41; have o20 := r_45; have o21 := r_42; have o22 := r_43; have o23 := r_44; have l24 := tl_m1; have l25 := tl_1; unfold q_r at o12 o13 o14 o15 o16 o17 o18 o19 o20 o21 o22 o23; omega)⟩) (by decide) rfl (fun s61 u61 w61 => ?_)
        replace hF := fx_P hF u61 rfl rfl
        have m61 : s61 a0 11 = .int v60 := by rw [u61]; exact q_up_same
        refine q_aload_n (pc := 64) hG dX12_readsSum_64 0 rfl ?_
        refine q_aload_n (pc := 65) hG dX12_readsSum_65 0 rfl ?_
        refine q_getV (pc := 66) (v := .int pq14) hG fl_X12_126 dX12_readsSum_66 tA0 (by rw [u61]; exact (q_up_else (Or.inr (by decide))).trans (by rw [u53]; exact (q_keepK tA0 Tbw (by decide)).trans (p38.1.same tA0 rfl iQ14.1.2.2))) ?_
        refine q_iconst (pc := 69) hG dX12_readsSum_69 ki_1 ?_
        refine q_iadd (pc := 70) hG dX12_readsSum_70 (fun v70 e70 => ?_)
        replace hF := fx_add hF rfl tl_1 (q_addN (lo := 1) (hi := 261) e70 r_40 rl_1 (by decide)).1
        have r_46 := (q_addN (lo := 1) (hi := 261) e70 r_40 rl_1 (by decide)).2
        refine q_putI (pc := 71) hG fl_X12_126 dX12_readsSum_71 w61 tA0 ff_10_5 (show q_r v70 0 260 from ⟨(by have o0 := (q_addN (lo := 1) (hi := 261) e70 r_40 rl_1 (by decide)).1; have o1 := iQ14.2.1.rng; have o2 := iQ14.2.2.1; have o3 := iQ14.2.1.rng; have o4 := (p15.2.2.1 pq14 iQ14.1.2.2); have o5 := p15.2.2.2; have o6 := p18.2.2; have o7 := c24; have o8 := lw38; have o9 := Q38.rng; have o10 := (by have q := (q_mulN (lo := 0) (hi := 6291456) e52 rl_1048576 r_35 (by decide)).1; rw [tl_1048576] at q; exact q); have o11 := (q_addN (lo := 1) (hi := 261) e60 r_42 rl_1 (by decide)).1; have o12 := hQ.rng; have o13 := r_36; have o14 := r_37; have o15 := r_38; have o16 := r_39; have o17 := r_40; have o18 := p15.1; have o19 := r_35; have o20 := r_41; have o21 := r_45; have o22 := r_46; have o23 := r_42; have o24 := r_43; have o25 := r_44; have l26 := tl_m1; have l27 := tl_1; unfold q_r at o13 o14 o15 o16 o17 o18 o19 o20 o21 o22 o23 o24 o25; omega), (by have o0 := (q_addN (lo := 1) (hi := 261) e70 r_40 rl_1 (by decide)).1; have o1 := iQ14.2.1.rng; have o2 := iQ14.2.2.1; have o3 := iQ14.2.1.rng; have o4 := (p15.2.2.1 pq14 iQ14.1.2.2); have o5 := p15.2.2.2; have o6 := p18.2.2; have o7 := c24; have o8 := lw38; have o9 := Q38.rng; have o10 := (by have q := (q_mulN (lo := 0) (hi := 6291456) e52 rl_1048576 r_35 (by decide)).1; rw [tl_1048576] at q; exact q); have o11 := (q_addN (lo := 1) (hi := 261) e60 r_42 rl_1 (by decide)).1; have o12 := hQ.rng; have o13 := r_36; have o14 := r_37; have o15 := r_38; have o16 := r_39; have o17 := r_40; have o18 := p15.1; have o19 := r_35; have o20 := r_41; have o21 := r_45; have o22 := r_46; have o23 := r_42; have o24 := r_43; have o25 := r_44; have l26 := tl_m1; have l27 := tl_1; unfold q_r at o13 o14 o15 o16 o17 o18 o19 o20 o21 o22 o23 o24 o25; omega)⟩) (by decide) rfl (fun s71 u71 w71 => ?_)
        replace hF := fx_P hF u71 rfl rfl
        have m71 : s71 a0 5 = .int v70 := by rw [u71]; exact q_up_same
        have eb71 : s71 bw = updV (s38 bw) w2_38.toInt.toNat (.int v52) := by rw [((by rw [u71]; exact q_upK Tbw tA0 (by decide) : s71 bw = s61 bw).trans (by rw [u61]; exact q_upK Tbw tA0 (by decide) : s61 bw = s53 bw)), u53]; exact q_upF
        have Q71 : q_sm (s71 bs) (s71 bw) S0 F c2_38.toInt v60.toInt K v70.toInt wq.toInt Dd := by
          rw [((by rw [u71]; exact q_upK Tbs tA0 (by decide) : s71 bs = s61 bs).trans ((by rw [u61]; exact q_upK Tbs tA0 (by decide) : s61 bs = s53 bs).trans (by rw [u53]; exact q_upK Tbs Tbw (by decide) : s53 bs = s38 bs))), eb71, (show v60.toInt = w2_38.toInt + 1 from (by have o0 := lw38; have o1 := Q38.rng; have o2 := (q_addN (lo := 1) (hi := 261) e60 r_42 rl_1 (by decide)).1; have o3 := (q_addN (lo := 1) (hi := 261) e70 r_40 rl_1 (by decide)).1; have o4 := iQ14.2.1.rng; have o5 := iQ14.2.2.1; have o6 := iQ14.2.1.rng; have o7 := (p15.2.2.1 pq14 iQ14.1.2.2); have o8 := p15.2.2.2; have o9 := p18.2.2; have o10 := c24; have o11 := (by have q := (q_mulN (lo := 0) (hi := 6291456) e52 rl_1048576 r_35 (by decide)).1; rw [tl_1048576] at q; exact q); have o12 := hQ.rng; have o13 := r_36; have o14 := r_37; have o15 := r_38; have o16 := r_39; have o17 := r_40; have o18 := p15.1; have o19 := r_35; have o20 := r_41; have o21 := r_45; have o22 := r_46; have o23 := r_42; have o24 := r_43; have o25 := r_44; have l26 := tl_m1; have l27 := tl_1; unfold q_r at o13 o14 o15 o16 o17 o18 o19 o20 o21 o22 o23 o24 o25; omega)), (show v70.toInt = pq14.toInt + 1 from (by have o0 := iQ14.2.1.rng; have o1 := iQ14.2.2.1; have o2 := iQ14.2.1.rng; have o3 := (p15.2.2.1 pq14 iQ14.1.2.2); have o4 := p15.2.2.2; have o5 := p18.2.2; have o6 := c24; have o7 := lw38; have o8 := Q38.rng; have o9 := (by have q := (q_mulN (lo := 0) (hi := 6291456) e52 rl_1048576 r_35 (by decide)).1; rw [tl_1048576] at q; exact q); have o10 := (q_addN (lo := 1) (hi := 261) e60 r_42 rl_1 (by decide)).1; have o11 := (q_addN (lo := 1) (hi := 261) e70 r_40 rl_1 (by decide)).1; have o12 := hQ.rng; have o13 := r_36; have o14 := r_37; have o15 := r_38; have o16 := r_39; have o17 := r_40; have o18 := p15.1; have o19 := r_35; have o20 := r_41; have o21 := r_45; have o22 := r_46; have o23 := r_42; have o24 := r_43; have o25 := r_44; have l26 := tl_m1; have l27 := tl_1; unfold q_r at o13 o14 o15 o16 o17 o18 o19 o20 o21 o22 o23 o24 o25; omega))]
          exact (by have q := Q38.sign (y := v52) (s := v18.toInt) (by have o0 := p18.2.2; have o1 := c24; have o2 := (by have q := (q_mulN (lo := 0) (hi := 6291456) e52 rl_1048576 r_35 (by decide)).1; rw [tl_1048576] at q; exact q); have o3 := (p15.2.2.1 pq14 iQ14.1.2.2); have o4 := p15.2.2.2; have o5 := Q38.rng; have o6 := (q_addN (lo := 1) (hi := 261) e60 r_42 rl_1 (by decide)).1; have o7 := (q_addN (lo := 1) (hi := 261) e70 r_40 rl_1 (by decide)).1; have o8 := iQ14.2.1.rng; have o9 := iQ14.2.2.1; have o10 := iQ14.2.1.rng; have o11 := lw38; have o12 := hQ.rng; have o13 := r_36; have o14 := r_37; have o15 := r_38; have o16 := r_39; have o17 := r_40; have o18 := p15.1; have o19 := r_35; have o20 := r_41; have o21 := r_45; have o22 := r_46; have o23 := r_42; have o24 := r_43; have o25 := r_44; have l26 := tl_m1; have l27 := tl_1; unfold q_r at o13 o14 o15 o16 o17 o18 o19 o20 o21 o22 o23 o24 o25; omega) (by have o0 := p18.2.2; have o1 := c24; have o2 := (by have q := (q_mulN (lo := 0) (hi := 6291456) e52 rl_1048576 r_35 (by decide)).1; rw [tl_1048576] at q; exact q); have o3 := (p15.2.2.1 pq14 iQ14.1.2.2); have o4 := p15.2.2.2; have o5 := Q38.rng; have o6 := (q_addN (lo := 1) (hi := 261) e60 r_42 rl_1 (by decide)).1; have o7 := (q_addN (lo := 1) (hi := 261) e70 r_40 rl_1 (by decide)).1; have o8 := iQ14.2.1.rng; have o9 := iQ14.2.2.1; have o10 := iQ14.2.1.rng; have o11 := lw38; have o12 := hQ.rng; have o13 := r_36; have o14 := r_37; have o15 := r_38; have o16 := r_39; have o17 := r_40; have o18 := p15.1; have o19 := r_35; have o20 := r_41; have o21 := r_45; have o22 := r_46; have o23 := r_42; have o24 := r_43; have o25 := r_44; have l26 := tl_m1; have l27 := tl_1; unfold q_r at o13 o14 o15 o16 o17 o18 o19 o20 o21 o22 o23 o24 o25; omega) (by have o0 := iQ14.2.1.rng; have o1 := iQ14.2.2.1; have o2 := iQ14.2.1.rng; have o3 := (p15.2.2.1 pq14 iQ14.1.2.2); have o4 := p15.2.2.2; have o5 := p18.2.2; have o6 := c24; have o7 := lw38; have o8 := Q38.rng; have o9 := (by have q := (q_mulN (lo := 0) (hi := 6291456) e52 rl_1048576 r_35 (by decide)).1; rw [tl_1048576] at q; exact q); have o10 := (q_addN (lo := 1) (hi := 261) e60 r_42 rl_1 (by decide)).1; have o11 := (q_addN (lo := 1) (hi := 261) e70 r_40 rl_1 (by decide)).1; have o12 := hQ.rng; have o13 := r_36; have o14 := r_37; have o15 := r_38; have o16 := r_39; have o17 := r_40; have o18 := p15.1; have o19 := r_35; have o20 := r_41; have o21 := r_45; have o22 := r_46; have o23 := r_42; have o24 := r_43; have o25 := r_44; have l26 := tl_m1; have l27 := tl_1; unfold q_r at o13 o14 o15 o16 o17 o18 o19 o20 o21 o22 o23 o24 o25; omega); rw [show Dd + 1 - 1 = Dd by omega] at q; exact q)
        have r_47 := (show q_r v60 0 260 from ⟨by have q := Q71.rng; omega, by have q := Q71.rng; omega⟩)
        have r_48 := (show q_r v70 0 260 from ⟨by have q := Q71.rng; omega, by have q := Q71.rng; omega⟩)
        have K71 : q_kn (σ bw) (s71 bw) wq.toInt v60.toInt := by rw [eb71, show v60.toInt = w2_38.toInt + 1 from (by have o0 := lw38; have o1 := Q38.rng; have o2 := (q_addN (lo := 1) (hi := 261) e60 r_42 rl_1 (by decide)).1; have o3 := (q_addN (lo := 1) (hi := 261) e70 r_40 rl_1 (by decide)).1; have o4 := Q71.rng; have o5 := iQ14.2.1.rng; have o6 := iQ14.2.2.1; have o7 := iQ14.2.1.rng; have o8 := (p15.2.2.1 pq14 iQ14.1.2.2); have o9 := p15.2.2.2; have o10 := p18.2.2; have o11 := c24; have o12 := (by have q := (q_mulN (lo := 0) (hi := 6291456) e52 rl_1048576 r_35 (by decide)).1; rw [tl_1048576] at q; exact q); have o13 := hQ.rng; have o14 := r_36; have o15 := r_37; have o16 := r_38; have o17 := r_39; have o18 := r_40; have o19 := p15.1; have o20 := r_35; have o21 := r_41; have o22 := r_47; have o23 := r_48; have o24 := r_42; have o25 := r_43; have o26 := r_44; have l27 := tl_m1; have l28 := tl_1; unfold q_r at o14 o15 o16 o17 o18 o19 o20 o21 o22 o23 o24 o25 o26; omega)]; exact K38.push (by have o0 := hQ.rng; have o1 := iQ14.2.2.1; have o2 := iQ14.2.1.rng; have o3 := (p15.2.2.1 pq14 iQ14.1.2.2); have o4 := p15.2.2.2; have o5 := p18.2.2; have o6 := c24; have o7 := lw38; have o8 := Q38.rng; have o9 := (by have q := (q_mulN (lo := 0) (hi := 6291456) e52 rl_1048576 r_35 (by decide)).1; rw [tl_1048576] at q; exact q); have o10 := (q_addN (lo := 1) (hi := 261) e60 r_42 rl_1 (by decide)).1; have o11 := (q_addN (lo := 1) (hi := 261) e70 r_40 rl_1 (by decide)).1; have o12 := Q71.rng; have o13 := iQ14.2.1.rng; have o14 := r_36; have o15 := r_37; have o16 := r_38; have o17 := r_39; have o18 := r_40; have o19 := p15.1; have o20 := r_35; have o21 := r_41; have o22 := r_47; have o23 := r_48; have o24 := r_42; have o25 := r_43; have o26 := r_44; have l27 := tl_m1; have l28 := tl_1; unfold q_r at o14 o15 o16 o17 o18 o19 o20 o21 o22 o23 o24 o25 o26; omega) (by have o0 := hQ.rng; have o1 := iQ14.2.2.1; have o2 := iQ14.2.1.rng; have o3 := (p15.2.2.1 pq14 iQ14.1.2.2); have o4 := p15.2.2.2; have o5 := p18.2.2; have o6 := c24; have o7 := lw38; have o8 := Q38.rng; have o9 := (by have q := (q_mulN (lo := 0) (hi := 6291456) e52 rl_1048576 r_35 (by decide)).1; rw [tl_1048576] at q; exact q); have o10 := (q_addN (lo := 1) (hi := 261) e60 r_42 rl_1 (by decide)).1; have o11 := (q_addN (lo := 1) (hi := 261) e70 r_40 rl_1 (by decide)).1; have o12 := Q71.rng; have o13 := iQ14.2.1.rng; have o14 := r_36; have o15 := r_37; have o16 := r_38; have o17 := r_39; have o18 := r_40; have o19 := p15.1; have o20 := r_35; have o21 := r_41; have o22 := r_47; have o23 := r_48; have o24 := r_42; have o25 := r_43; have o26 := r_44; have l27 := tl_m1; have l28 := tl_1; unfold q_r at o14 o15 o16 o17 o18 o19 o20 o21 o22 o23 o24 o25 o26; omega) (by have o0 := p18.2.2; have o1 := c24; have o2 := (by have q := (q_mulN (lo := 0) (hi := 6291456) e52 rl_1048576 r_35 (by decide)).1; rw [tl_1048576] at q; exact q); have o3 := (p15.2.2.1 pq14 iQ14.1.2.2); have o4 := p15.2.2.2; have o5 := Q38.rng; have o6 := (q_addN (lo := 1) (hi := 261) e60 r_42 rl_1 (by decide)).1; have o7 := (q_addN (lo := 1) (hi := 261) e70 r_40 rl_1 (by decide)).1; have o8 := Q71.rng; have o9 := iQ14.2.1.rng; have o10 := iQ14.2.2.1; have o11 := iQ14.2.1.rng; have o12 := lw38; have o13 := hQ.rng; have o14 := r_36; have o15 := r_37; have o16 := r_38; have o17 := r_39; have o18 := r_40; have o19 := p15.1; have o20 := r_35; have o21 := r_41; have o22 := r_47; have o23 := r_48; have o24 := r_42; have o25 := r_43; have o26 := r_44; have l27 := tl_m1; have l28 := tl_1; unfold q_r at o14 o15 o16 o17 o18 o19 o20 o21 o22 o23 o24 o25 o26; omega)
        refine q_aload_n (pc := 74) hG dX12_readsSum_74 0 rfl ?_
        refine q_cVi (pc := 75) [] [] hG (c_X12_readsFactor τ s71 a0 w71.1 tA0 bs bw (w71.same tA0 rfl hbs) (w71.same tA0 rfl hbw) Tbs Tbw c2_38 v60 v70 (by rw [u71]; exact (q_up_else (Or.inr (by decide))).trans (by rw [u61]; exact (q_up_else (Or.inr (by decide))).trans (by rw [u53]; exact (q_keepK tA0 Tbw (by decide)).trans fc38))) (by rw [u71]; exact (q_up_else (Or.inr (by decide))).trans m61) m71 S0 F (K) (wq.toInt) (Dd) Q71) my_X12_readsFactor mv_X12_readsFactor w910 dX12_readsSum_75 tA0 (by decide) rfl rfl (Nat.le_of_ble_eq_true rfl) (by decide) (fun v75 s75 p75 => ?_)
        have w75 := w71.trans p75.1 rfl
        replace hF := fx_C hF p75.2.2.1
        refine q_if_ne (pc := 78) hG 163 dX12_readsSum_78 rfl ?_ ?_
        · intro c78
          have g_49 := p75.2.2.2 (q_one p75.2.1 c78)
          obtain ⟨c3_75, w3_75, p3_75, ⟨fc75, fw75, fp75⟩, Q75, lp75, lw75, ek75, eo75⟩ := g_49
          have r_50 := (show q_r c3_75 0 260 from ⟨by have q := Q75.rng; omega, by have q := Q75.rng; omega⟩)
          have r_51 := (show q_r p3_75 0 260 from ⟨by have q := Q75.rng; omega, by have q := Q75.rng; omega⟩)
          have r_52 := (show q_r w3_75 0 260 from ⟨by have q := Q75.rng; omega, by have q := Q75.rng; omega⟩)
          have K75 := q_kn.fac K71 (by have o0 := hQ.rng; have o1 := iQ14.2.2.1; have o2 := iQ14.2.1.rng; have o3 := (p15.2.2.1 pq14 iQ14.1.2.2); have o4 := p15.2.2.2; have o5 := p18.2.2; have o6 := c24; have o7 := lw38; have o8 := Q38.rng; have o9 := (by have q := (q_mulN (lo := 0) (hi := 6291456) e52 rl_1048576 r_35 (by decide)).1; rw [tl_1048576] at q; exact q); have o10 := (q_addN (lo := 1) (hi := 261) e60 r_42 rl_1 (by decide)).1; have o11 := (q_addN (lo := 1) (hi := 261) e70 r_40 rl_1 (by decide)).1; have o12 := Q71.rng; have o13 := lw75; have o14 := lp75; have o15 := iQ14.2.1.rng; have o16 := Q75.rng; have o17 := r_36; have o18 := r_50; have o19 := r_37; have o20 := r_38; have o21 := r_51; have o22 := r_39; have o23 := r_40; have o24 := p15.1; have o25 := r_35; have o26 := r_41; have o27 := r_47; have o28 := r_48; have o29 := r_42; have o30 := r_52; have o31 := r_43; have o32 := r_44; have l33 := tl_m1; have l34 := tl_1; unfold q_r at o17 o18 o19 o20 o21 o22 o23 o24 o25 o26 o27 o28 o29 o30 o31 o32; omega) ek75 eo75
          replace hF := fx_eq2 hF rfl rfl c78
          replace hF := fx_I hF fc75 rfl
          replace hF := fx_I hF fw75 rfl
          replace hF := fx_I hF fp75 rfl
          refine q_lv [0, 1] rfl ?_
          exact J163 s75 c3_75 w3_75 p3_75 w75 ⟨⟨fc75, fw75, fp75⟩, Q75, ⟨(by have o0 := iQ14.2.1.rng; have o1 := iQ14.2.2.1; have o2 := iQ14.2.1.rng; have o3 := (p15.2.2.1 pq14 iQ14.1.2.2); have o4 := p15.2.2.2; have o5 := p18.2.2; have o6 := c24; have o7 := lw38; have o8 := Q38.rng; have o9 := (by have q := (q_mulN (lo := 0) (hi := 6291456) e52 rl_1048576 r_35 (by decide)).1; rw [tl_1048576] at q; exact q); have o10 := (q_addN (lo := 1) (hi := 261) e60 r_42 rl_1 (by decide)).1; have o11 := (q_addN (lo := 1) (hi := 261) e70 r_40 rl_1 (by decide)).1; have o12 := Q71.rng; have o13 := Q75.rng; have o14 := lw75; have o15 := lp75; have o16 := hQ.rng; have o17 := r_36; have o18 := r_50; have o19 := r_37; have o20 := r_38; have o21 := r_51; have o22 := r_39; have o23 := r_40; have o24 := p15.1; have o25 := r_35; have o26 := r_41; have o27 := r_47; have o28 := r_48; have o29 := r_42; have o30 := r_52; have o31 := r_43; have o32 := r_44; have l33 := tl_m1; have l34 := tl_1; unfold q_r at o17 o18 o19 o20 o21 o22 o23 o24 o25 o26 o27 o28 o29 o30 o31 o32; omega), ⟨(by have o0 := hQ.rng; have o1 := iQ14.2.2.1; have o2 := iQ14.2.1.rng; have o3 := (p15.2.2.1 pq14 iQ14.1.2.2); have o4 := p15.2.2.2; have o5 := p18.2.2; have o6 := c24; have o7 := lw38; have o8 := Q38.rng; have o9 := (by have q := (q_mulN (lo := 0) (hi := 6291456) e52 rl_1048576 r_35 (by decide)).1; rw [tl_1048576] at q; exact q); have o10 := (q_addN (lo := 1) (hi := 261) e60 r_42 rl_1 (by decide)).1; have o11 := (q_addN (lo := 1) (hi := 261) e70 r_40 rl_1 (by decide)).1; have o12 := Q71.rng; have o13 := Q75.rng; have o14 := lw75; have o15 := lp75; have o16 := iQ14.2.1.rng; have o17 := r_36; have o18 := r_50; have o19 := r_37; have o20 := r_38; have o21 := r_51; have o22 := r_39; have o23 := r_40; have o24 := p15.1; have o25 := r_35; have o26 := r_41; have o27 := r_47; have o28 := r_48; have o29 := r_42; have o30 := r_52; have o31 := r_43; have o32 := r_44; have l33 := tl_m1; have l34 := tl_1; unfold q_r at o17 o18 o19 o20 o21 o22 o23 o24 o25 o26 o27 o28 o29 o30 o31 o32; omega), K75⟩⟩⟩ hF
        intro c78
        replace hF := fx_eq1 hF rfl rfl c78
        refine q_iconst (pc := 81) hG dX12_readsSum_81 ki_0 ?_
        exact q_zrt hG hE dX12_readsSum_82 (q_r.mono rl_0 (by decide)) ⟨w75, (q_r.mono rl_0 (by decide)), (by rw [tl_0]; exact fx_end hF hF0), (fun q => absurd q (by have l0 := tl_0; omega))⟩
      refine q_icmp_ge (pc := 30) hG 37 dX12_readsSum_30 rfl ?_ ?_
      · intro c30
        have r_53 := q_neL (c := 0) p18.1 (q_nel c24 tl_m1) (by decide)
        replace hF := fx_lt2 hF rfl tl_4 c30
        refine q_iconst (pc := 37) hG dX12_readsSum_37 ki_0 ?_
        refine q_lv [1, 2, 0] rfl ?_
        exact J38 0 (q_r.mono rl_0 (by decide)) (by rw [tl_0]; exact hF)
      intro c30
      have r_54 := q_neL (c := 0) p18.1 (q_nel c24 tl_m1) (by decide)
      replace hF := fx_lt1 hF rfl tl_4 c30
      refine q_iconst (pc := 33) hG dX12_readsSum_33 ki_1 ?_
      refine q_goto (pc := 34) 38 hG dX12_readsSum_34 rfl ?_
      refine q_lv [1, 2, 0] rfl ?_
      exact J38 1 (q_r.mono rl_1 (by decide)) (by rw [tl_1]; exact hF)
  refine q_if_ne (pc := 9) hG 14 dX12_readsSum_9 rfl ?_ ?_
  · intro c9
    have g_55 := p6.2.2.2 (q_one p6.2.1 c9)
    obtain ⟨c3_6, w3_6, p3_6, ⟨fc6, fw6, fp6⟩, Q6, lp6, lw6, ek6, eo6⟩ := g_55
    have r_56 := (show q_r c3_6 0 260 from ⟨by have q := Q6.rng; omega, by have q := Q6.rng; omega⟩)
    have r_57 := (show q_r cq 0 260 from ⟨by have q := hQ.rng; omega, by have q := hQ.rng; omega⟩)
    have r_58 := (show q_r p3_6 0 260 from ⟨by have q := Q6.rng; omega, by have q := Q6.rng; omega⟩)
    have r_59 := (show q_r pq 0 260 from ⟨by have q := hQ.rng; omega, by have q := hQ.rng; omega⟩)
    have r_60 := (show q_r w3_6 0 260 from ⟨by have q := Q6.rng; omega, by have q := Q6.rng; omega⟩)
    have r_61 := (show q_r wq 0 260 from ⟨by have q := hQ.rng; omega, by have q := hQ.rng; omega⟩)
    have K6 := q_kn.fac (q_kn.rf (fw := σ bw) (b := wq.toInt)) (by have o0 := hQ.rng; have o1 := lw6; have o2 := lp6; have o3 := Q6.rng; have o4 := r_56; have o5 := r_57; have o6 := r_58; have o7 := r_59; have o8 := r_60; have o9 := r_61; unfold q_r at o4 o5 o6 o7 o8 o9; omega) ek6 eo6
    replace hF := fx_eq2 hF rfl rfl c9
    replace hF := fx_I hF fc6 rfl
    replace hF := fx_I hF fw6 rfl
    replace hF := fx_I hF fp6 rfl
    refine q_lv [1, 0] rfl ?_
    exact J14 ((260 - p3_6.toInt).toNat + 1) s6 c3_6 w3_6 p3_6 w6 ⟨⟨fc6, fw6, fp6⟩, Q6, ⟨(by have o0 := hQ.rng; have o1 := Q6.rng; have o2 := lw6; have o3 := lp6; have o4 := r_56; have o5 := r_57; have o6 := r_58; have o7 := r_59; have o8 := r_60; have o9 := r_61; unfold q_r at o4 o5 o6 o7 o8 o9; omega), K6⟩⟩ hF (Nat.lt_succ_self _)
  intro c9
  replace hF := fx_eq1 hF rfl rfl c9
  refine q_iconst (pc := 12) hG dX12_readsSum_12 ki_0 ?_
  exact q_zrt hG hE dX12_readsSum_13 (q_r.mono rl_0 (by decide)) ⟨w6, (q_r.mono rl_0 (by decide)), (by rw [tl_0]; exact fx_end hF hF0), (fun q => absurd q (by have l0 := tl_0; omega))⟩
