/-! laid by wip/p2/build.py -/
theorem dX3_clear_0 : decode cX3_clear 0 = .ok (.aload_n 0, 1) := by decide +kernel
theorem dX3_clear_1 : decode cX3_clear 1 = .ok (.iconst 0, 1) := by decide +kernel
theorem dX3_clear_2 : decode cX3_clear 2 = .ok (.putfield 9, 3) := by decide +kernel
theorem dX3_clear_5 : decode cX3_clear 5 = .ok (.aload_n 0, 1) := by decide +kernel
theorem dX3_clear_6 : decode cX3_clear 6 = .ok (.iconst 0, 1) := by decide +kernel
theorem dX3_clear_7 : decode cX3_clear 7 = .ok (.putfield 15, 3) := by decide +kernel
theorem dX3_clear_10 : decode cX3_clear 10 = .ok (.aload_n 0, 1) := by decide +kernel
theorem dX3_clear_11 : decode cX3_clear 11 = .ok (.iconst 0, 1) := by decide +kernel
theorem dX3_clear_12 : decode cX3_clear 12 = .ok (.putfield 18, 3) := by decide +kernel
theorem dX3_clear_15 : decode cX3_clear 15 = .ok (.return_, 1) := by decide +kernel
def md_X3_clear : List (Nat × Nat) := [(3, 0), (3, 1), (3, 2)]
set_option maxRecDepth 100000 in
set_option maxHeartbeats 4000000 in
theorem c_X3_clear {l : Launch} {D : q_D} (τ : q_T) (σ : q_V) (a0 : Nat) (hI : q_I τ σ) (tA0 : τ a0 = some (3, 1)) : q_Cv l D yX3_clear cX3_clear 1 none 0 0 τ σ [.ref a0] (fun σ1 => q_S md_X3_clear τ σ σ1 ∧ (fx_N σ1 = f_X3_clear (fx_N σ) a0)) := by
  refine q_metv rfl (Nat.le_of_ble_eq_true rfl) (fun X hG hE => ?_)
  show q_O X 0 0 τ σ 0 [(0, .ref a0)] []
  have hS0 : q_S md_X3_clear τ σ σ := q_S.rf hI
  obtain ⟨Fv, hF⟩ : ∃ z, fx_eq z (f_X3_clear (fx_N σ) a0) := ⟨_, fx_rf⟩
  have hF0 := hF
  unfold f_X3_clear at hF
  refine q_aload_n (pc := 0) hG dX3_clear_0 0 rfl ?_
  refine q_iconst (pc := 1) hG dX3_clear_1 ki_0 ?_
  refine q_putI (pc := 2) hG fl_X3_9 dX3_clear_2 hS0 tA0 ff_3_0 rl_0 (by decide) rfl (fun s2 u2 w2 => ?_)
  replace hF := fx_P hF u2 rfl tl_0
  have m2 : s2 a0 0 = .int 0 := by rw [u2]; exact q_up_same
  refine q_aload_n (pc := 5) hG dX3_clear_5 0 rfl ?_
  refine q_iconst (pc := 6) hG dX3_clear_6 ki_0 ?_
  refine q_putI (pc := 7) hG fl_X3_15 dX3_clear_7 w2 tA0 ff_3_1 rl_0 (by decide) rfl (fun s7 u7 w7 => ?_)
  replace hF := fx_P hF u7 rfl tl_0
  have m7 : s7 a0 1 = .int 0 := by rw [u7]; exact q_up_same
  refine q_aload_n (pc := 10) hG dX3_clear_10 0 rfl ?_
  refine q_iconst (pc := 11) hG dX3_clear_11 ki_0 ?_
  refine q_putZ (pc := 12) hG fl_X3_18 dX3_clear_12 w7 tA0 ff_3_2 (q_r.mono rl_0 (by decide)) (by decide) rfl (fun s12 u12 w12 => ?_)
  replace hF := fx_P hF u12 rfl tl_0
  have m12 : s12 a0 2 = .int 0 := by rw [u12]; exact q_up_same
  exact q_vrt hG hE dX3_clear_15 ⟨w12, (fx_end hF hF0)⟩
theorem dX3_beginClause_0 : decode cX3_beginClause 0 = .ok (.aload_n 0, 1) := by decide +kernel
theorem dX3_beginClause_1 : decode cX3_beginClause 1 = .ok (.getfield 9, 3) := by decide +kernel
theorem dX3_beginClause_4 : decode cX3_beginClause 4 = .ok (.bipush 16, 2) := by decide +kernel
theorem dX3_beginClause_6 : decode cX3_beginClause 6 = .ok (.if_icmp .ge 36, 3) := by decide +kernel
theorem dX3_beginClause_9 : decode cX3_beginClause 9 = .ok (.aload_n 0, 1) := by decide +kernel
theorem dX3_beginClause_10 : decode cX3_beginClause 10 = .ok (.getfield 29, 3) := by decide +kernel
theorem dX3_beginClause_13 : decode cX3_beginClause 13 = .ok (.aload_n 0, 1) := by decide +kernel
theorem dX3_beginClause_14 : decode cX3_beginClause 14 = .ok (.getfield 9, 3) := by decide +kernel
theorem dX3_beginClause_17 : decode cX3_beginClause 17 = .ok (.iload_n 1, 1) := by decide +kernel
theorem dX3_beginClause_18 : decode cX3_beginClause 18 = .ok (.iastore, 1) := by decide +kernel
theorem dX3_beginClause_19 : decode cX3_beginClause 19 = .ok (.aload_n 0, 1) := by decide +kernel
theorem dX3_beginClause_20 : decode cX3_beginClause 20 = .ok (.getfield 32, 3) := by decide +kernel
theorem dX3_beginClause_23 : decode cX3_beginClause 23 = .ok (.aload_n 0, 1) := by decide +kernel
theorem dX3_beginClause_24 : decode cX3_beginClause 24 = .ok (.getfield 9, 3) := by decide +kernel
theorem dX3_beginClause_27 : decode cX3_beginClause 27 = .ok (.aload_n 0, 1) := by decide +kernel
theorem dX3_beginClause_28 : decode cX3_beginClause 28 = .ok (.getfield 15, 3) := by decide +kernel
theorem dX3_beginClause_31 : decode cX3_beginClause 31 = .ok (.iastore, 1) := by decide +kernel
theorem dX3_beginClause_32 : decode cX3_beginClause 32 = .ok (.aload_n 0, 1) := by decide +kernel
theorem dX3_beginClause_33 : decode cX3_beginClause 33 = .ok (.dup, 1) := by decide +kernel
theorem dX3_beginClause_34 : decode cX3_beginClause 34 = .ok (.getfield 9, 3) := by decide +kernel
theorem dX3_beginClause_37 : decode cX3_beginClause 37 = .ok (.iconst 1, 1) := by decide +kernel
theorem dX3_beginClause_38 : decode cX3_beginClause 38 = .ok (.iadd, 1) := by decide +kernel
theorem dX3_beginClause_39 : decode cX3_beginClause 39 = .ok (.putfield 9, 3) := by decide +kernel
theorem dX3_beginClause_42 : decode cX3_beginClause 42 = .ok (.return_, 1) := by decide +kernel
def md_X3_beginClause : List (Nat × Nat) := [(3, 0), (114, 0), (115, 0)]
set_option maxRecDepth 100000 in
set_option maxHeartbeats 4000000 in
theorem c_X3_beginClause {l : Launch} {D : q_D} (τ : q_T) (σ : q_V) (a0 : Nat) (x1 : Int32) (hI : q_I τ σ) (tA0 : τ a0 = some (3, 1)) : q_Cv l D yX3_beginClause cX3_beginClause 2 none 0 0 τ σ [.ref a0, .int x1] (fun σ1 => q_S md_X3_beginClause τ σ σ1 ∧ (fx_N σ1 = f_X3_beginClause (fx_N σ) a0 x1.toInt)) := by
  refine q_metv rfl (Nat.le_of_ble_eq_true rfl) (fun X hG hE => ?_)
  show q_O X 0 0 τ σ 0 [(0, .ref a0), (1, .int x1)] []
  have hS0 : q_S md_X3_beginClause τ σ σ := q_S.rf hI
  obtain ⟨Fv, hF⟩ : ∃ z, fx_eq z (f_X3_beginClause (fx_N σ) a0 x1.toInt) := ⟨_, fx_rf⟩
  have hF0 := hF
  unfold f_X3_beginClause at hF
  refine q_aload_n (pc := 0) hG dX3_beginClause_0 0 rfl ?_
  refine q_getI (pc := 1) hG fl_X3_9 dX3_beginClause_1 hI tA0 ff_3_0 (fun v1 f1 g1 => ?_)
  replace hF := fx_I hF f1 rfl
  refine q_bipush (pc := 4) hG dX3_beginClause_4 kb_16 ?_
  refine q_icmp_ge (pc := 6) hG 42 dX3_beginClause_6 rfl ?_ ?_
  · intro c6
    replace hF := fx_lt2 hF rfl tl_16 c6
    exact q_vrt hG hE dX3_beginClause_42 ⟨hS0, (fx_end hF hF0)⟩
  intro c6
  replace hF := fx_lt1 hF rfl tl_16 c6
  refine q_aload_n (pc := 9) hG dX3_beginClause_9 0 rfl ?_
  refine q_getR (pc := 10) (k2 := 114) (n2 := 16) hG fl_X3_29 dX3_beginClause_10 hI tA0 ff_3_5 (fun b10 f10 T10 => ?_)
  replace hF := fx_R hF f10 rfl
  refine q_aload_n (pc := 13) hG dX3_beginClause_13 0 rfl ?_
  refine q_getV (pc := 14) (v := .int v1) hG fl_X3_9 dX3_beginClause_14 tA0 f1 ?_
  refine q_iload_n (pc := 17) hG dX3_beginClause_17 1 rfl ?_
  have r_1 := q_rlt g1 rl_16 c6 15 (by decide)
  refine q_iast (pc := 18) hG dX3_beginClause_18 hS0 ai_114 T10 (q_ix r_1 (by decide)) (q_r_any x1) (by decide) rfl (fun s18 u18 w18 => ?_)
  replace hF := fx_P hF u18 rfl rfl
  have m18 : s18 b10 v1.toInt.toNat = .int x1 := by rw [u18]; exact q_up_same
  refine q_aload_n (pc := 19) hG dX3_beginClause_19 0 rfl ?_
  refine q_getR (pc := 20) (k2 := 115) (n2 := 16) hG fl_X3_32 dX3_beginClause_20 w18.1 tA0 ff_3_6 (fun b20 f20 T20 => ?_)
  replace hF := fx_R hF f20 rfl
  have f_2 := (w18.2 _ _ _ _ tA0 rfl).symm.trans f20
  refine q_aload_n (pc := 23) hG dX3_beginClause_23 0 rfl ?_
  refine q_getV (pc := 24) (v := .int v1) hG fl_X3_9 dX3_beginClause_24 tA0 (by rw [u18]; exact (q_keepK tA0 T10 (by decide)).trans f1) ?_
  refine q_aload_n (pc := 27) hG dX3_beginClause_27 0 rfl ?_
  refine q_getI (pc := 28) hG fl_X3_15 dX3_beginClause_28 w18.1 tA0 ff_3_1 (fun v28 f28 g28 => ?_)
  replace hF := fx_I hF f28 rfl
  have f_3 := (w18.2 _ _ _ _ tA0 rfl).symm.trans f28
  refine q_iast (pc := 31) hG dX3_beginClause_31 w18 ai_115 T20 (q_ix r_1 (by decide)) g28 (by decide) rfl (fun s31 u31 w31 => ?_)
  replace hF := fx_P hF u31 rfl rfl
  have m31 : s31 b20 v1.toInt.toNat = .int v28 := by rw [u31]; exact q_up_same
  refine q_aload_n (pc := 32) hG dX3_beginClause_32 0 rfl ?_
  refine q_dup (pc := 33) hG dX3_beginClause_33 rfl ?_
  refine q_getV (pc := 34) (v := .int v1) hG fl_X3_9 dX3_beginClause_34 tA0 (by rw [u31]; exact (q_keepK tA0 T20 (by decide)).trans (by rw [u18]; exact (q_keepK tA0 T10 (by decide)).trans f1)) ?_
  refine q_iconst (pc := 37) hG dX3_beginClause_37 ki_1 ?_
  refine q_iadd (pc := 38) hG dX3_beginClause_38 (fun v38 e38 => ?_)
  replace hF := fx_add hF rfl tl_1 (q_addN (lo := 1) (hi := 16) e38 r_1 rl_1 (by decide)).1
  have r_4 := (q_addN (lo := 1) (hi := 16) e38 r_1 rl_1 (by decide)).2
  refine q_putI (pc := 39) hG fl_X3_9 dX3_beginClause_39 w31 tA0 ff_3_0 r_4 (by decide) rfl (fun s39 u39 w39 => ?_)
  replace hF := fx_P hF u39 rfl rfl
  have m39 : s39 a0 0 = .int v38 := by rw [u39]; exact q_up_same
  exact q_vrt hG hE dX3_beginClause_42 ⟨w39, (fx_end hF hF0)⟩
theorem dX3_beginCondition_0 : decode cX3_beginCondition 0 = .ok (.aload_n 0, 1) := by decide +kernel
theorem dX3_beginCondition_1 : decode cX3_beginCondition 1 = .ok (.getfield 9, 3) := by decide +kernel
theorem dX3_beginCondition_4 : decode cX3_beginCondition 4 = .ok (.ifCond .le 18, 3) := by decide +kernel
theorem dX3_beginCondition_7 : decode cX3_beginCondition 7 = .ok (.aload_n 0, 1) := by decide +kernel
theorem dX3_beginCondition_8 : decode cX3_beginCondition 8 = .ok (.getfield 35, 3) := by decide +kernel
theorem dX3_beginCondition_11 : decode cX3_beginCondition 11 = .ok (.aload_n 0, 1) := by decide +kernel
theorem dX3_beginCondition_12 : decode cX3_beginCondition 12 = .ok (.getfield 9, 3) := by decide +kernel
theorem dX3_beginCondition_15 : decode cX3_beginCondition 15 = .ok (.iconst 1, 1) := by decide +kernel
theorem dX3_beginCondition_16 : decode cX3_beginCondition 16 = .ok (.isub, 1) := by decide +kernel
theorem dX3_beginCondition_17 : decode cX3_beginCondition 17 = .ok (.aload_n 0, 1) := by decide +kernel
theorem dX3_beginCondition_18 : decode cX3_beginCondition 18 = .ok (.getfield 15, 3) := by decide +kernel
theorem dX3_beginCondition_21 : decode cX3_beginCondition 21 = .ok (.iastore, 1) := by decide +kernel
theorem dX3_beginCondition_22 : decode cX3_beginCondition 22 = .ok (.return_, 1) := by decide +kernel
def md_X3_beginCondition : List (Nat × Nat) := [(116, 0)]
set_option maxRecDepth 100000 in
set_option maxHeartbeats 4000000 in
theorem c_X3_beginCondition {l : Launch} {D : q_D} (τ : q_T) (σ : q_V) (a0 : Nat) (hI : q_I τ σ) (tA0 : τ a0 = some (3, 1)) : q_Cv l D yX3_beginCondition cX3_beginCondition 1 none 0 0 τ σ [.ref a0] (fun σ1 => q_S md_X3_beginCondition τ σ σ1 ∧ (fx_N σ1 = f_X3_beginCondition (fx_N σ) a0)) := by
  refine q_metv rfl (Nat.le_of_ble_eq_true rfl) (fun X hG hE => ?_)
  show q_O X 0 0 τ σ 0 [(0, .ref a0)] []
  have hS0 : q_S md_X3_beginCondition τ σ σ := q_S.rf hI
  obtain ⟨Fv, hF⟩ : ∃ z, fx_eq z (f_X3_beginCondition (fx_N σ) a0) := ⟨_, fx_rf⟩
  have hF0 := hF
  unfold f_X3_beginCondition at hF
  refine q_aload_n (pc := 0) hG dX3_beginCondition_0 0 rfl ?_
  refine q_getI (pc := 1) hG fl_X3_9 dX3_beginCondition_1 hI tA0 ff_3_0 (fun v1 f1 g1 => ?_)
  replace hF := fx_I hF f1 rfl
  refine q_if_le (pc := 4) hG 22 dX3_beginCondition_4 rfl ?_ ?_
  · intro c4
    replace hF := fx_lt2 hF rfl rfl c4
    exact q_vrt hG hE dX3_beginCondition_22 ⟨hS0, (fx_end hF hF0)⟩
  intro c4
  replace hF := fx_lt1 hF rfl rfl c4
  refine q_aload_n (pc := 7) hG dX3_beginCondition_7 0 rfl ?_
  refine q_getR (pc := 8) (k2 := 116) (n2 := 16) hG fl_X3_35 dX3_beginCondition_8 hI tA0 ff_3_7 (fun b8 f8 T8 => ?_)
  replace hF := fx_R hF f8 rfl
  refine q_aload_n (pc := 11) hG dX3_beginCondition_11 0 rfl ?_
  refine q_getV (pc := 12) (v := .int v1) hG fl_X3_9 dX3_beginCondition_12 tA0 f1 ?_
  refine q_iconst (pc := 15) hG dX3_beginCondition_15 ki_1 ?_
  refine q_isub (pc := 16) hG dX3_beginCondition_16 (fun v16 e16 => ?_)
  have r_1 := q_zgt g1 c4
  replace hF := fx_sub hF rfl tl_1 (q_subN (lo := 0) (hi := 15) e16 r_1 rl_1 (by decide)).1
  refine q_aload_n (pc := 17) hG dX3_beginCondition_17 0 rfl ?_
  refine q_getI (pc := 18) hG fl_X3_15 dX3_beginCondition_18 hI tA0 ff_3_1 (fun v18 f18 g18 => ?_)
  replace hF := fx_I hF f18 rfl
  have r_2 := (q_subN (lo := 0) (hi := 15) e16 r_1 rl_1 (by decide)).2
  refine q_iast (pc := 21) hG dX3_beginCondition_21 hS0 ai_116 T8 (q_ix r_2 (by decide)) g18 (by decide) rfl (fun s21 u21 w21 => ?_)
  replace hF := fx_P hF u21 rfl rfl
  have m21 : s21 b8 v16.toInt.toNat = .int v18 := by rw [u21]; exact q_up_same
  exact q_vrt hG hE dX3_beginCondition_22 ⟨w21, (fx_end hF hF0)⟩
theorem dX3_add_0 : decode cX3_add 0 = .ok (.aload_n 0, 1) := by decide +kernel
theorem dX3_add_1 : decode cX3_add 1 = .ok (.getfield 15, 3) := by decide +kernel
theorem dX3_add_4 : decode cX3_add 4 = .ok (.sipush 240, 3) := by decide +kernel
theorem dX3_add_7 : decode cX3_add 7 = .ok (.if_icmp .lt 5, 3) := by decide +kernel
theorem dX3_add_10 : decode cX3_add 10 = .ok (.iconst (-1), 1) := by decide +kernel
theorem dX3_add_11 : decode cX3_add 11 = .ok (.ireturn, 1) := by decide +kernel
theorem dX3_add_12 : decode cX3_add 12 = .ok (.iload_n 1, 1) := by decide +kernel
theorem dX3_add_13 : decode cX3_add 13 = .ok (.bipush 105, 2) := by decide +kernel
theorem dX3_add_15 : decode cX3_add 15 = .ok (.if_icmp .ne 14, 3) := by decide +kernel
theorem dX3_add_18 : decode cX3_add 18 = .ok (.iload_n 2, 1) := by decide +kernel
theorem dX3_add_19 : decode cX3_add 19 = .ok (.bipush 116, 2) := by decide +kernel
theorem dX3_add_21 : decode cX3_add 21 = .ok (.if_icmp .ne 8, 3) := by decide +kernel
theorem dX3_add_24 : decode cX3_add 24 = .ok (.aload_n 0, 1) := by decide +kernel
theorem dX3_add_25 : decode cX3_add 25 = .ok (.iconst 1, 1) := by decide +kernel
theorem dX3_add_26 : decode cX3_add 26 = .ok (.putfield 18, 3) := by decide +kernel
theorem dX3_add_29 : decode cX3_add 29 = .ok (.aload_n 0, 1) := by decide +kernel
theorem dX3_add_30 : decode cX3_add 30 = .ok (.getfield 22, 3) := by decide +kernel
theorem dX3_add_33 : decode cX3_add 33 = .ok (.aload_n 0, 1) := by decide +kernel
theorem dX3_add_34 : decode cX3_add 34 = .ok (.getfield 15, 3) := by decide +kernel
theorem dX3_add_37 : decode cX3_add 37 = .ok (.iload_n 1, 1) := by decide +kernel
theorem dX3_add_38 : decode cX3_add 38 = .ok (.iastore, 1) := by decide +kernel
theorem dX3_add_39 : decode cX3_add 39 = .ok (.aload_n 0, 1) := by decide +kernel
theorem dX3_add_40 : decode cX3_add 40 = .ok (.getfield 26, 3) := by decide +kernel
theorem dX3_add_43 : decode cX3_add 43 = .ok (.aload_n 0, 1) := by decide +kernel
theorem dX3_add_44 : decode cX3_add 44 = .ok (.getfield 15, 3) := by decide +kernel
theorem dX3_add_47 : decode cX3_add 47 = .ok (.iload_n 2, 1) := by decide +kernel
theorem dX3_add_48 : decode cX3_add 48 = .ok (.iastore, 1) := by decide +kernel
theorem dX3_add_49 : decode cX3_add 49 = .ok (.aload_n 0, 1) := by decide +kernel
theorem dX3_add_50 : decode cX3_add 50 = .ok (.dup, 1) := by decide +kernel
theorem dX3_add_51 : decode cX3_add 51 = .ok (.getfield 15, 3) := by decide +kernel
theorem dX3_add_54 : decode cX3_add 54 = .ok (.iconst 1, 1) := by decide +kernel
theorem dX3_add_55 : decode cX3_add 55 = .ok (.iadd, 1) := by decide +kernel
theorem dX3_add_56 : decode cX3_add 56 = .ok (.putfield 15, 3) := by decide +kernel
theorem dX3_add_59 : decode cX3_add 59 = .ok (.aload_n 0, 1) := by decide +kernel
theorem dX3_add_60 : decode cX3_add 60 = .ok (.getfield 15, 3) := by decide +kernel
theorem dX3_add_63 : decode cX3_add 63 = .ok (.iconst 1, 1) := by decide +kernel
theorem dX3_add_64 : decode cX3_add 64 = .ok (.isub, 1) := by decide +kernel
theorem dX3_add_65 : decode cX3_add 65 = .ok (.ireturn, 1) := by decide +kernel
def md_X3_add : List (Nat × Nat) := [(3, 1), (3, 2), (112, 0), (113, 0)]
set_option maxRecDepth 100000 in
set_option maxHeartbeats 4000000 in
theorem c_X3_add {l : Launch} {D : q_D} (τ : q_T) (σ : q_V) (a0 : Nat) (x1 : Int32) (x2 : Int32) (hI : q_I τ σ) (tA0 : τ a0 = some (3, 1)) : q_Ci l D yX3_add cX3_add 3 (some .int) 0 0 τ σ [.ref a0, .int x1, .int x2] (fun r σ1 => q_S md_X3_add τ σ σ1 ∧ (q_r r (-1) 239) ∧ ((r.toInt, fx_N σ1) = f_X3_add (fx_N σ) a0 x1.toInt x2.toInt)) := by
  refine q_meti rfl (Nat.le_of_ble_eq_true rfl) (fun X hG hE => ?_)
  show q_O X 0 0 τ σ 0 [(0, .ref a0), (1, .int x1), (2, .int x2)] []
  have hS0 : q_S md_X3_add τ σ σ := q_S.rf hI
  obtain ⟨Fv, hF⟩ : ∃ z, fx_eq z (f_X3_add (fx_N σ) a0 x1.toInt x2.toInt) := ⟨_, fx_rf⟩
  have hF0 := hF
  unfold f_X3_add at hF
  refine q_aload_n (pc := 0) hG dX3_add_0 0 rfl ?_
  refine q_getI (pc := 1) hG fl_X3_15 dX3_add_1 hI tA0 ff_3_1 (fun v1 f1 g1 => ?_)
  replace hF := fx_I hF f1 rfl
  refine q_sipush (pc := 4) hG dX3_add_4 ks_240 ?_
  refine q_icmp_lt (pc := 7) hG 12 dX3_add_7 rfl ?_ ?_
  · intro c7
    replace hF := fx_lt1 hF rfl tl_240 c7
    refine q_iload_n (pc := 12) hG dX3_add_12 1 rfl ?_
    refine q_bipush (pc := 13) hG dX3_add_13 kb_105 ?_
    have J29 : ∀ (σ29 : q_V), (q_S md_X3_add τ σ σ29) → (σ29 a0 1 = .int v1) → (fx_eq Fv (kJ_X3_add_29 a0 v1.toInt x1.toInt x2.toInt (fx_N σ29))) → q_O X 0 0 τ σ29 29 [(0, .ref a0), (1, .int x1), (2, .int x2)] [] := by
      intro σ29 hS29 is28 hF
      unfold kJ_X3_add_29 at hF
      refine q_aload_n (pc := 29) hG dX3_add_29 0 rfl ?_
      refine q_getR (pc := 30) (k2 := 112) (n2 := 240) hG fl_X3_22 dX3_add_30 hS29.1 tA0 ff_3_3 (fun b30 f30 T30 => ?_)
      replace hF := fx_R hF f30 rfl
      have f_1 := (hS29.2 _ _ _ _ tA0 rfl).symm.trans f30
      refine q_aload_n (pc := 33) hG dX3_add_33 0 rfl ?_
      refine q_getV (pc := 34) (v := .int v1) hG fl_X3_15 dX3_add_34 tA0 is28 ?_
      refine q_iload_n (pc := 37) hG dX3_add_37 1 rfl ?_
      have r_2 := q_rlt g1 rl_240 c7 239 (by decide)
      refine q_iast (pc := 38) hG dX3_add_38 hS29 ai_112 T30 (q_ix r_2 (by decide)) (q_r_any x1) (by decide) rfl (fun s38 u38 w38 => ?_)
      replace hF := fx_P hF u38 rfl rfl
      have m38 : s38 b30 v1.toInt.toNat = .int x1 := by rw [u38]; exact q_up_same
      refine q_aload_n (pc := 39) hG dX3_add_39 0 rfl ?_
      refine q_getR (pc := 40) (k2 := 113) (n2 := 240) hG fl_X3_26 dX3_add_40 w38.1 tA0 ff_3_4 (fun b40 f40 T40 => ?_)
      replace hF := fx_R hF f40 rfl
      have f_3 := (w38.2 _ _ _ _ tA0 rfl).symm.trans f40
      refine q_aload_n (pc := 43) hG dX3_add_43 0 rfl ?_
      refine q_getV (pc := 44) (v := .int v1) hG fl_X3_15 dX3_add_44 tA0 (by rw [u38]; exact (q_keepK tA0 T30 (by decide)).trans is28) ?_
      refine q_iload_n (pc := 47) hG dX3_add_47 2 rfl ?_
      refine q_iast (pc := 48) hG dX3_add_48 w38 ai_113 T40 (q_ix r_2 (by decide)) (q_r_any x2) (by decide) rfl (fun s48 u48 w48 => ?_)
      replace hF := fx_P hF u48 rfl rfl
      have m48 : s48 b40 v1.toInt.toNat = .int x2 := by rw [u48]; exact q_up_same
      refine q_aload_n (pc := 49) hG dX3_add_49 0 rfl ?_
      refine q_dup (pc := 50) hG dX3_add_50 rfl ?_
      refine q_getV (pc := 51) (v := .int v1) hG fl_X3_15 dX3_add_51 tA0 (by rw [u48]; exact (q_keepK tA0 T40 (by decide)).trans (by rw [u38]; exact (q_keepK tA0 T30 (by decide)).trans is28)) ?_
      refine q_iconst (pc := 54) hG dX3_add_54 ki_1 ?_
      refine q_iadd (pc := 55) hG dX3_add_55 (fun v55 e55 => ?_)
      replace hF := fx_add hF rfl tl_1 (q_addN (lo := 1) (hi := 240) e55 r_2 rl_1 (by decide)).1
      have r_4 := (q_addN (lo := 1) (hi := 240) e55 r_2 rl_1 (by decide)).2
      refine q_putI (pc := 56) hG fl_X3_15 dX3_add_56 w48 tA0 ff_3_1 r_4 (by decide) rfl (fun s56 u56 w56 => ?_)
      replace hF := fx_P hF u56 rfl rfl
      have m56 : s56 a0 1 = .int v55 := by rw [u56]; exact q_up_same
      refine q_aload_n (pc := 59) hG dX3_add_59 0 rfl ?_
      refine q_getV (pc := 60) (v := .int v55) hG fl_X3_15 dX3_add_60 tA0 m56 ?_
      refine q_iconst (pc := 63) hG dX3_add_63 ki_1 ?_
      refine q_isub (pc := 64) hG dX3_add_64 (fun v64 e64 => ?_)
      replace hF := fx_sub hF rfl tl_1 (q_subN (lo := 0) (hi := 239) e64 r_4 rl_1 (by decide)).1
      have r_5 := (q_subN (lo := 0) (hi := 239) e64 r_4 rl_1 (by decide)).2
      exact q_irt hG hE dX3_add_65 ⟨w56, (q_r.mono r_5 (by decide)), (fx_end hF hF0)⟩
    refine q_icmp_ne (pc := 15) hG 29 dX3_add_15 rfl ?_ ?_
    · intro c15
      replace hF := fx_eq2 hF rfl tl_105 c15
      refine q_lv [0, 1, 2] rfl ?_
      exact J29 σ hS0 f1 hF
    intro c15
    replace hF := fx_eq1 hF rfl tl_105 c15
    refine q_iload_n (pc := 18) hG dX3_add_18 2 rfl ?_
    refine q_bipush (pc := 19) hG dX3_add_19 kb_116 ?_
    refine q_icmp_ne (pc := 21) hG 29 dX3_add_21 rfl ?_ ?_
    · intro c21
      replace hF := fx_eq2 hF rfl tl_116 c21
      refine q_lv [0, 1, 2] rfl ?_
      exact J29 σ hS0 f1 hF
    intro c21
    replace hF := fx_eq1 hF rfl tl_116 c21
    refine q_aload_n (pc := 24) hG dX3_add_24 0 rfl ?_
    refine q_iconst (pc := 25) hG dX3_add_25 ki_1 ?_
    refine q_putZ (pc := 26) hG fl_X3_18 dX3_add_26 hS0 tA0 ff_3_2 (q_r.mono rl_1 (by decide)) (by decide) rfl (fun s26 u26 w26 => ?_)
    replace hF := fx_P hF u26 rfl tl_1
    have m26 : s26 a0 2 = .int 1 := by rw [u26]; exact q_up_same
    refine q_lv [0, 1, 2] rfl ?_
    exact J29 s26 w26 (by rw [u26]; exact (q_up_else (Or.inr (by decide))).trans f1) hF
  intro c7
  replace hF := fx_lt2 hF rfl tl_240 c7
  refine q_iconst (pc := 10) hG dX3_add_10 ki_m1 ?_
  exact q_irt hG hE dX3_add_11 ⟨hS0, (q_r.mono rl_m1 (by decide)), (by rw [tl_m1]; exact fx_end hF hF0)⟩
theorem dX3_leadHere_0 : decode cX3_leadHere 0 = .ok (.iload_n 1, 1) := by decide +kernel
theorem dX3_leadHere_1 : decode cX3_leadHere 1 = .ok (.ifCond .lt 21, 3) := by decide +kernel
theorem dX3_leadHere_4 : decode cX3_leadHere 4 = .ok (.iload_n 1, 1) := by decide +kernel
theorem dX3_leadHere_5 : decode cX3_leadHere 5 = .ok (.aload_n 0, 1) := by decide +kernel
theorem dX3_leadHere_6 : decode cX3_leadHere 6 = .ok (.getfield 15, 3) := by decide +kernel
theorem dX3_leadHere_9 : decode cX3_leadHere 9 = .ok (.if_icmp .ge 13, 3) := by decide +kernel
theorem dX3_leadHere_12 : decode cX3_leadHere 12 = .ok (.aload_n 0, 1) := by decide +kernel
theorem dX3_leadHere_13 : decode cX3_leadHere 13 = .ok (.getfield 26, 3) := by decide +kernel
theorem dX3_leadHere_16 : decode cX3_leadHere 16 = .ok (.iload_n 1, 1) := by decide +kernel
theorem dX3_leadHere_17 : decode cX3_leadHere 17 = .ok (.aload_n 0, 1) := by decide +kernel
theorem dX3_leadHere_18 : decode cX3_leadHere 18 = .ok (.getfield 15, 3) := by decide +kernel
theorem dX3_leadHere_21 : decode cX3_leadHere 21 = .ok (.iastore, 1) := by decide +kernel
theorem dX3_leadHere_22 : decode cX3_leadHere 22 = .ok (.return_, 1) := by decide +kernel
def md_X3_leadHere : List (Nat × Nat) := [(113, 0)]
set_option maxRecDepth 100000 in
set_option maxHeartbeats 4000000 in
theorem c_X3_leadHere {l : Launch} {D : q_D} (τ : q_T) (σ : q_V) (a0 : Nat) (x1 : Int32) (hI : q_I τ σ) (tA0 : τ a0 = some (3, 1)) : q_Cv l D yX3_leadHere cX3_leadHere 2 none 0 0 τ σ [.ref a0, .int x1] (fun σ1 => q_S md_X3_leadHere τ σ σ1 ∧ (fx_N σ1 = f_X3_leadHere (fx_N σ) a0 x1.toInt)) := by
  refine q_metv rfl (Nat.le_of_ble_eq_true rfl) (fun X hG hE => ?_)
  show q_O X 0 0 τ σ 0 [(0, .ref a0), (1, .int x1)] []
  have hS0 : q_S md_X3_leadHere τ σ σ := q_S.rf hI
  obtain ⟨Fv, hF⟩ : ∃ z, fx_eq z (f_X3_leadHere (fx_N σ) a0 x1.toInt) := ⟨_, fx_rf⟩
  have hF0 := hF
  unfold f_X3_leadHere at hF
  refine q_iload_n (pc := 0) hG dX3_leadHere_0 1 rfl ?_
  refine q_if_lt (pc := 1) hG 22 dX3_leadHere_1 rfl ?_ ?_
  · intro c1
    replace hF := fx_lt1 hF rfl rfl c1
    exact q_vrt hG hE dX3_leadHere_22 ⟨hS0, (fx_end hF hF0)⟩
  intro c1
  replace hF := fx_lt2 hF rfl rfl c1
  refine q_iload_n (pc := 4) hG dX3_leadHere_4 1 rfl ?_
  refine q_aload_n (pc := 5) hG dX3_leadHere_5 0 rfl ?_
  refine q_getI (pc := 6) hG fl_X3_15 dX3_leadHere_6 hI tA0 ff_3_1 (fun v6 f6 g6 => ?_)
  replace hF := fx_I hF f6 rfl
  refine q_icmp_ge (pc := 9) hG 22 dX3_leadHere_9 rfl ?_ ?_
  · intro c9
    have r_1 := q_zge (q_r_any x1) c1
    replace hF := fx_lt2 hF rfl rfl c9
    exact q_vrt hG hE dX3_leadHere_22 ⟨hS0, (fx_end hF hF0)⟩
  intro c9
  have r_2 := q_zge (q_r_any x1) c1
  replace hF := fx_lt1 hF rfl rfl c9
  refine q_aload_n (pc := 12) hG dX3_leadHere_12 0 rfl ?_
  refine q_getR (pc := 13) (k2 := 113) (n2 := 240) hG fl_X3_26 dX3_leadHere_13 hI tA0 ff_3_4 (fun b13 f13 T13 => ?_)
  replace hF := fx_R hF f13 rfl
  refine q_iload_n (pc := 16) hG dX3_leadHere_16 1 rfl ?_
  refine q_aload_n (pc := 17) hG dX3_leadHere_17 0 rfl ?_
  refine q_getV (pc := 18) (v := .int v6) hG fl_X3_15 dX3_leadHere_18 tA0 f6 ?_
  have r_3 := q_rlt r_2 g6 c9 239 (by decide)
  have r_4 := q_rgt g6 r_2 c9 1 (by decide)
  refine q_iast (pc := 21) hG dX3_leadHere_21 hS0 ai_113 T13 (q_ix r_3 (by decide)) r_4 (by decide) rfl (fun s21 u21 w21 => ?_)
  replace hF := fx_P hF u21 rfl rfl
  have m21 : s21 b13 x1.toInt.toNat = .int v6 := by rw [u21]; exact q_up_same
  exact q_vrt hG hE dX3_leadHere_22 ⟨w21, (fx_end hF hF0)⟩
theorem dX3_highest_0 : decode cX3_highest 0 = .ok (.iload_n 0, 1) := by decide +kernel
theorem dX3_highest_1 : decode cX3_highest 1 = .ok (.lookupswitch 33 #[(112, 27), (115, 30)], 27) := by decide +kernel
theorem dX3_highest_28 : decode cX3_highest 28 = .ok (.bipush 9, 2) := by decide +kernel
theorem dX3_highest_30 : decode cX3_highest 30 = .ok (.ireturn, 1) := by decide +kernel
theorem dX3_highest_31 : decode cX3_highest 31 = .ok (.bipush 63, 2) := by decide +kernel
theorem dX3_highest_33 : decode cX3_highest 33 = .ok (.ireturn, 1) := by decide +kernel
theorem dX3_highest_34 : decode cX3_highest 34 = .ok (.bipush 99, 2) := by decide +kernel
theorem dX3_highest_36 : decode cX3_highest 36 = .ok (.ireturn, 1) := by decide +kernel
set_option maxRecDepth 100000 in
set_option maxHeartbeats 4000000 in
theorem c_X3_highest {l : Launch} {D : q_D} (τ : q_T) (σ : q_V) (x0 : Int32) (hI : q_I τ σ) : q_Cp l D yX3_highest cX3_highest 1 (some .int) 0 0 τ σ [.int x0] (fun r => (q_r r 9 99) ∧ (r.toInt = f_X3_highest (fx_N σ) x0.toInt)) := by
  refine q_meti rfl (Nat.le_of_ble_eq_true rfl) (fun X hG hE => ?_)
  show q_O X 0 0 τ σ 0 [(0, .int x0)] []
  obtain ⟨Fv, hF⟩ : ∃ z, fx_eq z (f_X3_highest (fx_N σ) x0.toInt) := ⟨_, fx_rf⟩
  have hF0 := hF
  unfold f_X3_highest at hF
  refine q_iload_n (pc := 0) hG dX3_highest_0 0 rfl ?_
  by_cases z1_112 : x0.toInt = 112
  · skip
    replace hF := fx_eq1 hF rfl rfl z1_112
    refine q_ls (pc := 1) (off := 27) 28 hG dX3_highest_1 rfl (by rw [z1_112]; rfl) rfl ?_
    refine q_bipush (pc := 28) hG dX3_highest_28 kb_9 ?_
    exact q_irt hG hE dX3_highest_30 ⟨rfl, (q_r.mono rl_9 (by decide)), (by rw [tl_9]; exact fx_end hF hF0)⟩
  by_cases z1_115 : x0.toInt = 115
  · skip
    replace hF := fx_eq2 hF rfl rfl z1_112
    replace hF := fx_eq1 hF rfl rfl z1_115
    refine q_ls (pc := 1) (off := 30) 31 hG dX3_highest_1 rfl (by rw [z1_115]; rfl) rfl ?_
    refine q_bipush (pc := 31) hG dX3_highest_31 kb_63 ?_
    exact q_irt hG hE dX3_highest_33 ⟨rfl, (q_r.mono rl_63 (by decide)), (by rw [tl_63]; exact fx_end hF hF0)⟩
  replace hF := fx_eq2 hF rfl rfl z1_112
  replace hF := fx_eq2 hF rfl rfl z1_115
  refine q_ls (pc := 1) (off := 33) 34 hG dX3_highest_1 rfl (by show Op.lookupswitch.offset [(112, 27), (115, 30)] 33 _ = _; rw [Op.lookupswitch.offset_cons, if_neg (fun q => z1_112 q.symm), Op.lookupswitch.offset_cons, if_neg (fun q => z1_115 q.symm), Op.lookupswitch.offset_nil]) rfl ?_
  refine q_bipush (pc := 34) hG dX3_highest_34 kb_99 ?_
  exact q_irt hG hE dX3_highest_36 ⟨rfl, (q_r.mono rl_99 (by decide)), (by rw [tl_99]; exact fx_end hF hF0)⟩
theorem dX3_push_0 : decode cX3_push 0 = .ok (.aload_n 0, 1) := by decide +kernel
theorem dX3_push_1 : decode cX3_push 1 = .ok (.getfield 41, 3) := by decide +kernel
theorem dX3_push_4 : decode cX3_push 4 = .ok (.bipush 32, 2) := by decide +kernel
theorem dX3_push_6 : decode cX3_push 6 = .ok (.if_icmp .ge 23, 3) := by decide +kernel
theorem dX3_push_9 : decode cX3_push 9 = .ok (.aload_n 0, 1) := by decide +kernel
theorem dX3_push_10 : decode cX3_push 10 = .ok (.getfield 38, 3) := by decide +kernel
theorem dX3_push_13 : decode cX3_push 13 = .ok (.aload_n 0, 1) := by decide +kernel
theorem dX3_push_14 : decode cX3_push 14 = .ok (.getfield 41, 3) := by decide +kernel
theorem dX3_push_17 : decode cX3_push 17 = .ok (.iload_n 1, 1) := by decide +kernel
theorem dX3_push_18 : decode cX3_push 18 = .ok (.iastore, 1) := by decide +kernel
theorem dX3_push_19 : decode cX3_push 19 = .ok (.aload_n 0, 1) := by decide +kernel
theorem dX3_push_20 : decode cX3_push 20 = .ok (.dup, 1) := by decide +kernel
theorem dX3_push_21 : decode cX3_push 21 = .ok (.getfield 41, 3) := by decide +kernel
theorem dX3_push_24 : decode cX3_push 24 = .ok (.iconst 1, 1) := by decide +kernel
theorem dX3_push_25 : decode cX3_push 25 = .ok (.iadd, 1) := by decide +kernel
theorem dX3_push_26 : decode cX3_push 26 = .ok (.putfield 41, 3) := by decide +kernel
theorem dX3_push_29 : decode cX3_push 29 = .ok (.return_, 1) := by decide +kernel
def md_X3_push : List (Nat × Nat) := [(3, 9), (117, 0)]
set_option maxRecDepth 100000 in
set_option maxHeartbeats 4000000 in
theorem c_X3_push {l : Launch} {D : q_D} (τ : q_T) (σ : q_V) (a0 : Nat) (x1 : Int32) (hI : q_I τ σ) (tA0 : τ a0 = some (3, 1)) : q_Cv l D yX3_push cX3_push 2 none 0 0 τ σ [.ref a0, .int x1] (fun σ1 => q_S md_X3_push τ σ σ1 ∧ (fx_N σ1 = f_X3_push (fx_N σ) a0 x1.toInt)) := by
  refine q_metv rfl (Nat.le_of_ble_eq_true rfl) (fun X hG hE => ?_)
  show q_O X 0 0 τ σ 0 [(0, .ref a0), (1, .int x1)] []
  have hS0 : q_S md_X3_push τ σ σ := q_S.rf hI
  obtain ⟨Fv, hF⟩ : ∃ z, fx_eq z (f_X3_push (fx_N σ) a0 x1.toInt) := ⟨_, fx_rf⟩
  have hF0 := hF
  unfold f_X3_push at hF
  refine q_aload_n (pc := 0) hG dX3_push_0 0 rfl ?_
  refine q_getI (pc := 1) hG fl_X3_41 dX3_push_1 hI tA0 ff_3_9 (fun v1 f1 g1 => ?_)
  replace hF := fx_I hF f1 rfl
  refine q_bipush (pc := 4) hG dX3_push_4 kb_32 ?_
  refine q_icmp_ge (pc := 6) hG 29 dX3_push_6 rfl ?_ ?_
  · intro c6
    replace hF := fx_lt2 hF rfl tl_32 c6
    exact q_vrt hG hE dX3_push_29 ⟨hS0, (fx_end hF hF0)⟩
  intro c6
  replace hF := fx_lt1 hF rfl tl_32 c6
  refine q_aload_n (pc := 9) hG dX3_push_9 0 rfl ?_
  refine q_getR (pc := 10) (k2 := 117) (n2 := 32) hG fl_X3_38 dX3_push_10 hI tA0 ff_3_8 (fun b10 f10 T10 => ?_)
  replace hF := fx_R hF f10 rfl
  refine q_aload_n (pc := 13) hG dX3_push_13 0 rfl ?_
  refine q_getV (pc := 14) (v := .int v1) hG fl_X3_41 dX3_push_14 tA0 f1 ?_
  refine q_iload_n (pc := 17) hG dX3_push_17 1 rfl ?_
  have r_1 := q_rlt g1 rl_32 c6 31 (by decide)
  refine q_iast (pc := 18) hG dX3_push_18 hS0 ai_117 T10 (q_ix r_1 (by decide)) (q_r_any x1) (by decide) rfl (fun s18 u18 w18 => ?_)
  replace hF := fx_P hF u18 rfl rfl
  have m18 : s18 b10 v1.toInt.toNat = .int x1 := by rw [u18]; exact q_up_same
  refine q_aload_n (pc := 19) hG dX3_push_19 0 rfl ?_
  refine q_dup (pc := 20) hG dX3_push_20 rfl ?_
  refine q_getV (pc := 21) (v := .int v1) hG fl_X3_41 dX3_push_21 tA0 (by rw [u18]; exact (q_keepK tA0 T10 (by decide)).trans f1) ?_
  refine q_iconst (pc := 24) hG dX3_push_24 ki_1 ?_
  refine q_iadd (pc := 25) hG dX3_push_25 (fun v25 e25 => ?_)
  replace hF := fx_add hF rfl tl_1 (q_addN (lo := 1) (hi := 32) e25 r_1 rl_1 (by decide)).1
  have r_2 := (q_addN (lo := 1) (hi := 32) e25 r_1 rl_1 (by decide)).2
  refine q_putI (pc := 26) hG fl_X3_41 dX3_push_26 w18 tA0 ff_3_9 r_2 (by decide) rfl (fun s26 u26 w26 => ?_)
  replace hF := fx_P hF u26 rfl rfl
  have m26 : s26 a0 9 = .int v25 := by rw [u26]; exact q_up_same
  exact q_vrt hG hE dX3_push_29 ⟨w26, (fx_end hF hF0)⟩
theorem dX3_pop_0 : decode cX3_pop 0 = .ok (.aload_n 0, 1) := by decide +kernel
theorem dX3_pop_1 : decode cX3_pop 1 = .ok (.getfield 41, 3) := by decide +kernel
theorem dX3_pop_4 : decode cX3_pop 4 = .ok (.ifCond .gt 5, 3) := by decide +kernel
theorem dX3_pop_7 : decode cX3_pop 7 = .ok (.iconst 0, 1) := by decide +kernel
theorem dX3_pop_8 : decode cX3_pop 8 = .ok (.ireturn, 1) := by decide +kernel
theorem dX3_pop_9 : decode cX3_pop 9 = .ok (.aload_n 0, 1) := by decide +kernel
theorem dX3_pop_10 : decode cX3_pop 10 = .ok (.dup, 1) := by decide +kernel
theorem dX3_pop_11 : decode cX3_pop 11 = .ok (.getfield 41, 3) := by decide +kernel
theorem dX3_pop_14 : decode cX3_pop 14 = .ok (.iconst 1, 1) := by decide +kernel
theorem dX3_pop_15 : decode cX3_pop 15 = .ok (.isub, 1) := by decide +kernel
theorem dX3_pop_16 : decode cX3_pop 16 = .ok (.putfield 41, 3) := by decide +kernel
theorem dX3_pop_19 : decode cX3_pop 19 = .ok (.aload_n 0, 1) := by decide +kernel
theorem dX3_pop_20 : decode cX3_pop 20 = .ok (.getfield 38, 3) := by decide +kernel
theorem dX3_pop_23 : decode cX3_pop 23 = .ok (.aload_n 0, 1) := by decide +kernel
theorem dX3_pop_24 : decode cX3_pop 24 = .ok (.getfield 41, 3) := by decide +kernel
theorem dX3_pop_27 : decode cX3_pop 27 = .ok (.iaload, 1) := by decide +kernel
theorem dX3_pop_28 : decode cX3_pop 28 = .ok (.ireturn, 1) := by decide +kernel
def md_X3_pop : List (Nat × Nat) := [(3, 9)]
set_option maxRecDepth 100000 in
set_option maxHeartbeats 4000000 in
theorem c_X3_pop {l : Launch} {D : q_D} (τ : q_T) (σ : q_V) (a0 : Nat) (hI : q_I τ σ) (tA0 : τ a0 = some (3, 1)) : q_Ci l D yX3_pop cX3_pop 1 (some .int) 0 0 τ σ [.ref a0] (fun r σ1 => q_S md_X3_pop τ σ σ1 ∧ (q_r r (-2147483648) 2147483647) ∧ ((r.toInt, fx_N σ1) = f_X3_pop (fx_N σ) a0)) := by
  refine q_meti rfl (Nat.le_of_ble_eq_true rfl) (fun X hG hE => ?_)
  show q_O X 0 0 τ σ 0 [(0, .ref a0)] []
  have hS0 : q_S md_X3_pop τ σ σ := q_S.rf hI
  obtain ⟨Fv, hF⟩ : ∃ z, fx_eq z (f_X3_pop (fx_N σ) a0) := ⟨_, fx_rf⟩
  have hF0 := hF
  unfold f_X3_pop at hF
  refine q_aload_n (pc := 0) hG dX3_pop_0 0 rfl ?_
  refine q_getI (pc := 1) hG fl_X3_41 dX3_pop_1 hI tA0 ff_3_9 (fun v1 f1 g1 => ?_)
  replace hF := fx_I hF f1 rfl
  refine q_if_gt (pc := 4) hG 9 dX3_pop_4 rfl ?_ ?_
  · intro c4
    replace hF := fx_lt1 hF rfl rfl c4
    refine q_aload_n (pc := 9) hG dX3_pop_9 0 rfl ?_
    refine q_dup (pc := 10) hG dX3_pop_10 rfl ?_
    refine q_getV (pc := 11) (v := .int v1) hG fl_X3_41 dX3_pop_11 tA0 f1 ?_
    refine q_iconst (pc := 14) hG dX3_pop_14 ki_1 ?_
    refine q_isub (pc := 15) hG dX3_pop_15 (fun v15 e15 => ?_)
    have r_1 := q_zgt g1 c4
    replace hF := fx_sub hF rfl tl_1 (q_subN (lo := 0) (hi := 31) e15 r_1 rl_1 (by decide)).1
    have r_2 := (q_subN (lo := 0) (hi := 31) e15 r_1 rl_1 (by decide)).2
    refine q_putI (pc := 16) hG fl_X3_41 dX3_pop_16 hS0 tA0 ff_3_9 r_2 (by decide) rfl (fun s16 u16 w16 => ?_)
    replace hF := fx_P hF u16 rfl rfl
    have m16 : s16 a0 9 = .int v15 := by rw [u16]; exact q_up_same
    refine q_aload_n (pc := 19) hG dX3_pop_19 0 rfl ?_
    refine q_getR (pc := 20) (k2 := 117) (n2 := 32) hG fl_X3_38 dX3_pop_20 w16.1 tA0 ff_3_8 (fun b20 f20 T20 => ?_)
    replace hF := fx_R hF f20 rfl
    have f_3 := (w16.2 _ _ _ _ tA0 rfl).symm.trans f20
    refine q_aload_n (pc := 23) hG dX3_pop_23 0 rfl ?_
    refine q_getV (pc := 24) (v := .int v15) hG fl_X3_41 dX3_pop_24 tA0 m16 ?_
    refine q_iald (pc := 27) hG dX3_pop_27 w16.1 ai_117 T20 (q_ix r_2 (by decide)) (fun v27 f27 g27 => ?_)
    replace hF := fx_I hF f27 rfl
    have f_4 := (w16.2 _ _ _ _ T20 rfl).symm.trans f27
    exact q_irt hG hE dX3_pop_28 ⟨w16, g27, (fx_end hF hF0)⟩
  intro c4
  replace hF := fx_lt2 hF rfl rfl c4
  refine q_iconst (pc := 7) hG dX3_pop_7 ki_0 ?_
  exact q_irt hG hE dX3_pop_8 ⟨hS0, (q_r.mono rl_0 (by decide)), (by rw [tl_0]; exact fx_end hF hF0)⟩
theorem dX3_reckon_0 : decode cX3_reckon 0 = .ok (.iload_n 1, 1) := by decide +kernel
theorem dX3_reckon_1 : decode cX3_reckon 1 = .ok (.lookupswitch 104 #[(42, 67), (43, 59), (45, 63), (60, 71), (61, 93), (62, 82)], 59) := by decide +kernel
theorem dX3_reckon_60 : decode cX3_reckon 60 = .ok (.iload_n 2, 1) := by decide +kernel
theorem dX3_reckon_61 : decode cX3_reckon 61 = .ok (.iload_n 3, 1) := by decide +kernel
theorem dX3_reckon_62 : decode cX3_reckon 62 = .ok (.iadd, 1) := by decide +kernel
theorem dX3_reckon_63 : decode cX3_reckon 63 = .ok (.ireturn, 1) := by decide +kernel
theorem dX3_reckon_64 : decode cX3_reckon 64 = .ok (.iload_n 2, 1) := by decide +kernel
theorem dX3_reckon_65 : decode cX3_reckon 65 = .ok (.iload_n 3, 1) := by decide +kernel
theorem dX3_reckon_66 : decode cX3_reckon 66 = .ok (.isub, 1) := by decide +kernel
theorem dX3_reckon_67 : decode cX3_reckon 67 = .ok (.ireturn, 1) := by decide +kernel
theorem dX3_reckon_68 : decode cX3_reckon 68 = .ok (.iload_n 2, 1) := by decide +kernel
theorem dX3_reckon_69 : decode cX3_reckon 69 = .ok (.iload_n 3, 1) := by decide +kernel
theorem dX3_reckon_70 : decode cX3_reckon 70 = .ok (.imul, 1) := by decide +kernel
theorem dX3_reckon_71 : decode cX3_reckon 71 = .ok (.ireturn, 1) := by decide +kernel
theorem dX3_reckon_72 : decode cX3_reckon 72 = .ok (.iload_n 2, 1) := by decide +kernel
theorem dX3_reckon_73 : decode cX3_reckon 73 = .ok (.iload_n 3, 1) := by decide +kernel
theorem dX3_reckon_74 : decode cX3_reckon 74 = .ok (.if_icmp .ge 7, 3) := by decide +kernel
theorem dX3_reckon_77 : decode cX3_reckon 77 = .ok (.iconst 1, 1) := by decide +kernel
theorem dX3_reckon_78 : decode cX3_reckon 78 = .ok (.goto 4, 3) := by decide +kernel
theorem dX3_reckon_81 : decode cX3_reckon 81 = .ok (.iconst 0, 1) := by decide +kernel
theorem dX3_reckon_82 : decode cX3_reckon 82 = .ok (.ireturn, 1) := by decide +kernel
theorem dX3_reckon_83 : decode cX3_reckon 83 = .ok (.iload_n 2, 1) := by decide +kernel
theorem dX3_reckon_84 : decode cX3_reckon 84 = .ok (.iload_n 3, 1) := by decide +kernel
theorem dX3_reckon_85 : decode cX3_reckon 85 = .ok (.if_icmp .le 7, 3) := by decide +kernel
theorem dX3_reckon_88 : decode cX3_reckon 88 = .ok (.iconst 1, 1) := by decide +kernel
theorem dX3_reckon_89 : decode cX3_reckon 89 = .ok (.goto 4, 3) := by decide +kernel
theorem dX3_reckon_92 : decode cX3_reckon 92 = .ok (.iconst 0, 1) := by decide +kernel
theorem dX3_reckon_93 : decode cX3_reckon 93 = .ok (.ireturn, 1) := by decide +kernel
theorem dX3_reckon_94 : decode cX3_reckon 94 = .ok (.iload_n 2, 1) := by decide +kernel
theorem dX3_reckon_95 : decode cX3_reckon 95 = .ok (.iload_n 3, 1) := by decide +kernel
theorem dX3_reckon_96 : decode cX3_reckon 96 = .ok (.if_icmp .ne 7, 3) := by decide +kernel
theorem dX3_reckon_99 : decode cX3_reckon 99 = .ok (.iconst 1, 1) := by decide +kernel
theorem dX3_reckon_100 : decode cX3_reckon 100 = .ok (.goto 4, 3) := by decide +kernel
theorem dX3_reckon_103 : decode cX3_reckon 103 = .ok (.iconst 0, 1) := by decide +kernel
theorem dX3_reckon_104 : decode cX3_reckon 104 = .ok (.ireturn, 1) := by decide +kernel
theorem dX3_reckon_105 : decode cX3_reckon 105 = .ok (.iload_n 3, 1) := by decide +kernel
theorem dX3_reckon_106 : decode cX3_reckon 106 = .ok (.ifCond .ne 10, 3) := by decide +kernel
theorem dX3_reckon_109 : decode cX3_reckon 109 = .ok (.aload_n 0, 1) := by decide +kernel
theorem dX3_reckon_110 : decode cX3_reckon 110 = .ok (.iconst 1, 1) := by decide +kernel
theorem dX3_reckon_111 : decode cX3_reckon 111 = .ok (.putfield 44, 3) := by decide +kernel
theorem dX3_reckon_114 : decode cX3_reckon 114 = .ok (.iconst 0, 1) := by decide +kernel
theorem dX3_reckon_115 : decode cX3_reckon 115 = .ok (.ireturn, 1) := by decide +kernel
theorem dX3_reckon_116 : decode cX3_reckon 116 = .ok (.iload_n 1, 1) := by decide +kernel
theorem dX3_reckon_117 : decode cX3_reckon 117 = .ok (.bipush 47, 2) := by decide +kernel
theorem dX3_reckon_119 : decode cX3_reckon 119 = .ok (.if_icmp .ne 9, 3) := by decide +kernel
theorem dX3_reckon_122 : decode cX3_reckon 122 = .ok (.iload_n 2, 1) := by decide +kernel
theorem dX3_reckon_123 : decode cX3_reckon 123 = .ok (.iload_n 3, 1) := by decide +kernel
theorem dX3_reckon_124 : decode cX3_reckon 124 = .ok (.idiv, 1) := by decide +kernel
theorem dX3_reckon_125 : decode cX3_reckon 125 = .ok (.goto 6, 3) := by decide +kernel
theorem dX3_reckon_128 : decode cX3_reckon 128 = .ok (.iload_n 2, 1) := by decide +kernel
theorem dX3_reckon_129 : decode cX3_reckon 129 = .ok (.iload_n 3, 1) := by decide +kernel
theorem dX3_reckon_130 : decode cX3_reckon 130 = .ok (.irem, 1) := by decide +kernel
theorem dX3_reckon_131 : decode cX3_reckon 131 = .ok (.ireturn, 1) := by decide +kernel
def md_X3_reckon : List (Nat × Nat) := [(3, 10)]
set_option maxRecDepth 100000 in
set_option maxHeartbeats 4000000 in
theorem c_X3_reckon {l : Launch} {D : q_D} (τ : q_T) (σ : q_V) (a0 : Nat) (x1 : Int32) (x2 : Int32) (x3 : Int32) (hI : q_I τ σ) (tA0 : τ a0 = some (3, 1)) : q_Ci l D yX3_reckon cX3_reckon 4 (some .int) 0 0 τ σ [.ref a0, .int x1, .int x2, .int x3] (fun r σ1 => q_S md_X3_reckon τ σ σ1 ∧ (q_r r (-2147483648) 2147483647) ∧ ((r.toInt, fx_N σ1) = f_X3_reckon (fx_N σ) a0 x1.toInt x2.toInt x3.toInt)) := by
  refine q_meti rfl (Nat.le_of_ble_eq_true rfl) (fun X hG hE => ?_)
  show q_O X 0 0 τ σ 0 [(0, .ref a0), (1, .int x1), (2, .int x2), (3, .int x3)] []
  have hS0 : q_S md_X3_reckon τ σ σ := q_S.rf hI
  obtain ⟨Fv, hF⟩ : ∃ z, fx_eq z (f_X3_reckon (fx_N σ) a0 x1.toInt x2.toInt x3.toInt) := ⟨_, fx_rf⟩
  have hF0 := hF
  unfold f_X3_reckon at hF
  refine q_iload_n (pc := 0) hG dX3_reckon_0 1 rfl ?_
  by_cases z1_42 : x1.toInt = 42
  · skip
    replace hF := fx_eq1 hF rfl rfl z1_42
    refine q_ls (pc := 1) (off := 67) 68 hG dX3_reckon_1 rfl (by rw [z1_42]; rfl) rfl ?_
    refine q_iload_n (pc := 68) hG dX3_reckon_68 2 rfl ?_
    refine q_iload_n (pc := 69) hG dX3_reckon_69 3 rfl ?_
    refine q_imul (pc := 70) hG dX3_reckon_70 (fun v70 e70 => ?_)
    replace hF := fx_B_mul hF rfl rfl e70
    exact q_irt hG hE dX3_reckon_71 ⟨hS0, (q_r_any v70), (fx_end hF hF0)⟩
  by_cases z1_43 : x1.toInt = 43
  · skip
    replace hF := fx_eq2 hF rfl rfl z1_42
    replace hF := fx_eq1 hF rfl rfl z1_43
    refine q_ls (pc := 1) (off := 59) 60 hG dX3_reckon_1 rfl (by rw [z1_43]; rfl) rfl ?_
    refine q_iload_n (pc := 60) hG dX3_reckon_60 2 rfl ?_
    refine q_iload_n (pc := 61) hG dX3_reckon_61 3 rfl ?_
    refine q_iadd (pc := 62) hG dX3_reckon_62 (fun v62 e62 => ?_)
    replace hF := fx_B_add hF rfl rfl e62
    exact q_irt hG hE dX3_reckon_63 ⟨hS0, (q_r_any v62), (fx_end hF hF0)⟩
  by_cases z1_45 : x1.toInt = 45
  · skip
    replace hF := fx_eq2 hF rfl rfl z1_42
    replace hF := fx_eq2 hF rfl rfl z1_43
    replace hF := fx_eq1 hF rfl rfl z1_45
    refine q_ls (pc := 1) (off := 63) 64 hG dX3_reckon_1 rfl (by rw [z1_45]; rfl) rfl ?_
    refine q_iload_n (pc := 64) hG dX3_reckon_64 2 rfl ?_
    refine q_iload_n (pc := 65) hG dX3_reckon_65 3 rfl ?_
    refine q_isub (pc := 66) hG dX3_reckon_66 (fun v66 e66 => ?_)
    replace hF := fx_B_sub hF rfl rfl e66
    exact q_irt hG hE dX3_reckon_67 ⟨hS0, (q_r_any v66), (fx_end hF hF0)⟩
  by_cases z1_60 : x1.toInt = 60
  · skip
    replace hF := fx_eq2 hF rfl rfl z1_42
    replace hF := fx_eq2 hF rfl rfl z1_43
    replace hF := fx_eq2 hF rfl rfl z1_45
    replace hF := fx_eq1 hF rfl rfl z1_60
    refine q_ls (pc := 1) (off := 71) 72 hG dX3_reckon_1 rfl (by rw [z1_60]; rfl) rfl ?_
    refine q_iload_n (pc := 72) hG dX3_reckon_72 2 rfl ?_
    refine q_iload_n (pc := 73) hG dX3_reckon_73 3 rfl ?_
    refine q_icmp_ge (pc := 74) hG 81 dX3_reckon_74 rfl ?_ ?_
    · intro c74
      replace hF := fx_lt2 hF rfl rfl c74
      refine q_iconst (pc := 81) hG dX3_reckon_81 ki_0 ?_
      exact q_irt hG hE dX3_reckon_82 ⟨hS0, (q_r.mono rl_0 (by decide)), (by rw [tl_0]; exact fx_end hF hF0)⟩
    intro c74
    replace hF := fx_lt1 hF rfl rfl c74
    refine q_iconst (pc := 77) hG dX3_reckon_77 ki_1 ?_
    refine q_goto (pc := 78) 82 hG dX3_reckon_78 rfl ?_
    exact q_irt hG hE dX3_reckon_82 ⟨hS0, (q_r.mono rl_1 (by decide)), (by rw [tl_1]; exact fx_end hF hF0)⟩
  by_cases z1_61 : x1.toInt = 61
  · skip
    replace hF := fx_eq2 hF rfl rfl z1_42
    replace hF := fx_eq2 hF rfl rfl z1_43
    replace hF := fx_eq2 hF rfl rfl z1_45
    replace hF := fx_eq2 hF rfl rfl z1_60
    replace hF := fx_eq1 hF rfl rfl z1_61
    refine q_ls (pc := 1) (off := 93) 94 hG dX3_reckon_1 rfl (by rw [z1_61]; rfl) rfl ?_
    refine q_iload_n (pc := 94) hG dX3_reckon_94 2 rfl ?_
    refine q_iload_n (pc := 95) hG dX3_reckon_95 3 rfl ?_
    refine q_icmp_ne (pc := 96) hG 103 dX3_reckon_96 rfl ?_ ?_
    · intro c96
      replace hF := fx_eq2 hF rfl rfl c96
      refine q_iconst (pc := 103) hG dX3_reckon_103 ki_0 ?_
      exact q_irt hG hE dX3_reckon_104 ⟨hS0, (q_r.mono rl_0 (by decide)), (by rw [tl_0]; exact fx_end hF hF0)⟩
    intro c96
    replace hF := fx_eq1 hF rfl rfl c96
    refine q_iconst (pc := 99) hG dX3_reckon_99 ki_1 ?_
    refine q_goto (pc := 100) 104 hG dX3_reckon_100 rfl ?_
    exact q_irt hG hE dX3_reckon_104 ⟨hS0, (q_r.mono rl_1 (by decide)), (by rw [tl_1]; exact fx_end hF hF0)⟩
  by_cases z1_62 : x1.toInt = 62
  · skip
    replace hF := fx_eq2 hF rfl rfl z1_42
    replace hF := fx_eq2 hF rfl rfl z1_43
    replace hF := fx_eq2 hF rfl rfl z1_45
    replace hF := fx_eq2 hF rfl rfl z1_60
    replace hF := fx_eq2 hF rfl rfl z1_61
    replace hF := fx_eq1 hF rfl rfl z1_62
    refine q_ls (pc := 1) (off := 82) 83 hG dX3_reckon_1 rfl (by rw [z1_62]; rfl) rfl ?_
    refine q_iload_n (pc := 83) hG dX3_reckon_83 2 rfl ?_
    refine q_iload_n (pc := 84) hG dX3_reckon_84 3 rfl ?_
    refine q_icmp_le (pc := 85) hG 92 dX3_reckon_85 rfl ?_ ?_
    · intro c85
      replace hF := fx_lt2 hF rfl rfl c85
      refine q_iconst (pc := 92) hG dX3_reckon_92 ki_0 ?_
      exact q_irt hG hE dX3_reckon_93 ⟨hS0, (q_r.mono rl_0 (by decide)), (by rw [tl_0]; exact fx_end hF hF0)⟩
    intro c85
    replace hF := fx_lt1 hF rfl rfl c85
    refine q_iconst (pc := 88) hG dX3_reckon_88 ki_1 ?_
    refine q_goto (pc := 89) 93 hG dX3_reckon_89 rfl ?_
    exact q_irt hG hE dX3_reckon_93 ⟨hS0, (q_r.mono rl_1 (by decide)), (by rw [tl_1]; exact fx_end hF hF0)⟩
  replace hF := fx_eq2 hF rfl rfl z1_42
  replace hF := fx_eq2 hF rfl rfl z1_43
  replace hF := fx_eq2 hF rfl rfl z1_45
  replace hF := fx_eq2 hF rfl rfl z1_60
  replace hF := fx_eq2 hF rfl rfl z1_61
  replace hF := fx_eq2 hF rfl rfl z1_62
  refine q_ls (pc := 1) (off := 104) 105 hG dX3_reckon_1 rfl (by show Op.lookupswitch.offset [(42, 67), (43, 59), (45, 63), (60, 71), (61, 93), (62, 82)] 104 _ = _; rw [Op.lookupswitch.offset_cons, if_neg (fun q => z1_42 q.symm), Op.lookupswitch.offset_cons, if_neg (fun q => z1_43 q.symm), Op.lookupswitch.offset_cons, if_neg (fun q => z1_45 q.symm), Op.lookupswitch.offset_cons, if_neg (fun q => z1_60 q.symm), Op.lookupswitch.offset_cons, if_neg (fun q => z1_61 q.symm), Op.lookupswitch.offset_cons, if_neg (fun q => z1_62 q.symm), Op.lookupswitch.offset_nil]) rfl ?_
  refine q_iload_n (pc := 105) hG dX3_reckon_105 3 rfl ?_
  refine q_if_ne (pc := 106) hG 116 dX3_reckon_106 rfl ?_ ?_
  · intro c106
    replace hF := fx_eq2 hF rfl rfl c106
    refine q_iload_n (pc := 116) hG dX3_reckon_116 1 rfl ?_
    refine q_bipush (pc := 117) hG dX3_reckon_117 kb_47 ?_
    refine q_icmp_ne (pc := 119) hG 128 dX3_reckon_119 rfl ?_ ?_
    · intro c119
      replace hF := fx_eq2 hF rfl tl_47 c119
      refine q_iload_n (pc := 128) hG dX3_reckon_128 2 rfl ?_
      refine q_iload_n (pc := 129) hG dX3_reckon_129 3 rfl ?_
      refine q_irem (pc := 130) hG dX3_reckon_130 (q_nz (by have o0 := c106; omega)) (fun v130 e130 => ?_)
      replace hF := fx_B_rem hF rfl rfl e130
      exact q_irt hG hE dX3_reckon_131 ⟨hS0, (q_r_any v130), (fx_end hF hF0)⟩
    intro c119
    replace hF := fx_eq1 hF rfl tl_47 c119
    refine q_iload_n (pc := 122) hG dX3_reckon_122 2 rfl ?_
    refine q_iload_n (pc := 123) hG dX3_reckon_123 3 rfl ?_
    refine q_idiv (pc := 124) hG dX3_reckon_124 (q_nz (by have o0 := c106; omega)) (fun v124 e124 => ?_)
    replace hF := fx_B_div hF rfl rfl e124
    refine q_goto (pc := 125) 131 hG dX3_reckon_125 rfl ?_
    exact q_irt hG hE dX3_reckon_131 ⟨hS0, (q_r_any v124), (fx_end hF hF0)⟩
  intro c106
  replace hF := fx_eq1 hF rfl rfl c106
  refine q_aload_n (pc := 109) hG dX3_reckon_109 0 rfl ?_
  refine q_iconst (pc := 110) hG dX3_reckon_110 ki_1 ?_
  refine q_putZ (pc := 111) hG fl_X3_44 dX3_reckon_111 hS0 tA0 ff_3_10 (q_r.mono rl_1 (by decide)) (by decide) rfl (fun s111 u111 w111 => ?_)
  replace hF := fx_P hF u111 rfl tl_1
  have m111 : s111 a0 10 = .int 1 := by rw [u111]; exact q_up_same
  refine q_iconst (pc := 114) hG dX3_reckon_114 ki_0 ?_
  exact q_irt hG hE dX3_reckon_115 ⟨w111, (q_r.mono rl_0 (by decide)), (by rw [tl_0]; exact fx_end hF hF0)⟩
theorem dX3_valueOf_0 : decode cX3_valueOf 0 = .ok (.aload_n 0, 1) := by decide +kernel
theorem dX3_valueOf_1 : decode cX3_valueOf 1 = .ok (.getfield 47, 3) := by decide +kernel
theorem dX3_valueOf_4 : decode cX3_valueOf 4 = .ok (.ifnull 24, 3) := by decide +kernel
theorem dX3_valueOf_7 : decode cX3_valueOf 7 = .ok (.aload_n 0, 1) := by decide +kernel
theorem dX3_valueOf_8 : decode cX3_valueOf 8 = .ok (.getfield 51, 3) := by decide +kernel
theorem dX3_valueOf_11 : decode cX3_valueOf 11 = .ok (.ifCond .lt 17, 3) := by decide +kernel
theorem dX3_valueOf_14 : decode cX3_valueOf 14 = .ok (.aload_n 0, 1) := by decide +kernel
theorem dX3_valueOf_15 : decode cX3_valueOf 15 = .ok (.getfield 51, 3) := by decide +kernel
theorem dX3_valueOf_18 : decode cX3_valueOf 18 = .ok (.aload_n 0, 1) := by decide +kernel
theorem dX3_valueOf_19 : decode cX3_valueOf 19 = .ok (.getfield 47, 3) := by decide +kernel
theorem dX3_valueOf_22 : decode cX3_valueOf 22 = .ok (.getfield 94, 3) := by decide +kernel
theorem dX3_valueOf_25 : decode cX3_valueOf 25 = .ok (.if_icmp .lt 5, 3) := by decide +kernel
theorem dX3_valueOf_28 : decode cX3_valueOf 28 = .ok (.iconst 0, 1) := by decide +kernel
theorem dX3_valueOf_29 : decode cX3_valueOf 29 = .ok (.ireturn, 1) := by decide +kernel
theorem dX3_valueOf_30 : decode cX3_valueOf 30 = .ok (.iload_n 1, 1) := by decide +kernel
theorem dX3_valueOf_31 : decode cX3_valueOf 31 = .ok (.tableswitch 214 97 119 #[204, 214, 162, 214, 214, 214, 214, 131, 105, 214, 118, 214, 214, 110, 214, 214, 214, 209, 214, 157, 214, 214, 144], 105) := by decide +kernel
theorem dX3_valueOf_136 : decode cX3_valueOf 136 = .ok (.aload_n 0, 1) := by decide +kernel
theorem dX3_valueOf_137 : decode cX3_valueOf 137 = .ok (.getfield 51, 3) := by decide +kernel
theorem dX3_valueOf_140 : decode cX3_valueOf 140 = .ok (.ireturn, 1) := by decide +kernel
theorem dX3_valueOf_141 : decode cX3_valueOf 141 = .ok (.aload_n 0, 1) := by decide +kernel
theorem dX3_valueOf_142 : decode cX3_valueOf 142 = .ok (.getfield 47, 3) := by decide +kernel
theorem dX3_valueOf_145 : decode cX3_valueOf 145 = .ok (.getfield 94, 3) := by decide +kernel
theorem dX3_valueOf_148 : decode cX3_valueOf 148 = .ok (.ireturn, 1) := by decide +kernel
theorem dX3_valueOf_149 : decode cX3_valueOf 149 = .ok (.aload_n 0, 1) := by decide +kernel
theorem dX3_valueOf_150 : decode cX3_valueOf 150 = .ok (.getfield 47, 3) := by decide +kernel
theorem dX3_valueOf_153 : decode cX3_valueOf 153 = .ok (.getfield 99, 3) := by decide +kernel
theorem dX3_valueOf_156 : decode cX3_valueOf 156 = .ok (.aload_n 0, 1) := by decide +kernel
theorem dX3_valueOf_157 : decode cX3_valueOf 157 = .ok (.getfield 51, 3) := by decide +kernel
theorem dX3_valueOf_160 : decode cX3_valueOf 160 = .ok (.iaload, 1) := by decide +kernel
theorem dX3_valueOf_161 : decode cX3_valueOf 161 = .ok (.ireturn, 1) := by decide +kernel
theorem dX3_valueOf_162 : decode cX3_valueOf 162 = .ok (.aload_n 0, 1) := by decide +kernel
theorem dX3_valueOf_163 : decode cX3_valueOf 163 = .ok (.getfield 47, 3) := by decide +kernel
theorem dX3_valueOf_166 : decode cX3_valueOf 166 = .ok (.getfield 102, 3) := by decide +kernel
theorem dX3_valueOf_169 : decode cX3_valueOf 169 = .ok (.aload_n 0, 1) := by decide +kernel
theorem dX3_valueOf_170 : decode cX3_valueOf 170 = .ok (.getfield 51, 3) := by decide +kernel
theorem dX3_valueOf_173 : decode cX3_valueOf 173 = .ok (.iaload, 1) := by decide +kernel
theorem dX3_valueOf_174 : decode cX3_valueOf 174 = .ok (.ireturn, 1) := by decide +kernel
theorem dX3_valueOf_175 : decode cX3_valueOf 175 = .ok (.aload_n 0, 1) := by decide +kernel
theorem dX3_valueOf_176 : decode cX3_valueOf 176 = .ok (.getfield 47, 3) := by decide +kernel
theorem dX3_valueOf_179 : decode cX3_valueOf 179 = .ok (.getfield 105, 3) := by decide +kernel
theorem dX3_valueOf_182 : decode cX3_valueOf 182 = .ok (.aload_n 0, 1) := by decide +kernel
theorem dX3_valueOf_183 : decode cX3_valueOf 183 = .ok (.getfield 51, 3) := by decide +kernel
theorem dX3_valueOf_186 : decode cX3_valueOf 186 = .ok (.iaload, 1) := by decide +kernel
theorem dX3_valueOf_187 : decode cX3_valueOf 187 = .ok (.ireturn, 1) := by decide +kernel
theorem dX3_valueOf_188 : decode cX3_valueOf 188 = .ok (.aload_n 0, 1) := by decide +kernel
theorem dX3_valueOf_189 : decode cX3_valueOf 189 = .ok (.getfield 54, 3) := by decide +kernel
theorem dX3_valueOf_192 : decode cX3_valueOf 192 = .ok (.ireturn, 1) := by decide +kernel
theorem dX3_valueOf_193 : decode cX3_valueOf 193 = .ok (.aload_n 0, 1) := by decide +kernel
theorem dX3_valueOf_194 : decode cX3_valueOf 194 = .ok (.getfield 51, 3) := by decide +kernel
theorem dX3_valueOf_197 : decode cX3_valueOf 197 = .ok (.ifCond .ne 7, 3) := by decide +kernel
theorem dX3_valueOf_200 : decode cX3_valueOf 200 = .ok (.iconst 0, 1) := by decide +kernel
theorem dX3_valueOf_201 : decode cX3_valueOf 201 = .ok (.goto 33, 3) := by decide +kernel
theorem dX3_valueOf_204 : decode cX3_valueOf 204 = .ok (.aload_n 0, 1) := by decide +kernel
theorem dX3_valueOf_205 : decode cX3_valueOf 205 = .ok (.getfield 47, 3) := by decide +kernel
theorem dX3_valueOf_208 : decode cX3_valueOf 208 = .ok (.getfield 99, 3) := by decide +kernel
theorem dX3_valueOf_211 : decode cX3_valueOf 211 = .ok (.aload_n 0, 1) := by decide +kernel
theorem dX3_valueOf_212 : decode cX3_valueOf 212 = .ok (.getfield 51, 3) := by decide +kernel
theorem dX3_valueOf_215 : decode cX3_valueOf 215 = .ok (.iaload, 1) := by decide +kernel
theorem dX3_valueOf_216 : decode cX3_valueOf 216 = .ok (.aload_n 0, 1) := by decide +kernel
theorem dX3_valueOf_217 : decode cX3_valueOf 217 = .ok (.getfield 47, 3) := by decide +kernel
theorem dX3_valueOf_220 : decode cX3_valueOf 220 = .ok (.getfield 99, 3) := by decide +kernel
theorem dX3_valueOf_223 : decode cX3_valueOf 223 = .ok (.aload_n 0, 1) := by decide +kernel
theorem dX3_valueOf_224 : decode cX3_valueOf 224 = .ok (.getfield 51, 3) := by decide +kernel
theorem dX3_valueOf_227 : decode cX3_valueOf 227 = .ok (.iconst 1, 1) := by decide +kernel
theorem dX3_valueOf_228 : decode cX3_valueOf 228 = .ok (.isub, 1) := by decide +kernel
theorem dX3_valueOf_229 : decode cX3_valueOf 229 = .ok (.iaload, 1) := by decide +kernel
theorem dX3_valueOf_230 : decode cX3_valueOf 230 = .ok (.isub, 1) := by decide +kernel
theorem dX3_valueOf_231 : decode cX3_valueOf 231 = .ok (.invokestatic 108, 3) := by decide +kernel
theorem dX3_valueOf_234 : decode cX3_valueOf 234 = .ok (.ireturn, 1) := by decide +kernel
theorem dX3_valueOf_235 : decode cX3_valueOf 235 = .ok (.aload_n 0, 1) := by decide +kernel
theorem dX3_valueOf_236 : decode cX3_valueOf 236 = .ok (.getfield 57, 3) := by decide +kernel
theorem dX3_valueOf_239 : decode cX3_valueOf 239 = .ok (.ireturn, 1) := by decide +kernel
theorem dX3_valueOf_240 : decode cX3_valueOf 240 = .ok (.aload_n 0, 1) := by decide +kernel
theorem dX3_valueOf_241 : decode cX3_valueOf 241 = .ok (.getfield 60, 3) := by decide +kernel
theorem dX3_valueOf_244 : decode cX3_valueOf 244 = .ok (.ireturn, 1) := by decide +kernel
theorem dX3_valueOf_245 : decode cX3_valueOf 245 = .ok (.iconst 0, 1) := by decide +kernel
theorem dX3_valueOf_246 : decode cX3_valueOf 246 = .ok (.ireturn, 1) := by decide +kernel
set_option maxRecDepth 100000 in
set_option maxHeartbeats 4000000 in
theorem c_X3_valueOf {l : Launch} {D : q_D} (τ : q_T) (σ : q_V) (a0 : Nat) (x1 : Int32) (hI : q_I τ σ) (tA0 : τ a0 = some (3, 1)) (ar : Nat) (hr : σ a0 11 = .ref ar) (Tr : τ ar = some (6, 1)) : q_Cp l D yX3_valueOf cX3_valueOf 2 (some .int) 1 20 τ σ [.ref a0, .int x1] (fun r => (q_r r (-2147483648) 2147483647) ∧ (r.toInt = f_X3_valueOf (fx_N σ) a0 x1.toInt)) := by
  refine q_meti rfl (Nat.le_of_ble_eq_true rfl) (fun X hG hE => ?_)
  show q_O X 0 0 τ σ 0 [(0, .ref a0), (1, .int x1)] []
  obtain ⟨Fv, hF⟩ : ∃ z, fx_eq z (f_X3_valueOf (fx_N σ) a0 x1.toInt) := ⟨_, fx_rf⟩
  have hF0 := hF
  unfold f_X3_valueOf at hF
  replace hF := fx_R hF hr rfl
  refine q_aload_n (pc := 0) hG dX3_valueOf_0 0 rfl ?_
  refine q_getV (pc := 1) (v := .ref ar) hG fl_X3_47 dX3_valueOf_1 tA0 hr ?_
  refine q_ifnullR (pc := 4) hG dX3_valueOf_4 ?_
  refine q_aload_n (pc := 7) hG dX3_valueOf_7 0 rfl ?_
  refine q_getI (pc := 8) hG fl_X3_51 dX3_valueOf_8 hI tA0 ff_3_12 (fun v8 f8 g8 => ?_)
  replace hF := fx_I hF f8 rfl
  refine q_if_lt (pc := 11) hG 28 dX3_valueOf_11 rfl ?_ ?_
  · intro c11
    replace hF := fx_lt1 hF rfl rfl c11
    refine q_iconst (pc := 28) hG dX3_valueOf_28 ki_0 ?_
    exact q_irt hG hE dX3_valueOf_29 ⟨rfl, (q_r.mono rl_0 (by decide)), (by rw [tl_0]; exact fx_end hF hF0)⟩
  intro c11
  replace hF := fx_lt2 hF rfl rfl c11
  refine q_aload_n (pc := 14) hG dX3_valueOf_14 0 rfl ?_
  refine q_getV (pc := 15) (v := .int v8) hG fl_X3_51 dX3_valueOf_15 tA0 f8 ?_
  refine q_aload_n (pc := 18) hG dX3_valueOf_18 0 rfl ?_
  refine q_getV (pc := 19) (v := .ref ar) hG fl_X3_47 dX3_valueOf_19 tA0 hr ?_
  refine q_getI (pc := 22) hG fl_X3_94 dX3_valueOf_22 hI Tr ff_6_0 (fun v22 f22 g22 => ?_)
  replace hF := fx_I hF f22 rfl
  refine q_icmp_lt (pc := 25) hG 30 dX3_valueOf_25 rfl ?_ ?_
  · intro c25
    have r_1 := q_zge g8 c11
    replace hF := fx_lt1 hF rfl rfl c25
    refine q_iload_n (pc := 30) hG dX3_valueOf_30 1 rfl ?_
    by_cases z31_97 : x1.toInt = 97
    · skip
      replace hF := fx_eq1 hF rfl rfl z31_97
      refine q_tsIn (pc := 31) 97 235 hG dX3_valueOf_31 z31_97 (by decide) rfl rfl ?_
      refine q_aload_n (pc := 235) hG dX3_valueOf_235 0 rfl ?_
      refine q_getI (pc := 236) hG fl_X3_57 dX3_valueOf_236 hI tA0 ff_3_14 (fun v236 f236 g236 => ?_)
      replace hF := fx_I hF f236 rfl
      exact q_irt hG hE dX3_valueOf_239 ⟨rfl, g236, (fx_end hF hF0)⟩
    by_cases z31_98 : x1.toInt = 98
    · skip
      replace hF := fx_eq2 hF rfl rfl z31_97
      replace hF := fx_eq1 hF rfl rfl z31_98
      refine q_tsIn (pc := 31) 98 245 hG dX3_valueOf_31 z31_98 (by decide) rfl rfl ?_
      refine q_iconst (pc := 245) hG dX3_valueOf_245 ki_0 ?_
      exact q_irt hG hE dX3_valueOf_246 ⟨rfl, (q_r.mono rl_0 (by decide)), (by rw [tl_0]; exact fx_end hF hF0)⟩
    by_cases z31_99 : x1.toInt = 99
    · skip
      replace hF := fx_eq2 hF rfl rfl z31_97
      replace hF := fx_eq2 hF rfl rfl z31_98
      replace hF := fx_eq1 hF rfl rfl z31_99
      refine q_tsIn (pc := 31) 99 193 hG dX3_valueOf_31 z31_99 (by decide) rfl rfl ?_
      refine q_aload_n (pc := 193) hG dX3_valueOf_193 0 rfl ?_
      refine q_getV (pc := 194) (v := .int v8) hG fl_X3_51 dX3_valueOf_194 tA0 f8 ?_
      refine q_if_ne (pc := 197) hG 204 dX3_valueOf_197 rfl ?_ ?_
      · intro c197
        have r_2 := q_rlt r_1 g22 c25 63 (by decide)
        replace hF := fx_eq2 hF rfl rfl c197
        refine q_aload_n (pc := 204) hG dX3_valueOf_204 0 rfl ?_
        refine q_getV (pc := 205) (v := .ref ar) hG fl_X3_47 dX3_valueOf_205 tA0 hr ?_
        refine q_getR (pc := 208) (k2 := 118) (n2 := 64) hG fl_X3_99 dX3_valueOf_208 hI Tr ff_6_1 (fun b208 f208 T208 => ?_)
        replace hF := fx_R hF f208 rfl
        refine q_aload_n (pc := 211) hG dX3_valueOf_211 0 rfl ?_
        refine q_getV (pc := 212) (v := .int v8) hG fl_X3_51 dX3_valueOf_212 tA0 f8 ?_
        have r_3 := q_neL (c := 1) r_2 c197 (by decide)
        refine q_iald (pc := 215) hG dX3_valueOf_215 hI ai_118 T208 (q_ix r_3 (by decide)) (fun v215 f215 g215 => ?_)
        replace hF := fx_I hF f215 rfl
        refine q_aload_n (pc := 216) hG dX3_valueOf_216 0 rfl ?_
        refine q_getV (pc := 217) (v := .ref ar) hG fl_X3_47 dX3_valueOf_217 tA0 hr ?_
        refine q_getV (pc := 220) (v := .ref b208) hG fl_X3_99 dX3_valueOf_220 Tr f208 ?_
        refine q_aload_n (pc := 223) hG dX3_valueOf_223 0 rfl ?_
        refine q_getV (pc := 224) (v := .int v8) hG fl_X3_51 dX3_valueOf_224 tA0 f8 ?_
        refine q_iconst (pc := 227) hG dX3_valueOf_227 ki_1 ?_
        refine q_isub (pc := 228) hG dX3_valueOf_228 (fun v228 e228 => ?_)
        replace hF := fx_sub hF rfl tl_1 (q_subN (lo := 0) (hi := 62) e228 r_3 rl_1 (by decide)).1
        have r_4 := (q_subN (lo := 0) (hi := 62) e228 r_3 rl_1 (by decide)).2
        refine q_iald (pc := 229) hG dX3_valueOf_229 hI ai_118 T208 (q_ix r_4 (by decide)) (fun v229 f229 g229 => ?_)
        replace hF := fx_I hF f229 rfl
        refine q_isub (pc := 230) hG dX3_valueOf_230 (fun v230 e230 => ?_)
        replace hF := fx_B_sub hF rfl rfl e230
        refine q_pS (pc := 231) [.int v230] [] hG (c_J9_abs_0f7a4 τ σ v230 hI) my_J9_abs_0f7a4 w271 w447 dX3_valueOf_231 rfl rfl (Nat.le_of_ble_eq_true rfl) (by decide) (fun v231 p231 => ?_)
        replace hF := fx_E hF p231.2.1
        exact q_irt hG hE dX3_valueOf_234 ⟨rfl, p231.1, (fx_end hF hF0)⟩
      intro c197
      have r_5 := q_rlt r_1 g22 c25 63 (by decide)
      replace hF := fx_eq1 hF rfl rfl c197
      refine q_iconst (pc := 200) hG dX3_valueOf_200 ki_0 ?_
      refine q_goto (pc := 201) 234 hG dX3_valueOf_201 rfl ?_
      exact q_irt hG hE dX3_valueOf_234 ⟨rfl, (q_r.mono rl_0 (by decide)), (by rw [tl_0]; exact fx_end hF hF0)⟩
    by_cases z31_100 : x1.toInt = 100
    · skip
      replace hF := fx_eq2 hF rfl rfl z31_97
      replace hF := fx_eq2 hF rfl rfl z31_98
      replace hF := fx_eq2 hF rfl rfl z31_99
      replace hF := fx_eq1 hF rfl rfl z31_100
      refine q_tsIn (pc := 31) 100 245 hG dX3_valueOf_31 z31_100 (by decide) rfl rfl ?_
      refine q_iconst (pc := 245) hG dX3_valueOf_245 ki_0 ?_
      exact q_irt hG hE dX3_valueOf_246 ⟨rfl, (q_r.mono rl_0 (by decide)), (by rw [tl_0]; exact fx_end hF hF0)⟩
    by_cases z31_101 : x1.toInt = 101
    · skip
      replace hF := fx_eq2 hF rfl rfl z31_97
      replace hF := fx_eq2 hF rfl rfl z31_98
      replace hF := fx_eq2 hF rfl rfl z31_99
      replace hF := fx_eq2 hF rfl rfl z31_100
      replace hF := fx_eq1 hF rfl rfl z31_101
      refine q_tsIn (pc := 31) 101 245 hG dX3_valueOf_31 z31_101 (by decide) rfl rfl ?_
      refine q_iconst (pc := 245) hG dX3_valueOf_245 ki_0 ?_
      exact q_irt hG hE dX3_valueOf_246 ⟨rfl, (q_r.mono rl_0 (by decide)), (by rw [tl_0]; exact fx_end hF hF0)⟩
    by_cases z31_102 : x1.toInt = 102
    · skip
      replace hF := fx_eq2 hF rfl rfl z31_97
      replace hF := fx_eq2 hF rfl rfl z31_98
      replace hF := fx_eq2 hF rfl rfl z31_99
      replace hF := fx_eq2 hF rfl rfl z31_100
      replace hF := fx_eq2 hF rfl rfl z31_101
      replace hF := fx_eq1 hF rfl rfl z31_102
      refine q_tsIn (pc := 31) 102 245 hG dX3_valueOf_31 z31_102 (by decide) rfl rfl ?_
      refine q_iconst (pc := 245) hG dX3_valueOf_245 ki_0 ?_
      exact q_irt hG hE dX3_valueOf_246 ⟨rfl, (q_r.mono rl_0 (by decide)), (by rw [tl_0]; exact fx_end hF hF0)⟩
    by_cases z31_103 : x1.toInt = 103
    · skip
      replace hF := fx_eq2 hF rfl rfl z31_97
      replace hF := fx_eq2 hF rfl rfl z31_98
      replace hF := fx_eq2 hF rfl rfl z31_99
      replace hF := fx_eq2 hF rfl rfl z31_100
      replace hF := fx_eq2 hF rfl rfl z31_101
      replace hF := fx_eq2 hF rfl rfl z31_102
      replace hF := fx_eq1 hF rfl rfl z31_103
      refine q_tsIn (pc := 31) 103 245 hG dX3_valueOf_31 z31_103 (by decide) rfl rfl ?_
      refine q_iconst (pc := 245) hG dX3_valueOf_245 ki_0 ?_
      exact q_irt hG hE dX3_valueOf_246 ⟨rfl, (q_r.mono rl_0 (by decide)), (by rw [tl_0]; exact fx_end hF hF0)⟩
    by_cases z31_104 : x1.toInt = 104
    · skip
      replace hF := fx_eq2 hF rfl rfl z31_97
      replace hF := fx_eq2 hF rfl rfl z31_98
      replace hF := fx_eq2 hF rfl rfl z31_99
      replace hF := fx_eq2 hF rfl rfl z31_100
      replace hF := fx_eq2 hF rfl rfl z31_101
      replace hF := fx_eq2 hF rfl rfl z31_102
      replace hF := fx_eq2 hF rfl rfl z31_103
      replace hF := fx_eq1 hF rfl rfl z31_104
      refine q_tsIn (pc := 31) 104 162 hG dX3_valueOf_31 z31_104 (by decide) rfl rfl ?_
      refine q_aload_n (pc := 162) hG dX3_valueOf_162 0 rfl ?_
      refine q_getV (pc := 163) (v := .ref ar) hG fl_X3_47 dX3_valueOf_163 tA0 hr ?_
      refine q_getR (pc := 166) (k2 := 118) (n2 := 64) hG fl_X3_102 dX3_valueOf_166 hI Tr ff_6_2 (fun b166 f166 T166 => ?_)
      replace hF := fx_R hF f166 rfl
      refine q_aload_n (pc := 169) hG dX3_valueOf_169 0 rfl ?_
      refine q_getV (pc := 170) (v := .int v8) hG fl_X3_51 dX3_valueOf_170 tA0 f8 ?_
      have r_6 := q_rlt r_1 g22 c25 63 (by decide)
      refine q_iald (pc := 173) hG dX3_valueOf_173 hI ai_118 T166 (q_ix r_6 (by decide)) (fun v173 f173 g173 => ?_)
      replace hF := fx_I hF f173 rfl
      exact q_irt hG hE dX3_valueOf_174 ⟨rfl, g173, (fx_end hF hF0)⟩
    by_cases z31_105 : x1.toInt = 105
    · skip
      replace hF := fx_eq2 hF rfl rfl z31_97
      replace hF := fx_eq2 hF rfl rfl z31_98
      replace hF := fx_eq2 hF rfl rfl z31_99
      replace hF := fx_eq2 hF rfl rfl z31_100
      replace hF := fx_eq2 hF rfl rfl z31_101
      replace hF := fx_eq2 hF rfl rfl z31_102
      replace hF := fx_eq2 hF rfl rfl z31_103
      replace hF := fx_eq2 hF rfl rfl z31_104
      replace hF := fx_eq1 hF rfl rfl z31_105
      refine q_tsIn (pc := 31) 105 136 hG dX3_valueOf_31 z31_105 (by decide) rfl rfl ?_
      refine q_aload_n (pc := 136) hG dX3_valueOf_136 0 rfl ?_
      refine q_getV (pc := 137) (v := .int v8) hG fl_X3_51 dX3_valueOf_137 tA0 f8 ?_
      have r_7 := q_rlt r_1 g22 c25 63 (by decide)
      exact q_irt hG hE dX3_valueOf_140 ⟨rfl, (q_r.mono r_7 (by decide)), (fx_end hF hF0)⟩
    by_cases z31_106 : x1.toInt = 106
    · skip
      replace hF := fx_eq2 hF rfl rfl z31_97
      replace hF := fx_eq2 hF rfl rfl z31_98
      replace hF := fx_eq2 hF rfl rfl z31_99
      replace hF := fx_eq2 hF rfl rfl z31_100
      replace hF := fx_eq2 hF rfl rfl z31_101
      replace hF := fx_eq2 hF rfl rfl z31_102
      replace hF := fx_eq2 hF rfl rfl z31_103
      replace hF := fx_eq2 hF rfl rfl z31_104
      replace hF := fx_eq2 hF rfl rfl z31_105
      replace hF := fx_eq1 hF rfl rfl z31_106
      refine q_tsIn (pc := 31) 106 245 hG dX3_valueOf_31 z31_106 (by decide) rfl rfl ?_
      refine q_iconst (pc := 245) hG dX3_valueOf_245 ki_0 ?_
      exact q_irt hG hE dX3_valueOf_246 ⟨rfl, (q_r.mono rl_0 (by decide)), (by rw [tl_0]; exact fx_end hF hF0)⟩
    by_cases z31_107 : x1.toInt = 107
    · skip
      replace hF := fx_eq2 hF rfl rfl z31_97
      replace hF := fx_eq2 hF rfl rfl z31_98
      replace hF := fx_eq2 hF rfl rfl z31_99
      replace hF := fx_eq2 hF rfl rfl z31_100
      replace hF := fx_eq2 hF rfl rfl z31_101
      replace hF := fx_eq2 hF rfl rfl z31_102
      replace hF := fx_eq2 hF rfl rfl z31_103
      replace hF := fx_eq2 hF rfl rfl z31_104
      replace hF := fx_eq2 hF rfl rfl z31_105
      replace hF := fx_eq2 hF rfl rfl z31_106
      replace hF := fx_eq1 hF rfl rfl z31_107
      refine q_tsIn (pc := 31) 107 149 hG dX3_valueOf_31 z31_107 (by decide) rfl rfl ?_
      refine q_aload_n (pc := 149) hG dX3_valueOf_149 0 rfl ?_
      refine q_getV (pc := 150) (v := .ref ar) hG fl_X3_47 dX3_valueOf_150 tA0 hr ?_
      refine q_getR (pc := 153) (k2 := 118) (n2 := 64) hG fl_X3_99 dX3_valueOf_153 hI Tr ff_6_1 (fun b153 f153 T153 => ?_)
      replace hF := fx_R hF f153 rfl
      refine q_aload_n (pc := 156) hG dX3_valueOf_156 0 rfl ?_
      refine q_getV (pc := 157) (v := .int v8) hG fl_X3_51 dX3_valueOf_157 tA0 f8 ?_
      have r_8 := q_rlt r_1 g22 c25 63 (by decide)
      refine q_iald (pc := 160) hG dX3_valueOf_160 hI ai_118 T153 (q_ix r_8 (by decide)) (fun v160 f160 g160 => ?_)
      replace hF := fx_I hF f160 rfl
      exact q_irt hG hE dX3_valueOf_161 ⟨rfl, g160, (fx_end hF hF0)⟩
    by_cases z31_108 : x1.toInt = 108
    · skip
      replace hF := fx_eq2 hF rfl rfl z31_97
      replace hF := fx_eq2 hF rfl rfl z31_98
      replace hF := fx_eq2 hF rfl rfl z31_99
      replace hF := fx_eq2 hF rfl rfl z31_100
      replace hF := fx_eq2 hF rfl rfl z31_101
      replace hF := fx_eq2 hF rfl rfl z31_102
      replace hF := fx_eq2 hF rfl rfl z31_103
      replace hF := fx_eq2 hF rfl rfl z31_104
      replace hF := fx_eq2 hF rfl rfl z31_105
      replace hF := fx_eq2 hF rfl rfl z31_106
      replace hF := fx_eq2 hF rfl rfl z31_107
      replace hF := fx_eq1 hF rfl rfl z31_108
      refine q_tsIn (pc := 31) 108 245 hG dX3_valueOf_31 z31_108 (by decide) rfl rfl ?_
      refine q_iconst (pc := 245) hG dX3_valueOf_245 ki_0 ?_
      exact q_irt hG hE dX3_valueOf_246 ⟨rfl, (q_r.mono rl_0 (by decide)), (by rw [tl_0]; exact fx_end hF hF0)⟩
    by_cases z31_109 : x1.toInt = 109
    · skip
      replace hF := fx_eq2 hF rfl rfl z31_97
      replace hF := fx_eq2 hF rfl rfl z31_98
      replace hF := fx_eq2 hF rfl rfl z31_99
      replace hF := fx_eq2 hF rfl rfl z31_100
      replace hF := fx_eq2 hF rfl rfl z31_101
      replace hF := fx_eq2 hF rfl rfl z31_102
      replace hF := fx_eq2 hF rfl rfl z31_103
      replace hF := fx_eq2 hF rfl rfl z31_104
      replace hF := fx_eq2 hF rfl rfl z31_105
      replace hF := fx_eq2 hF rfl rfl z31_106
      replace hF := fx_eq2 hF rfl rfl z31_107
      replace hF := fx_eq2 hF rfl rfl z31_108
      replace hF := fx_eq1 hF rfl rfl z31_109
      refine q_tsIn (pc := 31) 109 245 hG dX3_valueOf_31 z31_109 (by decide) rfl rfl ?_
      refine q_iconst (pc := 245) hG dX3_valueOf_245 ki_0 ?_
      exact q_irt hG hE dX3_valueOf_246 ⟨rfl, (q_r.mono rl_0 (by decide)), (by rw [tl_0]; exact fx_end hF hF0)⟩
    by_cases z31_110 : x1.toInt = 110
    · skip
      replace hF := fx_eq2 hF rfl rfl z31_97
      replace hF := fx_eq2 hF rfl rfl z31_98
      replace hF := fx_eq2 hF rfl rfl z31_99
      replace hF := fx_eq2 hF rfl rfl z31_100
      replace hF := fx_eq2 hF rfl rfl z31_101
      replace hF := fx_eq2 hF rfl rfl z31_102
      replace hF := fx_eq2 hF rfl rfl z31_103
      replace hF := fx_eq2 hF rfl rfl z31_104
      replace hF := fx_eq2 hF rfl rfl z31_105
      replace hF := fx_eq2 hF rfl rfl z31_106
      replace hF := fx_eq2 hF rfl rfl z31_107
      replace hF := fx_eq2 hF rfl rfl z31_108
      replace hF := fx_eq2 hF rfl rfl z31_109
      replace hF := fx_eq1 hF rfl rfl z31_110
      refine q_tsIn (pc := 31) 110 141 hG dX3_valueOf_31 z31_110 (by decide) rfl rfl ?_
      refine q_aload_n (pc := 141) hG dX3_valueOf_141 0 rfl ?_
      refine q_getV (pc := 142) (v := .ref ar) hG fl_X3_47 dX3_valueOf_142 tA0 hr ?_
      refine q_getV (pc := 145) (v := .int v22) hG fl_X3_94 dX3_valueOf_145 Tr f22 ?_
      exact q_irt hG hE dX3_valueOf_148 ⟨rfl, (q_r.mono g22 (by decide)), (fx_end hF hF0)⟩
    by_cases z31_111 : x1.toInt = 111
    · skip
      replace hF := fx_eq2 hF rfl rfl z31_97
      replace hF := fx_eq2 hF rfl rfl z31_98
      replace hF := fx_eq2 hF rfl rfl z31_99
      replace hF := fx_eq2 hF rfl rfl z31_100
      replace hF := fx_eq2 hF rfl rfl z31_101
      replace hF := fx_eq2 hF rfl rfl z31_102
      replace hF := fx_eq2 hF rfl rfl z31_103
      replace hF := fx_eq2 hF rfl rfl z31_104
      replace hF := fx_eq2 hF rfl rfl z31_105
      replace hF := fx_eq2 hF rfl rfl z31_106
      replace hF := fx_eq2 hF rfl rfl z31_107
      replace hF := fx_eq2 hF rfl rfl z31_108
      replace hF := fx_eq2 hF rfl rfl z31_109
      replace hF := fx_eq2 hF rfl rfl z31_110
      replace hF := fx_eq1 hF rfl rfl z31_111
      refine q_tsIn (pc := 31) 111 245 hG dX3_valueOf_31 z31_111 (by decide) rfl rfl ?_
      refine q_iconst (pc := 245) hG dX3_valueOf_245 ki_0 ?_
      exact q_irt hG hE dX3_valueOf_246 ⟨rfl, (q_r.mono rl_0 (by decide)), (by rw [tl_0]; exact fx_end hF hF0)⟩
    by_cases z31_112 : x1.toInt = 112
    · skip
      replace hF := fx_eq2 hF rfl rfl z31_97
      replace hF := fx_eq2 hF rfl rfl z31_98
      replace hF := fx_eq2 hF rfl rfl z31_99
      replace hF := fx_eq2 hF rfl rfl z31_100
      replace hF := fx_eq2 hF rfl rfl z31_101
      replace hF := fx_eq2 hF rfl rfl z31_102
      replace hF := fx_eq2 hF rfl rfl z31_103
      replace hF := fx_eq2 hF rfl rfl z31_104
      replace hF := fx_eq2 hF rfl rfl z31_105
      replace hF := fx_eq2 hF rfl rfl z31_106
      replace hF := fx_eq2 hF rfl rfl z31_107
      replace hF := fx_eq2 hF rfl rfl z31_108
      replace hF := fx_eq2 hF rfl rfl z31_109
      replace hF := fx_eq2 hF rfl rfl z31_110
      replace hF := fx_eq2 hF rfl rfl z31_111
      replace hF := fx_eq1 hF rfl rfl z31_112
      refine q_tsIn (pc := 31) 112 245 hG dX3_valueOf_31 z31_112 (by decide) rfl rfl ?_
      refine q_iconst (pc := 245) hG dX3_valueOf_245 ki_0 ?_
      exact q_irt hG hE dX3_valueOf_246 ⟨rfl, (q_r.mono rl_0 (by decide)), (by rw [tl_0]; exact fx_end hF hF0)⟩
    by_cases z31_113 : x1.toInt = 113
    · skip
      replace hF := fx_eq2 hF rfl rfl z31_97
      replace hF := fx_eq2 hF rfl rfl z31_98
      replace hF := fx_eq2 hF rfl rfl z31_99
      replace hF := fx_eq2 hF rfl rfl z31_100
      replace hF := fx_eq2 hF rfl rfl z31_101
      replace hF := fx_eq2 hF rfl rfl z31_102
      replace hF := fx_eq2 hF rfl rfl z31_103
      replace hF := fx_eq2 hF rfl rfl z31_104
      replace hF := fx_eq2 hF rfl rfl z31_105
      replace hF := fx_eq2 hF rfl rfl z31_106
      replace hF := fx_eq2 hF rfl rfl z31_107
      replace hF := fx_eq2 hF rfl rfl z31_108
      replace hF := fx_eq2 hF rfl rfl z31_109
      replace hF := fx_eq2 hF rfl rfl z31_110
      replace hF := fx_eq2 hF rfl rfl z31_111
      replace hF := fx_eq2 hF rfl rfl z31_112
      replace hF := fx_eq1 hF rfl rfl z31_113
      refine q_tsIn (pc := 31) 113 245 hG dX3_valueOf_31 z31_113 (by decide) rfl rfl ?_
      refine q_iconst (pc := 245) hG dX3_valueOf_245 ki_0 ?_
      exact q_irt hG hE dX3_valueOf_246 ⟨rfl, (q_r.mono rl_0 (by decide)), (by rw [tl_0]; exact fx_end hF hF0)⟩
    by_cases z31_114 : x1.toInt = 114
    · skip
      replace hF := fx_eq2 hF rfl rfl z31_97
      replace hF := fx_eq2 hF rfl rfl z31_98
      replace hF := fx_eq2 hF rfl rfl z31_99
      replace hF := fx_eq2 hF rfl rfl z31_100
      replace hF := fx_eq2 hF rfl rfl z31_101
      replace hF := fx_eq2 hF rfl rfl z31_102
      replace hF := fx_eq2 hF rfl rfl z31_103
      replace hF := fx_eq2 hF rfl rfl z31_104
      replace hF := fx_eq2 hF rfl rfl z31_105
      replace hF := fx_eq2 hF rfl rfl z31_106
      replace hF := fx_eq2 hF rfl rfl z31_107
      replace hF := fx_eq2 hF rfl rfl z31_108
      replace hF := fx_eq2 hF rfl rfl z31_109
      replace hF := fx_eq2 hF rfl rfl z31_110
      replace hF := fx_eq2 hF rfl rfl z31_111
      replace hF := fx_eq2 hF rfl rfl z31_112
      replace hF := fx_eq2 hF rfl rfl z31_113
      replace hF := fx_eq1 hF rfl rfl z31_114
      refine q_tsIn (pc := 31) 114 240 hG dX3_valueOf_31 z31_114 (by decide) rfl rfl ?_
      refine q_aload_n (pc := 240) hG dX3_valueOf_240 0 rfl ?_
      refine q_getI (pc := 241) hG fl_X3_60 dX3_valueOf_241 hI tA0 ff_3_15 (fun v241 f241 g241 => ?_)
      replace hF := fx_I hF f241 rfl
      exact q_irt hG hE dX3_valueOf_244 ⟨rfl, g241, (fx_end hF hF0)⟩
    by_cases z31_115 : x1.toInt = 115
    · skip
      replace hF := fx_eq2 hF rfl rfl z31_97
      replace hF := fx_eq2 hF rfl rfl z31_98
      replace hF := fx_eq2 hF rfl rfl z31_99
      replace hF := fx_eq2 hF rfl rfl z31_100
      replace hF := fx_eq2 hF rfl rfl z31_101
      replace hF := fx_eq2 hF rfl rfl z31_102
      replace hF := fx_eq2 hF rfl rfl z31_103
      replace hF := fx_eq2 hF rfl rfl z31_104
      replace hF := fx_eq2 hF rfl rfl z31_105
      replace hF := fx_eq2 hF rfl rfl z31_106
      replace hF := fx_eq2 hF rfl rfl z31_107
      replace hF := fx_eq2 hF rfl rfl z31_108
      replace hF := fx_eq2 hF rfl rfl z31_109
      replace hF := fx_eq2 hF rfl rfl z31_110
      replace hF := fx_eq2 hF rfl rfl z31_111
      replace hF := fx_eq2 hF rfl rfl z31_112
      replace hF := fx_eq2 hF rfl rfl z31_113
      replace hF := fx_eq2 hF rfl rfl z31_114
      replace hF := fx_eq1 hF rfl rfl z31_115
      refine q_tsIn (pc := 31) 115 245 hG dX3_valueOf_31 z31_115 (by decide) rfl rfl ?_
      refine q_iconst (pc := 245) hG dX3_valueOf_245 ki_0 ?_
      exact q_irt hG hE dX3_valueOf_246 ⟨rfl, (q_r.mono rl_0 (by decide)), (by rw [tl_0]; exact fx_end hF hF0)⟩
    by_cases z31_116 : x1.toInt = 116
    · skip
      replace hF := fx_eq2 hF rfl rfl z31_97
      replace hF := fx_eq2 hF rfl rfl z31_98
      replace hF := fx_eq2 hF rfl rfl z31_99
      replace hF := fx_eq2 hF rfl rfl z31_100
      replace hF := fx_eq2 hF rfl rfl z31_101
      replace hF := fx_eq2 hF rfl rfl z31_102
      replace hF := fx_eq2 hF rfl rfl z31_103
      replace hF := fx_eq2 hF rfl rfl z31_104
      replace hF := fx_eq2 hF rfl rfl z31_105
      replace hF := fx_eq2 hF rfl rfl z31_106
      replace hF := fx_eq2 hF rfl rfl z31_107
      replace hF := fx_eq2 hF rfl rfl z31_108
      replace hF := fx_eq2 hF rfl rfl z31_109
      replace hF := fx_eq2 hF rfl rfl z31_110
      replace hF := fx_eq2 hF rfl rfl z31_111
      replace hF := fx_eq2 hF rfl rfl z31_112
      replace hF := fx_eq2 hF rfl rfl z31_113
      replace hF := fx_eq2 hF rfl rfl z31_114
      replace hF := fx_eq2 hF rfl rfl z31_115
      replace hF := fx_eq1 hF rfl rfl z31_116
      refine q_tsIn (pc := 31) 116 188 hG dX3_valueOf_31 z31_116 (by decide) rfl rfl ?_
      refine q_aload_n (pc := 188) hG dX3_valueOf_188 0 rfl ?_
      refine q_getI (pc := 189) hG fl_X3_54 dX3_valueOf_189 hI tA0 ff_3_13 (fun v189 f189 g189 => ?_)
      replace hF := fx_I hF f189 rfl
      exact q_irt hG hE dX3_valueOf_192 ⟨rfl, g189, (fx_end hF hF0)⟩
    by_cases z31_117 : x1.toInt = 117
    · skip
      replace hF := fx_eq2 hF rfl rfl z31_97
      replace hF := fx_eq2 hF rfl rfl z31_98
      replace hF := fx_eq2 hF rfl rfl z31_99
      replace hF := fx_eq2 hF rfl rfl z31_100
      replace hF := fx_eq2 hF rfl rfl z31_101
      replace hF := fx_eq2 hF rfl rfl z31_102
      replace hF := fx_eq2 hF rfl rfl z31_103
      replace hF := fx_eq2 hF rfl rfl z31_104
      replace hF := fx_eq2 hF rfl rfl z31_105
      replace hF := fx_eq2 hF rfl rfl z31_106
      replace hF := fx_eq2 hF rfl rfl z31_107
      replace hF := fx_eq2 hF rfl rfl z31_108
      replace hF := fx_eq2 hF rfl rfl z31_109
      replace hF := fx_eq2 hF rfl rfl z31_110
      replace hF := fx_eq2 hF rfl rfl z31_111
      replace hF := fx_eq2 hF rfl rfl z31_112
      replace hF := fx_eq2 hF rfl rfl z31_113
      replace hF := fx_eq2 hF rfl rfl z31_114
      replace hF := fx_eq2 hF rfl rfl z31_115
      replace hF := fx_eq2 hF rfl rfl z31_116
      replace hF := fx_eq1 hF rfl rfl z31_117
      refine q_tsIn (pc := 31) 117 245 hG dX3_valueOf_31 z31_117 (by decide) rfl rfl ?_
      refine q_iconst (pc := 245) hG dX3_valueOf_245 ki_0 ?_
      exact q_irt hG hE dX3_valueOf_246 ⟨rfl, (q_r.mono rl_0 (by decide)), (by rw [tl_0]; exact fx_end hF hF0)⟩
    by_cases z31_118 : x1.toInt = 118
    · skip
      replace hF := fx_eq2 hF rfl rfl z31_97
      replace hF := fx_eq2 hF rfl rfl z31_98
      replace hF := fx_eq2 hF rfl rfl z31_99
      replace hF := fx_eq2 hF rfl rfl z31_100
      replace hF := fx_eq2 hF rfl rfl z31_101
      replace hF := fx_eq2 hF rfl rfl z31_102
      replace hF := fx_eq2 hF rfl rfl z31_103
      replace hF := fx_eq2 hF rfl rfl z31_104
      replace hF := fx_eq2 hF rfl rfl z31_105
      replace hF := fx_eq2 hF rfl rfl z31_106
      replace hF := fx_eq2 hF rfl rfl z31_107
      replace hF := fx_eq2 hF rfl rfl z31_108
      replace hF := fx_eq2 hF rfl rfl z31_109
      replace hF := fx_eq2 hF rfl rfl z31_110
      replace hF := fx_eq2 hF rfl rfl z31_111
      replace hF := fx_eq2 hF rfl rfl z31_112
      replace hF := fx_eq2 hF rfl rfl z31_113
      replace hF := fx_eq2 hF rfl rfl z31_114
      replace hF := fx_eq2 hF rfl rfl z31_115
      replace hF := fx_eq2 hF rfl rfl z31_116
      replace hF := fx_eq2 hF rfl rfl z31_117
      replace hF := fx_eq1 hF rfl rfl z31_118
      refine q_tsIn (pc := 31) 118 245 hG dX3_valueOf_31 z31_118 (by decide) rfl rfl ?_
      refine q_iconst (pc := 245) hG dX3_valueOf_245 ki_0 ?_
      exact q_irt hG hE dX3_valueOf_246 ⟨rfl, (q_r.mono rl_0 (by decide)), (by rw [tl_0]; exact fx_end hF hF0)⟩
    by_cases z31_119 : x1.toInt = 119
    · skip
      replace hF := fx_eq2 hF rfl rfl z31_97
      replace hF := fx_eq2 hF rfl rfl z31_98
      replace hF := fx_eq2 hF rfl rfl z31_99
      replace hF := fx_eq2 hF rfl rfl z31_100
      replace hF := fx_eq2 hF rfl rfl z31_101
      replace hF := fx_eq2 hF rfl rfl z31_102
      replace hF := fx_eq2 hF rfl rfl z31_103
      replace hF := fx_eq2 hF rfl rfl z31_104
      replace hF := fx_eq2 hF rfl rfl z31_105
      replace hF := fx_eq2 hF rfl rfl z31_106
      replace hF := fx_eq2 hF rfl rfl z31_107
      replace hF := fx_eq2 hF rfl rfl z31_108
      replace hF := fx_eq2 hF rfl rfl z31_109
      replace hF := fx_eq2 hF rfl rfl z31_110
      replace hF := fx_eq2 hF rfl rfl z31_111
      replace hF := fx_eq2 hF rfl rfl z31_112
      replace hF := fx_eq2 hF rfl rfl z31_113
      replace hF := fx_eq2 hF rfl rfl z31_114
      replace hF := fx_eq2 hF rfl rfl z31_115
      replace hF := fx_eq2 hF rfl rfl z31_116
      replace hF := fx_eq2 hF rfl rfl z31_117
      replace hF := fx_eq2 hF rfl rfl z31_118
      replace hF := fx_eq1 hF rfl rfl z31_119
      refine q_tsIn (pc := 31) 119 175 hG dX3_valueOf_31 z31_119 (by decide) rfl rfl ?_
      refine q_aload_n (pc := 175) hG dX3_valueOf_175 0 rfl ?_
      refine q_getV (pc := 176) (v := .ref ar) hG fl_X3_47 dX3_valueOf_176 tA0 hr ?_
      refine q_getR (pc := 179) (k2 := 118) (n2 := 64) hG fl_X3_105 dX3_valueOf_179 hI Tr ff_6_3 (fun b179 f179 T179 => ?_)
      replace hF := fx_R hF f179 rfl
      refine q_aload_n (pc := 182) hG dX3_valueOf_182 0 rfl ?_
      refine q_getV (pc := 183) (v := .int v8) hG fl_X3_51 dX3_valueOf_183 tA0 f8 ?_
      have r_9 := q_rlt r_1 g22 c25 63 (by decide)
      refine q_iald (pc := 186) hG dX3_valueOf_186 hI ai_118 T179 (q_ix r_9 (by decide)) (fun v186 f186 g186 => ?_)
      replace hF := fx_I hF f186 rfl
      exact q_irt hG hE dX3_valueOf_187 ⟨rfl, g186, (fx_end hF hF0)⟩
    replace hF := fx_eq2 hF rfl rfl z31_97
    replace hF := fx_eq2 hF rfl rfl z31_98
    replace hF := fx_eq2 hF rfl rfl z31_99
    replace hF := fx_eq2 hF rfl rfl z31_100
    replace hF := fx_eq2 hF rfl rfl z31_101
    replace hF := fx_eq2 hF rfl rfl z31_102
    replace hF := fx_eq2 hF rfl rfl z31_103
    replace hF := fx_eq2 hF rfl rfl z31_104
    replace hF := fx_eq2 hF rfl rfl z31_105
    replace hF := fx_eq2 hF rfl rfl z31_106
    replace hF := fx_eq2 hF rfl rfl z31_107
    replace hF := fx_eq2 hF rfl rfl z31_108
    replace hF := fx_eq2 hF rfl rfl z31_109
    replace hF := fx_eq2 hF rfl rfl z31_110
    replace hF := fx_eq2 hF rfl rfl z31_111
    replace hF := fx_eq2 hF rfl rfl z31_112
    replace hF := fx_eq2 hF rfl rfl z31_113
    replace hF := fx_eq2 hF rfl rfl z31_114
    replace hF := fx_eq2 hF rfl rfl z31_115
    replace hF := fx_eq2 hF rfl rfl z31_116
    replace hF := fx_eq2 hF rfl rfl z31_117
    replace hF := fx_eq2 hF rfl rfl z31_118
    replace hF := fx_eq2 hF rfl rfl z31_119
    refine q_tsOut (pc := 31) 245 hG dX3_valueOf_31 (by have q := (q_r_any x1); unfold q_r at q; omega) rfl ?_
    refine q_iconst (pc := 245) hG dX3_valueOf_245 ki_0 ?_
    exact q_irt hG hE dX3_valueOf_246 ⟨rfl, (q_r.mono rl_0 (by decide)), (by rw [tl_0]; exact fx_end hF hF0)⟩
  intro c25
  have r_10 := q_zge g8 c11
  replace hF := fx_lt2 hF rfl rfl c25
  refine q_iconst (pc := 28) hG dX3_valueOf_28 ki_0 ?_
  exact q_irt hG hE dX3_valueOf_29 ⟨rfl, (q_r.mono rl_0 (by decide)), (by rw [tl_0]; exact fx_end hF hF0)⟩
theorem dX3_skipOrGoOn_0 : decode cX3_skipOrGoOn 0 = .ok (.aload_n 0, 1) := by decide +kernel
theorem dX3_skipOrGoOn_1 : decode cX3_skipOrGoOn 1 = .ok (.invokevirtual 77, 3) := by decide +kernel
theorem dX3_skipOrGoOn_4 : decode cX3_skipOrGoOn 4 = .ok (.istore_n 2, 1) := by decide +kernel
theorem dX3_skipOrGoOn_5 : decode cX3_skipOrGoOn 5 = .ok (.aload_n 0, 1) := by decide +kernel
theorem dX3_skipOrGoOn_6 : decode cX3_skipOrGoOn 6 = .ok (.getfield 22, 3) := by decide +kernel
theorem dX3_skipOrGoOn_9 : decode cX3_skipOrGoOn 9 = .ok (.iload_n 1, 1) := by decide +kernel
theorem dX3_skipOrGoOn_10 : decode cX3_skipOrGoOn 10 = .ok (.iaload, 1) := by decide +kernel
theorem dX3_skipOrGoOn_11 : decode cX3_skipOrGoOn 11 = .ok (.bipush 124, 2) := by decide +kernel
theorem dX3_skipOrGoOn_13 : decode cX3_skipOrGoOn 13 = .ok (.if_icmp .ne 15, 3) := by decide +kernel
theorem dX3_skipOrGoOn_16 : decode cX3_skipOrGoOn 16 = .ok (.iload_n 2, 1) := by decide +kernel
theorem dX3_skipOrGoOn_17 : decode cX3_skipOrGoOn 17 = .ok (.ifCond .eq 7, 3) := by decide +kernel
theorem dX3_skipOrGoOn_20 : decode cX3_skipOrGoOn 20 = .ok (.iconst 1, 1) := by decide +kernel
theorem dX3_skipOrGoOn_21 : decode cX3_skipOrGoOn 21 = .ok (.goto 16, 3) := by decide +kernel
theorem dX3_skipOrGoOn_24 : decode cX3_skipOrGoOn 24 = .ok (.iconst 0, 1) := by decide +kernel
theorem dX3_skipOrGoOn_25 : decode cX3_skipOrGoOn 25 = .ok (.goto 12, 3) := by decide +kernel
theorem dX3_skipOrGoOn_28 : decode cX3_skipOrGoOn 28 = .ok (.iload_n 2, 1) := by decide +kernel
theorem dX3_skipOrGoOn_29 : decode cX3_skipOrGoOn 29 = .ok (.ifCond .ne 7, 3) := by decide +kernel
theorem dX3_skipOrGoOn_32 : decode cX3_skipOrGoOn 32 = .ok (.iconst 1, 1) := by decide +kernel
theorem dX3_skipOrGoOn_33 : decode cX3_skipOrGoOn 33 = .ok (.goto 4, 3) := by decide +kernel
theorem dX3_skipOrGoOn_36 : decode cX3_skipOrGoOn 36 = .ok (.iconst 0, 1) := by decide +kernel
theorem dX3_skipOrGoOn_37 : decode cX3_skipOrGoOn 37 = .ok (.istore_n 3, 1) := by decide +kernel
theorem dX3_skipOrGoOn_38 : decode cX3_skipOrGoOn 38 = .ok (.iload_n 3, 1) := by decide +kernel
theorem dX3_skipOrGoOn_39 : decode cX3_skipOrGoOn 39 = .ok (.ifCond .eq 15, 3) := by decide +kernel
theorem dX3_skipOrGoOn_42 : decode cX3_skipOrGoOn 42 = .ok (.aload_n 0, 1) := by decide +kernel
theorem dX3_skipOrGoOn_43 : decode cX3_skipOrGoOn 43 = .ok (.iload_n 2, 1) := by decide +kernel
theorem dX3_skipOrGoOn_44 : decode cX3_skipOrGoOn 44 = .ok (.invokevirtual 81, 3) := by decide +kernel
theorem dX3_skipOrGoOn_47 : decode cX3_skipOrGoOn 47 = .ok (.aload_n 0, 1) := by decide +kernel
theorem dX3_skipOrGoOn_48 : decode cX3_skipOrGoOn 48 = .ok (.getfield 26, 3) := by decide +kernel
theorem dX3_skipOrGoOn_51 : decode cX3_skipOrGoOn 51 = .ok (.iload_n 1, 1) := by decide +kernel
theorem dX3_skipOrGoOn_52 : decode cX3_skipOrGoOn 52 = .ok (.iaload, 1) := by decide +kernel
theorem dX3_skipOrGoOn_53 : decode cX3_skipOrGoOn 53 = .ok (.ireturn, 1) := by decide +kernel
theorem dX3_skipOrGoOn_54 : decode cX3_skipOrGoOn 54 = .ok (.iload_n 1, 1) := by decide +kernel
theorem dX3_skipOrGoOn_55 : decode cX3_skipOrGoOn 55 = .ok (.iconst 1, 1) := by decide +kernel
theorem dX3_skipOrGoOn_56 : decode cX3_skipOrGoOn 56 = .ok (.iadd, 1) := by decide +kernel
theorem dX3_skipOrGoOn_57 : decode cX3_skipOrGoOn 57 = .ok (.ireturn, 1) := by decide +kernel
def md_X3_skipOrGoOn : List (Nat × Nat) := [(3, 9), (117, 0)]
set_option maxRecDepth 100000 in
set_option maxHeartbeats 4000000 in
theorem c_X3_skipOrGoOn {l : Launch} {D : q_D} (τ : q_T) (σ : q_V) (a0 : Nat) (x1 : Int32) (hI : q_I τ σ) (tA0 : τ a0 = some (3, 1)) (rA1 : q_r x1 0 239) : q_Ci l D yX3_skipOrGoOn cX3_skipOrGoOn 4 (some .int) 1 21 τ σ [.ref a0, .int x1] (fun r σ1 => q_S md_X3_skipOrGoOn τ σ σ1 ∧ (q_r r (-2147483648) 2147483647) ∧ ((r.toInt, fx_N σ1) = f_X3_skipOrGoOn (fx_N σ) a0 x1.toInt)) := by
  refine q_meti rfl (Nat.le_of_ble_eq_true rfl) (fun X hG hE => ?_)
  show q_O X 0 0 τ σ 0 [(0, .ref a0), (1, .int x1)] []
  have hS0 : q_S md_X3_skipOrGoOn τ σ σ := q_S.rf hI
  obtain ⟨Fv, hF⟩ : ∃ z, fx_eq z (f_X3_skipOrGoOn (fx_N σ) a0 x1.toInt) := ⟨_, fx_rf⟩
  have hF0 := hF
  unfold f_X3_skipOrGoOn at hF
  refine q_aload_n (pc := 0) hG dX3_skipOrGoOn_0 0 rfl ?_
  refine q_cVi (pc := 1) [] [] hG (c_X3_pop τ σ a0 hI tA0) my_X3_pop mv_X3_pop w448 dX3_skipOrGoOn_1 tA0 (by decide) rfl rfl (Nat.le_of_ble_eq_true rfl) (by decide) (fun v1 s1 p1 => ?_)
  have w1 := hS0.trans p1.1 rfl
  replace hF := fx_C hF p1.2.2
  refine q_istore_n (pc := 4) [(2, .int v1), (0, .ref a0), (1, .int x1)] hG dX3_skipOrGoOn_4 (by decide) rfl ?_
  refine q_aload_n (pc := 5) hG dX3_skipOrGoOn_5 1 rfl ?_
  refine q_getR (pc := 6) (k2 := 112) (n2 := 240) hG fl_X3_22 dX3_skipOrGoOn_6 w1.1 tA0 ff_3_3 (fun b6 f6 T6 => ?_)
  replace hF := fx_R hF f6 rfl
  have f_1 := (w1.2 _ _ _ _ tA0 rfl).symm.trans f6
  refine q_iload_n (pc := 9) hG dX3_skipOrGoOn_9 2 rfl ?_
  refine q_iald (pc := 10) hG dX3_skipOrGoOn_10 w1.1 ai_112 T6 (q_ix rA1 (by decide)) (fun v10 f10 g10 => ?_)
  replace hF := fx_I hF f10 rfl
  have f_2 := (w1.2 _ _ _ _ T6 rfl).symm.trans f10
  refine q_bipush (pc := 11) hG dX3_skipOrGoOn_11 kb_124 ?_
  have J37 : ∀ (p37_s0 : Int32), (q_r p37_s0 0 1) → (fx_eq Fv (kJ_X3_skipOrGoOn_37 x1.toInt (fx_N s1) a0 v1.toInt p37_s0.toInt)) → q_O X 0 0 τ s1 37 [(0, .ref a0), (1, .int x1), (2, .int v1)] [.int p37_s0] := by
    intro p37_s0 r37_s0 hF
    unfold kJ_X3_skipOrGoOn_37 at hF
    refine q_istore_n (pc := 37) [(3, .int p37_s0), (0, .ref a0), (1, .int x1), (2, .int v1)] hG dX3_skipOrGoOn_37 (by decide) rfl ?_
    refine q_iload_n (pc := 38) hG dX3_skipOrGoOn_38 0 rfl ?_
    refine q_if_eq (pc := 39) hG 54 dX3_skipOrGoOn_39 rfl ?_ ?_
    · intro c39
      replace hF := fx_eq1 hF rfl rfl c39
      refine q_iload_n (pc := 54) hG dX3_skipOrGoOn_54 2 rfl ?_
      refine q_iconst (pc := 55) hG dX3_skipOrGoOn_55 ki_1 ?_
      refine q_iadd (pc := 56) hG dX3_skipOrGoOn_56 (fun v56 e56 => ?_)
      replace hF := fx_add hF rfl tl_1 (q_addN (lo := 1) (hi := 240) e56 rA1 rl_1 (by decide)).1
      have r_3 := (q_addN (lo := 1) (hi := 240) e56 rA1 rl_1 (by decide)).2
      exact q_irt hG hE dX3_skipOrGoOn_57 ⟨w1, (q_r.mono r_3 (by decide)), (fx_end hF hF0)⟩
    intro c39
    replace hF := fx_eq2 hF rfl rfl c39
    refine q_aload_n (pc := 42) hG dX3_skipOrGoOn_42 1 rfl ?_
    refine q_iload_n (pc := 43) hG dX3_skipOrGoOn_43 3 rfl ?_
    refine q_cVv (pc := 44) [.int v1] [] hG (c_X3_push τ s1 a0 v1 w1.1 tA0) my_X3_push mv_X3_push w441 dX3_skipOrGoOn_44 tA0 (by decide) rfl rfl (Nat.le_of_ble_eq_true rfl) (by decide) (fun s44 p44 => ?_)
    have w44 := w1.trans p44.1 rfl
    replace hF := fx_S hF p44.2
    refine q_aload_n (pc := 47) hG dX3_skipOrGoOn_47 1 rfl ?_
    refine q_getR (pc := 48) (k2 := 113) (n2 := 240) hG fl_X3_26 dX3_skipOrGoOn_48 w44.1 tA0 ff_3_4 (fun b48 f48 T48 => ?_)
    replace hF := fx_R hF f48 rfl
    have f_4 := (w44.2 _ _ _ _ tA0 rfl).symm.trans f48
    refine q_iload_n (pc := 51) hG dX3_skipOrGoOn_51 2 rfl ?_
    refine q_iald (pc := 52) hG dX3_skipOrGoOn_52 w44.1 ai_113 T48 (q_ix rA1 (by decide)) (fun v52 f52 g52 => ?_)
    replace hF := fx_I hF f52 rfl
    have f_5 := (w44.2 _ _ _ _ T48 rfl).symm.trans f52
    exact q_irt hG hE dX3_skipOrGoOn_53 ⟨w44, g52, (fx_end hF hF0)⟩
  refine q_icmp_ne (pc := 13) hG 28 dX3_skipOrGoOn_13 rfl ?_ ?_
  · intro c13
    replace hF := fx_eq2 hF rfl tl_124 c13
    refine q_iload_n (pc := 28) hG dX3_skipOrGoOn_28 0 rfl ?_
    refine q_if_ne (pc := 29) hG 36 dX3_skipOrGoOn_29 rfl ?_ ?_
    · intro c29
      replace hF := fx_eq2 hF rfl rfl c29
      refine q_iconst (pc := 36) hG dX3_skipOrGoOn_36 ki_0 ?_
      refine q_lv [1, 2, 0] rfl ?_
      exact J37 0 (q_r.mono rl_0 (by decide)) (by rw [tl_0]; exact hF)
    intro c29
    replace hF := fx_eq1 hF rfl rfl c29
    refine q_iconst (pc := 32) hG dX3_skipOrGoOn_32 ki_1 ?_
    refine q_goto (pc := 33) 37 hG dX3_skipOrGoOn_33 rfl ?_
    refine q_lv [1, 2, 0] rfl ?_
    exact J37 1 (q_r.mono rl_1 (by decide)) (by rw [tl_1]; exact hF)
  intro c13
  replace hF := fx_eq1 hF rfl tl_124 c13
  refine q_iload_n (pc := 16) hG dX3_skipOrGoOn_16 0 rfl ?_
  refine q_if_eq (pc := 17) hG 24 dX3_skipOrGoOn_17 rfl ?_ ?_
  · intro c17
    replace hF := fx_eq1 hF rfl rfl c17
    refine q_iconst (pc := 24) hG dX3_skipOrGoOn_24 ki_0 ?_
    refine q_goto (pc := 25) 37 hG dX3_skipOrGoOn_25 rfl ?_
    refine q_lv [1, 2, 0] rfl ?_
    exact J37 0 (q_r.mono rl_0 (by decide)) (by rw [tl_0]; exact hF)
  intro c17
  replace hF := fx_eq2 hF rfl rfl c17
  refine q_iconst (pc := 20) hG dX3_skipOrGoOn_20 ki_1 ?_
  refine q_goto (pc := 21) 37 hG dX3_skipOrGoOn_21 rfl ?_
  refine q_lv [1, 2, 0] rfl ?_
  exact J37 1 (q_r.mono rl_1 (by decide)) (by rw [tl_1]; exact hF)
theorem dX3_take_0 : decode cX3_take 0 = .ok (.aload_n 0, 1) := by decide +kernel
theorem dX3_take_1 : decode cX3_take 1 = .ok (.getfield 22, 3) := by decide +kernel
theorem dX3_take_4 : decode cX3_take 4 = .ok (.iload_n 1, 1) := by decide +kernel
theorem dX3_take_5 : decode cX3_take 5 = .ok (.iaload, 1) := by decide +kernel
theorem dX3_take_6 : decode cX3_take 6 = .ok (.istore_n 2, 1) := by decide +kernel
theorem dX3_take_7 : decode cX3_take 7 = .ok (.iload_n 2, 1) := by decide +kernel
theorem dX3_take_8 : decode cX3_take 8 = .ok (.bipush 48, 2) := by decide +kernel
theorem dX3_take_10 : decode cX3_take 10 = .ok (.if_icmp .ne 16, 3) := by decide +kernel
theorem dX3_take_13 : decode cX3_take 13 = .ok (.aload_n 0, 1) := by decide +kernel
theorem dX3_take_14 : decode cX3_take 14 = .ok (.aload_n 0, 1) := by decide +kernel
theorem dX3_take_15 : decode cX3_take 15 = .ok (.getfield 26, 3) := by decide +kernel
theorem dX3_take_18 : decode cX3_take 18 = .ok (.iload_n 1, 1) := by decide +kernel
theorem dX3_take_19 : decode cX3_take 19 = .ok (.iaload, 1) := by decide +kernel
theorem dX3_take_20 : decode cX3_take 20 = .ok (.invokevirtual 81, 3) := by decide +kernel
theorem dX3_take_23 : decode cX3_take 23 = .ok (.goto 92, 3) := by decide +kernel
theorem dX3_take_26 : decode cX3_take 26 = .ok (.iload_n 2, 1) := by decide +kernel
theorem dX3_take_27 : decode cX3_take 27 = .ok (.bipush 105, 2) := by decide +kernel
theorem dX3_take_29 : decode cX3_take 29 = .ok (.if_icmp .ne 20, 3) := by decide +kernel
theorem dX3_take_32 : decode cX3_take 32 = .ok (.aload_n 0, 1) := by decide +kernel
theorem dX3_take_33 : decode cX3_take 33 = .ok (.aload_n 0, 1) := by decide +kernel
theorem dX3_take_34 : decode cX3_take 34 = .ok (.aload_n 0, 1) := by decide +kernel
theorem dX3_take_35 : decode cX3_take 35 = .ok (.getfield 26, 3) := by decide +kernel
theorem dX3_take_38 : decode cX3_take 38 = .ok (.iload_n 1, 1) := by decide +kernel
theorem dX3_take_39 : decode cX3_take 39 = .ok (.iaload, 1) := by decide +kernel
theorem dX3_take_40 : decode cX3_take 40 = .ok (.invokevirtual 85, 3) := by decide +kernel
theorem dX3_take_43 : decode cX3_take 43 = .ok (.invokevirtual 81, 3) := by decide +kernel
theorem dX3_take_46 : decode cX3_take 46 = .ok (.goto 69, 3) := by decide +kernel
theorem dX3_take_49 : decode cX3_take 49 = .ok (.iload_n 2, 1) := by decide +kernel
theorem dX3_take_50 : decode cX3_take 50 = .ok (.bipush 33, 2) := by decide +kernel
theorem dX3_take_52 : decode cX3_take 52 = .ok (.if_icmp .ne 22, 3) := by decide +kernel
theorem dX3_take_55 : decode cX3_take 55 = .ok (.aload_n 0, 1) := by decide +kernel
theorem dX3_take_56 : decode cX3_take 56 = .ok (.aload_n 0, 1) := by decide +kernel
theorem dX3_take_57 : decode cX3_take 57 = .ok (.invokevirtual 77, 3) := by decide +kernel
theorem dX3_take_60 : decode cX3_take 60 = .ok (.ifCond .ne 7, 3) := by decide +kernel
theorem dX3_take_63 : decode cX3_take 63 = .ok (.iconst 1, 1) := by decide +kernel
theorem dX3_take_64 : decode cX3_take 64 = .ok (.goto 4, 3) := by decide +kernel
theorem dX3_take_67 : decode cX3_take 67 = .ok (.iconst 0, 1) := by decide +kernel
theorem dX3_take_68 : decode cX3_take 68 = .ok (.invokevirtual 81, 3) := by decide +kernel
theorem dX3_take_71 : decode cX3_take 71 = .ok (.goto 44, 3) := by decide +kernel
theorem dX3_take_74 : decode cX3_take 74 = .ok (.iload_n 2, 1) := by decide +kernel
theorem dX3_take_75 : decode cX3_take 75 = .ok (.bipush 124, 2) := by decide +kernel
theorem dX3_take_77 : decode cX3_take 77 = .ok (.if_icmp .eq 9, 3) := by decide +kernel
theorem dX3_take_80 : decode cX3_take 80 = .ok (.iload_n 2, 1) := by decide +kernel
theorem dX3_take_81 : decode cX3_take 81 = .ok (.bipush 38, 2) := by decide +kernel
theorem dX3_take_83 : decode cX3_take 83 = .ok (.if_icmp .ne 9, 3) := by decide +kernel
theorem dX3_take_86 : decode cX3_take 86 = .ok (.aload_n 0, 1) := by decide +kernel
theorem dX3_take_87 : decode cX3_take 87 = .ok (.iload_n 1, 1) := by decide +kernel
theorem dX3_take_88 : decode cX3_take 88 = .ok (.invokevirtual 88, 3) := by decide +kernel
theorem dX3_take_91 : decode cX3_take 91 = .ok (.ireturn, 1) := by decide +kernel
theorem dX3_take_92 : decode cX3_take 92 = .ok (.aload_n 0, 1) := by decide +kernel
theorem dX3_take_93 : decode cX3_take 93 = .ok (.invokevirtual 77, 3) := by decide +kernel
theorem dX3_take_96 : decode cX3_take 96 = .ok (.istore_n 3, 1) := by decide +kernel
theorem dX3_take_97 : decode cX3_take 97 = .ok (.aload_n 0, 1) := by decide +kernel
theorem dX3_take_98 : decode cX3_take 98 = .ok (.invokevirtual 77, 3) := by decide +kernel
theorem dX3_take_101 : decode cX3_take 101 = .ok (.istore 4, 2) := by decide +kernel
theorem dX3_take_103 : decode cX3_take 103 = .ok (.aload_n 0, 1) := by decide +kernel
theorem dX3_take_104 : decode cX3_take 104 = .ok (.aload_n 0, 1) := by decide +kernel
theorem dX3_take_105 : decode cX3_take 105 = .ok (.iload_n 2, 1) := by decide +kernel
theorem dX3_take_106 : decode cX3_take 106 = .ok (.iload 4, 2) := by decide +kernel
theorem dX3_take_108 : decode cX3_take 108 = .ok (.iload_n 3, 1) := by decide +kernel
theorem dX3_take_109 : decode cX3_take 109 = .ok (.invokevirtual 91, 3) := by decide +kernel
theorem dX3_take_112 : decode cX3_take 112 = .ok (.invokevirtual 81, 3) := by decide +kernel
theorem dX3_take_115 : decode cX3_take 115 = .ok (.iload_n 1, 1) := by decide +kernel
theorem dX3_take_116 : decode cX3_take 116 = .ok (.iconst 1, 1) := by decide +kernel
theorem dX3_take_117 : decode cX3_take 117 = .ok (.iadd, 1) := by decide +kernel
theorem dX3_take_118 : decode cX3_take 118 = .ok (.ireturn, 1) := by decide +kernel
def md_X3_take : List (Nat × Nat) := [(3, 9), (3, 10), (117, 0)]
set_option maxRecDepth 100000 in
set_option maxHeartbeats 4000000 in
theorem c_X3_take {l : Launch} {D : q_D} (τ : q_T) (σ : q_V) (a0 : Nat) (x1 : Int32) (hI : q_I τ σ) (tA0 : τ a0 = some (3, 1)) (rA1 : q_r x1 0 239) (ar : Nat) (hr : σ a0 11 = .ref ar) (Tr : τ ar = some (6, 1)) : q_Ci l D yX3_take cX3_take 5 (some .int) 2 44 τ σ [.ref a0, .int x1] (fun r σ1 => q_S md_X3_take τ σ σ1 ∧ (q_r r (-2147483648) 2147483647) ∧ ((r.toInt, fx_N σ1) = f_X3_take (fx_N σ) a0 x1.toInt)) := by
  refine q_meti rfl (Nat.le_of_ble_eq_true rfl) (fun X hG hE => ?_)
  show q_O X 0 0 τ σ 0 [(0, .ref a0), (1, .int x1)] []
  have hS0 : q_S md_X3_take τ σ σ := q_S.rf hI
  obtain ⟨Fv, hF⟩ : ∃ z, fx_eq z (f_X3_take (fx_N σ) a0 x1.toInt) := ⟨_, fx_rf⟩
  have hF0 := hF
  unfold f_X3_take at hF
  replace hF := fx_R hF hr rfl
  refine q_aload_n (pc := 0) hG dX3_take_0 0 rfl ?_
  refine q_getR (pc := 1) (k2 := 112) (n2 := 240) hG fl_X3_22 dX3_take_1 hI tA0 ff_3_3 (fun b1 f1 T1 => ?_)
  replace hF := fx_R hF f1 rfl
  refine q_iload_n (pc := 4) hG dX3_take_4 1 rfl ?_
  refine q_iald (pc := 5) hG dX3_take_5 hI ai_112 T1 (q_ix rA1 (by decide)) (fun v5 f5 g5 => ?_)
  replace hF := fx_I hF f5 rfl
  refine q_istore_n (pc := 6) [(2, .int v5), (0, .ref a0), (1, .int x1)] hG dX3_take_6 (by decide) rfl ?_
  refine q_iload_n (pc := 7) hG dX3_take_7 0 rfl ?_
  refine q_bipush (pc := 8) hG dX3_take_8 kb_48 ?_
  refine q_icmp_ne (pc := 10) hG 26 dX3_take_10 rfl ?_ ?_
  · intro c10
    replace hF := fx_eq2 hF rfl tl_48 c10
    refine q_iload_n (pc := 26) hG dX3_take_26 0 rfl ?_
    refine q_bipush (pc := 27) hG dX3_take_27 kb_105 ?_
    refine q_icmp_ne (pc := 29) hG 49 dX3_take_29 rfl ?_ ?_
    · intro c29
      replace hF := fx_eq2 hF rfl tl_105 c29
      refine q_iload_n (pc := 49) hG dX3_take_49 0 rfl ?_
      refine q_bipush (pc := 50) hG dX3_take_50 kb_33 ?_
      refine q_icmp_ne (pc := 52) hG 74 dX3_take_52 rfl ?_ ?_
      · intro c52
        replace hF := fx_eq2 hF rfl tl_33 c52
        refine q_iload_n (pc := 74) hG dX3_take_74 0 rfl ?_
        refine q_bipush (pc := 75) hG dX3_take_75 kb_124 ?_
        have J86 : (fx_eq Fv (kJ_X3_take_86 (fx_N σ) a0 x1.toInt)) → q_O X 0 0 τ σ 86 [(0, .ref a0), (1, .int x1)] [] := by
          intro hF
          unfold kJ_X3_take_86 at hF
          refine q_aload_n (pc := 86) hG dX3_take_86 0 rfl ?_
          refine q_iload_n (pc := 87) hG dX3_take_87 1 rfl ?_
          refine q_cVi (pc := 88) [.int x1] [] hG (c_X3_skipOrGoOn τ σ a0 x1 hI tA0 rA1) my_X3_skipOrGoOn mv_X3_skipOrGoOn w451 dX3_take_88 tA0 (by decide) rfl rfl (Nat.le_of_ble_eq_true rfl) (by decide) (fun v88 s88 p88 => ?_)
          have w88 := hS0.trans p88.1 rfl
          replace hF := fx_C hF p88.2.2
          exact q_irt hG hE dX3_take_91 ⟨w88, p88.2.1, (fx_end hF hF0)⟩
        refine q_icmp_eq (pc := 77) hG 86 dX3_take_77 rfl ?_ ?_
        · intro c77
          replace hF := fx_eq1 hF rfl tl_124 c77
          refine q_lv [1, 2] rfl ?_
          exact J86 hF
        intro c77
        replace hF := fx_eq2 hF rfl tl_124 c77
        refine q_iload_n (pc := 80) hG dX3_take_80 0 rfl ?_
        refine q_bipush (pc := 81) hG dX3_take_81 kb_38 ?_
        refine q_icmp_ne (pc := 83) hG 92 dX3_take_83 rfl ?_ ?_
        · intro c83
          replace hF := fx_eq2 hF rfl tl_38 c83
          refine q_aload_n (pc := 92) hG dX3_take_92 1 rfl ?_
          refine q_cVi (pc := 93) [] [] hG (c_X3_pop τ σ a0 hI tA0) my_X3_pop mv_X3_pop w448 dX3_take_93 tA0 (by decide) rfl rfl (Nat.le_of_ble_eq_true rfl) (by decide) (fun v93 s93 p93 => ?_)
          have w93 := hS0.trans p93.1 rfl
          replace hF := fx_C hF p93.2.2
          refine q_istore_n (pc := 96) [(3, .int v93), (2, .int v5), (0, .ref a0), (1, .int x1)] hG dX3_take_96 (by decide) rfl ?_
          refine q_aload_n (pc := 97) hG dX3_take_97 2 rfl ?_
          refine q_cVi (pc := 98) [] [] hG (c_X3_pop τ s93 a0 w93.1 tA0) my_X3_pop mv_X3_pop w448 dX3_take_98 tA0 (by decide) rfl rfl (Nat.le_of_ble_eq_true rfl) (by decide) (fun v98 s98 p98 => ?_)
          have w98 := w93.trans p98.1 rfl
          replace hF := fx_C hF p98.2.2
          refine q_istore (pc := 101) [(4, .int v98), (3, .int v93), (2, .int v5), (0, .ref a0), (1, .int x1)] hG dX3_take_101 (by decide) rfl ?_
          refine q_aload_n (pc := 103) hG dX3_take_103 3 rfl ?_
          refine q_aload_n (pc := 104) hG dX3_take_104 3 rfl ?_
          refine q_iload_n (pc := 105) hG dX3_take_105 2 rfl ?_
          refine q_iload (pc := 106) hG dX3_take_106 0 rfl ?_
          refine q_iload_n (pc := 108) hG dX3_take_108 1 rfl ?_
          refine q_cVi (pc := 109) [.int v5, .int v98, .int v93] [.ref a0] hG (c_X3_reckon τ s98 a0 v5 v98 v93 w98.1 tA0) my_X3_reckon mv_X3_reckon w454 dX3_take_109 tA0 (by decide) rfl rfl (Nat.le_of_ble_eq_true rfl) (by decide) (fun v109 s109 p109 => ?_)
          have w109 := w98.trans p109.1 rfl
          replace hF := fx_C hF p109.2.2
          refine q_cVv (pc := 112) [.int v109] [] hG (c_X3_push τ s109 a0 v109 w109.1 tA0) my_X3_push mv_X3_push w441 dX3_take_112 tA0 (by decide) rfl rfl (Nat.le_of_ble_eq_true rfl) (by decide) (fun s112 p112 => ?_)
          have w112 := w109.trans p112.1 rfl
          replace hF := fx_S hF p112.2
          refine q_iload_n (pc := 115) hG dX3_take_115 4 rfl ?_
          refine q_iconst (pc := 116) hG dX3_take_116 ki_1 ?_
          refine q_iadd (pc := 117) hG dX3_take_117 (fun v117 e117 => ?_)
          replace hF := fx_add hF rfl tl_1 (q_addN (lo := 1) (hi := 240) e117 rA1 rl_1 (by decide)).1
          have r_1 := (q_addN (lo := 1) (hi := 240) e117 rA1 rl_1 (by decide)).2
          exact q_irt hG hE dX3_take_118 ⟨w112, (q_r.mono r_1 (by decide)), (fx_end hF hF0)⟩
        intro c83
        replace hF := fx_eq1 hF rfl tl_38 c83
        refine q_lv [1, 2] rfl ?_
        exact J86 hF
      intro c52
      replace hF := fx_eq1 hF rfl tl_33 c52
      refine q_aload_n (pc := 55) hG dX3_take_55 1 rfl ?_
      refine q_aload_n (pc := 56) hG dX3_take_56 1 rfl ?_
      refine q_cVi (pc := 57) [] [.ref a0] hG (c_X3_pop τ σ a0 hI tA0) my_X3_pop mv_X3_pop w448 dX3_take_57 tA0 (by decide) rfl rfl (Nat.le_of_ble_eq_true rfl) (by decide) (fun v57 s57 p57 => ?_)
      have w57 := hS0.trans p57.1 rfl
      replace hF := fx_C hF p57.2.2
      have J68 : ∀ (p68_s0 : Int32), (q_r p68_s0 0 1) → (fx_eq Fv (kJ_X3_take_68 (fx_N s57) a0 x1.toInt p68_s0.toInt)) → q_O X 0 0 τ s57 68 [(1, .int x1)] [.int p68_s0, .ref a0] := by
        intro p68_s0 r68_s0 hF
        unfold kJ_X3_take_68 at hF
        refine q_cVv (pc := 68) [.int p68_s0] [] hG (c_X3_push τ s57 a0 p68_s0 w57.1 tA0) my_X3_push mv_X3_push w441 dX3_take_68 tA0 (by decide) rfl rfl (Nat.le_of_ble_eq_true rfl) (by decide) (fun s68 p68 => ?_)
        have w68 := w57.trans p68.1 rfl
        replace hF := fx_S hF p68.2
        refine q_goto (pc := 71) 115 hG dX3_take_71 rfl ?_
        refine q_iload_n (pc := 115) hG dX3_take_115 0 rfl ?_
        refine q_iconst (pc := 116) hG dX3_take_116 ki_1 ?_
        refine q_iadd (pc := 117) hG dX3_take_117 (fun v117 e117 => ?_)
        replace hF := fx_add hF rfl tl_1 (q_addN (lo := 1) (hi := 240) e117 rA1 rl_1 (by decide)).1
        have r_2 := (q_addN (lo := 1) (hi := 240) e117 rA1 rl_1 (by decide)).2
        exact q_irt hG hE dX3_take_118 ⟨w68, (q_r.mono r_2 (by decide)), (fx_end hF hF0)⟩
      refine q_if_ne (pc := 60) hG 67 dX3_take_60 rfl ?_ ?_
      · intro c60
        replace hF := fx_eq2 hF rfl rfl c60
        refine q_iconst (pc := 67) hG dX3_take_67 ki_0 ?_
        refine q_lv [2] rfl ?_
        exact J68 0 (q_r.mono rl_0 (by decide)) (by rw [tl_0]; exact hF)
      intro c60
      replace hF := fx_eq1 hF rfl rfl c60
      refine q_iconst (pc := 63) hG dX3_take_63 ki_1 ?_
      refine q_goto (pc := 64) 68 hG dX3_take_64 rfl ?_
      refine q_lv [2] rfl ?_
      exact J68 1 (q_r.mono rl_1 (by decide)) (by rw [tl_1]; exact hF)
    intro c29
    replace hF := fx_eq1 hF rfl tl_105 c29
    refine q_aload_n (pc := 32) hG dX3_take_32 1 rfl ?_
    refine q_aload_n (pc := 33) hG dX3_take_33 1 rfl ?_
    refine q_aload_n (pc := 34) hG dX3_take_34 1 rfl ?_
    refine q_getR (pc := 35) (k2 := 113) (n2 := 240) hG fl_X3_26 dX3_take_35 hI tA0 ff_3_4 (fun b35 f35 T35 => ?_)
    replace hF := fx_R hF f35 rfl
    refine q_iload_n (pc := 38) hG dX3_take_38 2 rfl ?_
    refine q_iald (pc := 39) hG dX3_take_39 hI ai_113 T35 (q_ix rA1 (by decide)) (fun v39 f39 g39 => ?_)
    replace hF := fx_I hF f39 rfl
    refine q_pV (pc := 40) [.int v39] [.ref a0] hG (c_X3_valueOf τ σ a0 v39 hI tA0 ar hr Tr) my_X3_valueOf mv_X3_valueOf w444 dX3_take_40 tA0 (by decide) rfl rfl (Nat.le_of_ble_eq_true rfl) (by decide) (fun v40 p40 => ?_)
    replace hF := fx_E hF p40.2
    refine q_cVv (pc := 43) [.int v40] [] hG (c_X3_push τ σ a0 v40 hI tA0) my_X3_push mv_X3_push w441 dX3_take_43 tA0 (by decide) rfl rfl (Nat.le_of_ble_eq_true rfl) (by decide) (fun s43 p43 => ?_)
    have w43 := hS0.trans p43.1 rfl
    replace hF := fx_S hF p43.2
    refine q_goto (pc := 46) 115 hG dX3_take_46 rfl ?_
    refine q_iload_n (pc := 115) hG dX3_take_115 2 rfl ?_
    refine q_iconst (pc := 116) hG dX3_take_116 ki_1 ?_
    refine q_iadd (pc := 117) hG dX3_take_117 (fun v117 e117 => ?_)
    replace hF := fx_add hF rfl tl_1 (q_addN (lo := 1) (hi := 240) e117 rA1 rl_1 (by decide)).1
    have r_3 := (q_addN (lo := 1) (hi := 240) e117 rA1 rl_1 (by decide)).2
    exact q_irt hG hE dX3_take_118 ⟨w43, (q_r.mono r_3 (by decide)), (fx_end hF hF0)⟩
  intro c10
  replace hF := fx_eq1 hF rfl tl_48 c10
  refine q_aload_n (pc := 13) hG dX3_take_13 1 rfl ?_
  refine q_aload_n (pc := 14) hG dX3_take_14 1 rfl ?_
  refine q_getR (pc := 15) (k2 := 113) (n2 := 240) hG fl_X3_26 dX3_take_15 hI tA0 ff_3_4 (fun b15 f15 T15 => ?_)
  replace hF := fx_R hF f15 rfl
  refine q_iload_n (pc := 18) hG dX3_take_18 2 rfl ?_
  refine q_iald (pc := 19) hG dX3_take_19 hI ai_113 T15 (q_ix rA1 (by decide)) (fun v19 f19 g19 => ?_)
  replace hF := fx_I hF f19 rfl
  refine q_cVv (pc := 20) [.int v19] [] hG (c_X3_push τ σ a0 v19 hI tA0) my_X3_push mv_X3_push w441 dX3_take_20 tA0 (by decide) rfl rfl (Nat.le_of_ble_eq_true rfl) (by decide) (fun s20 p20 => ?_)
  have w20 := hS0.trans p20.1 rfl
  replace hF := fx_S hF p20.2
  refine q_goto (pc := 23) 115 hG dX3_take_23 rfl ?_
  refine q_iload_n (pc := 115) hG dX3_take_115 2 rfl ?_
  refine q_iconst (pc := 116) hG dX3_take_116 ki_1 ?_
  refine q_iadd (pc := 117) hG dX3_take_117 (fun v117 e117 => ?_)
  replace hF := fx_add hF rfl tl_1 (q_addN (lo := 1) (hi := 240) e117 rA1 rl_1 (by decide)).1
  have r_4 := (q_addN (lo := 1) (hi := 240) e117 rA1 rl_1 (by decide)).2
  exact q_irt hG hE dX3_take_118 ⟨w20, (q_r.mono r_4 (by decide)), (fx_end hF hF0)⟩
theorem dX3_run_0 : decode cX3_run 0 = .ok (.aload_n 0, 1) := by decide +kernel
theorem dX3_run_1 : decode cX3_run 1 = .ok (.iconst 0, 1) := by decide +kernel
theorem dX3_run_2 : decode cX3_run 2 = .ok (.putfield 44, 3) := by decide +kernel
theorem dX3_run_5 : decode cX3_run 5 = .ok (.aload_n 0, 1) := by decide +kernel
theorem dX3_run_6 : decode cX3_run 6 = .ok (.iconst 0, 1) := by decide +kernel
theorem dX3_run_7 : decode cX3_run 7 = .ok (.putfield 41, 3) := by decide +kernel
theorem dX3_run_10 : decode cX3_run 10 = .ok (.iload_n 1, 1) := by decide +kernel
theorem dX3_run_11 : decode cX3_run 11 = .ok (.istore_n 2, 1) := by decide +kernel
theorem dX3_run_12 : decode cX3_run 12 = .ok (.iconst 0, 1) := by decide +kernel
theorem dX3_run_13 : decode cX3_run 13 = .ok (.istore_n 3, 1) := by decide +kernel
theorem dX3_run_14 : decode cX3_run 14 = .ok (.iload_n 3, 1) := by decide +kernel
theorem dX3_run_15 : decode cX3_run 15 = .ok (.aload_n 0, 1) := by decide +kernel
theorem dX3_run_16 : decode cX3_run 16 = .ok (.getfield 15, 3) := by decide +kernel
theorem dX3_run_19 : decode cX3_run 19 = .ok (.if_icmp .ge 50, 3) := by decide +kernel
theorem dX3_run_22 : decode cX3_run 22 = .ok (.iload_n 2, 1) := by decide +kernel
theorem dX3_run_23 : decode cX3_run 23 = .ok (.ifCond .lt 46, 3) := by decide +kernel
theorem dX3_run_26 : decode cX3_run 26 = .ok (.iload_n 2, 1) := by decide +kernel
theorem dX3_run_27 : decode cX3_run 27 = .ok (.aload_n 0, 1) := by decide +kernel
theorem dX3_run_28 : decode cX3_run 28 = .ok (.getfield 15, 3) := by decide +kernel
theorem dX3_run_31 : decode cX3_run 31 = .ok (.if_icmp .ge 38, 3) := by decide +kernel
theorem dX3_run_34 : decode cX3_run 34 = .ok (.aload_n 0, 1) := by decide +kernel
theorem dX3_run_35 : decode cX3_run 35 = .ok (.getfield 22, 3) := by decide +kernel
theorem dX3_run_38 : decode cX3_run 38 = .ok (.iload_n 2, 1) := by decide +kernel
theorem dX3_run_39 : decode cX3_run 39 = .ok (.iaload, 1) := by decide +kernel
theorem dX3_run_40 : decode cX3_run 40 = .ok (.bipush 59, 2) := by decide +kernel
theorem dX3_run_42 : decode cX3_run 42 = .ok (.if_icmp .ne 6, 3) := by decide +kernel
theorem dX3_run_45 : decode cX3_run 45 = .ok (.goto 24, 3) := by decide +kernel
theorem dX3_run_48 : decode cX3_run 48 = .ok (.aload_n 0, 1) := by decide +kernel
theorem dX3_run_49 : decode cX3_run 49 = .ok (.iload_n 2, 1) := by decide +kernel
theorem dX3_run_50 : decode cX3_run 50 = .ok (.invokevirtual 74, 3) := by decide +kernel
theorem dX3_run_53 : decode cX3_run 53 = .ok (.istore_n 2, 1) := by decide +kernel
theorem dX3_run_54 : decode cX3_run 54 = .ok (.aload_n 0, 1) := by decide +kernel
theorem dX3_run_55 : decode cX3_run 55 = .ok (.getfield 44, 3) := by decide +kernel
theorem dX3_run_58 : decode cX3_run 58 = .ok (.ifCond .eq 5, 3) := by decide +kernel
theorem dX3_run_61 : decode cX3_run 61 = .ok (.iconst 0, 1) := by decide +kernel
theorem dX3_run_62 : decode cX3_run 62 = .ok (.ireturn, 1) := by decide +kernel
theorem dX3_run_63 : decode cX3_run 63 = .ok (.iinc 3 1, 3) := by decide +kernel
theorem dX3_run_66 : decode cX3_run 66 = .ok (.goto (-52), 3) := by decide +kernel
theorem dX3_run_69 : decode cX3_run 69 = .ok (.aload_n 0, 1) := by decide +kernel
theorem dX3_run_70 : decode cX3_run 70 = .ok (.invokevirtual 77, 3) := by decide +kernel
theorem dX3_run_73 : decode cX3_run 73 = .ok (.ireturn, 1) := by decide +kernel
def md_X3_run : List (Nat × Nat) := [(3, 9), (3, 10), (117, 0)]
set_option maxRecDepth 100000 in
set_option maxHeartbeats 4000000 in
theorem c_X3_run {l : Launch} {D : q_D} (τ : q_T) (σ : q_V) (a0 : Nat) (x1 : Int32) (hI : q_I τ σ) (tA0 : τ a0 = some (3, 1)) (ar : Nat) (hr : σ a0 11 = .ref ar) (Tr : τ ar = some (6, 1)) : q_Ci l D yX3_run cX3_run 4 (some .int) 3 68 τ σ [.ref a0, .int x1] (fun r σ1 => q_S md_X3_run τ σ σ1 ∧ (q_r r (-2147483648) 2147483647) ∧ ((r.toInt, fx_N σ1) = f_X3_run (fx_N σ) a0 x1.toInt)) := by
  refine q_meti rfl (Nat.le_of_ble_eq_true rfl) (fun X hG hE => ?_)
  show q_O X 0 0 τ σ 0 [(0, .ref a0), (1, .int x1)] []
  have hS0 : q_S md_X3_run τ σ σ := q_S.rf hI
  obtain ⟨Fv, hF⟩ : ∃ z, fx_eq z (f_X3_run (fx_N σ) a0 x1.toInt) := ⟨_, fx_rf⟩
  have hF0 := hF
  unfold f_X3_run at hF
  replace hF := fx_R hF hr rfl
  refine q_aload_n (pc := 0) hG dX3_run_0 0 rfl ?_
  refine q_iconst (pc := 1) hG dX3_run_1 ki_0 ?_
  refine q_putZ (pc := 2) hG fl_X3_44 dX3_run_2 hS0 tA0 ff_3_10 (q_r.mono rl_0 (by decide)) (by decide) rfl (fun s2 u2 w2 => ?_)
  replace hF := fx_P hF u2 rfl tl_0
  have m2 : s2 a0 10 = .int 0 := by rw [u2]; exact q_up_same
  refine q_aload_n (pc := 5) hG dX3_run_5 0 rfl ?_
  refine q_iconst (pc := 6) hG dX3_run_6 ki_0 ?_
  refine q_putI (pc := 7) hG fl_X3_41 dX3_run_7 w2 tA0 ff_3_9 rl_0 (by decide) rfl (fun s7 u7 w7 => ?_)
  replace hF := fx_P hF u7 rfl tl_0
  have m7 : s7 a0 9 = .int 0 := by rw [u7]; exact q_up_same
  refine q_iload_n (pc := 10) hG dX3_run_10 1 rfl ?_
  refine q_istore_n (pc := 11) [(2, .int x1), (0, .ref a0), (1, .int x1)] hG dX3_run_11 (by decide) rfl ?_
  refine q_iconst (pc := 12) hG dX3_run_12 ki_0 ?_
  refine q_istore_n (pc := 13) [(3, .int 0), (2, .int x1), (0, .ref a0), (1, .int x1)] hG dX3_run_13 (by decide) rfl ?_
  have J14 : ∀ (n14 : Nat) (p14_2 : Int32) (p14_3 : Int32) (σ14 : q_V), (q_r p14_3 0 240) → (q_S md_X3_run τ σ σ14) → (fx_eq Fv (kL_X3_run_14 a0 n14 p14_2.toInt p14_3.toInt (fx_N σ14))) → ((240 - p14_3.toInt).toNat < n14) → q_O X 0 0 τ σ14 14 [(0, .ref a0), (2, .int p14_2), (3, .int p14_3)] [] := by
    intro n14
    induction n14 with
    | zero => intro p14_2 p14_3 σ14 r14_3 hS14 hF hm14; exact absurd hm14 (Nat.not_lt_zero _)
    | succ n14 ih14 =>
      intro p14_2 p14_3 σ14 r14_3 hS14 hF hm14
      replace hF := (show fx_eq Fv (kB_X3_run_14 (kL_X3_run_14 a0 n14) a0 p14_2.toInt p14_3.toInt (fx_N σ14)) from hF)
      unfold kB_X3_run_14 at hF
      refine q_iload_n (pc := 14) hG dX3_run_14 2 rfl ?_
      refine q_aload_n (pc := 15) hG dX3_run_15 0 rfl ?_
      refine q_getI (pc := 16) hG fl_X3_15 dX3_run_16 hS14.1 tA0 ff_3_1 (fun v16 f16 g16 => ?_)
      replace hF := fx_I hF f16 rfl
      have f_1 := (hS14.2 _ _ _ _ tA0 rfl).symm.trans f16
      have J69 : (fx_eq Fv (kJ_X3_run_69 (fx_N σ14) a0)) → q_O X 0 0 τ σ14 69 [(0, .ref a0)] [] := by
        intro hF
        unfold kJ_X3_run_69 at hF
        refine q_aload_n (pc := 69) hG dX3_run_69 0 rfl ?_
        refine q_cVi (pc := 70) [] [] hG (c_X3_pop τ σ14 a0 hS14.1 tA0) my_X3_pop mv_X3_pop w448 dX3_run_70 tA0 (by decide) rfl rfl (Nat.le_of_ble_eq_true rfl) (by decide) (fun v70 s70 p70 => ?_)
        have w70 := hS14.trans p70.1 rfl
        replace hF := fx_C hF p70.2.2
        exact q_irt hG hE dX3_run_73 ⟨w70, p70.2.1, (fx_end hF hF0)⟩
      refine q_icmp_ge (pc := 19) hG 69 dX3_run_19 rfl ?_ ?_
      · intro c19
        replace hF := fx_lt2 hF rfl rfl c19
        refine q_lv [0] rfl ?_
        exact J69 hF
      intro c19
      replace hF := fx_lt1 hF rfl rfl c19
      refine q_iload_n (pc := 22) hG dX3_run_22 1 rfl ?_
      refine q_if_lt (pc := 23) hG 69 dX3_run_23 rfl ?_ ?_
      · intro c23
        replace hF := fx_lt1 hF rfl rfl c23
        refine q_lv [0] rfl ?_
        exact J69 hF
      intro c23
      replace hF := fx_lt2 hF rfl rfl c23
      refine q_iload_n (pc := 26) hG dX3_run_26 1 rfl ?_
      refine q_aload_n (pc := 27) hG dX3_run_27 0 rfl ?_
      refine q_getV (pc := 28) (v := .int v16) hG fl_X3_15 dX3_run_28 tA0 (hS14.same tA0 rfl f_1) ?_
      refine q_icmp_ge (pc := 31) hG 69 dX3_run_31 rfl ?_ ?_
      · intro c31
        have r_2 := q_zge (q_r_any p14_2) c23
        have r_3 := q_rgt g16 r14_3 c19 1 (by decide)
        replace hF := fx_lt2 hF rfl rfl c31
        refine q_lv [0] rfl ?_
        exact J69 hF
      intro c31
      have r_4 := q_zge (q_r_any p14_2) c23
      have r_5 := q_rgt g16 r14_3 c19 1 (by decide)
      replace hF := fx_lt1 hF rfl rfl c31
      refine q_aload_n (pc := 34) hG dX3_run_34 0 rfl ?_
      refine q_getR (pc := 35) (k2 := 112) (n2 := 240) hG fl_X3_22 dX3_run_35 hS14.1 tA0 ff_3_3 (fun b35 f35 T35 => ?_)
      replace hF := fx_R hF f35 rfl
      have f_6 := (hS14.2 _ _ _ _ tA0 rfl).symm.trans f35
      refine q_iload_n (pc := 38) hG dX3_run_38 1 rfl ?_
      have r_7 := q_rlt r_4 r_5 c31 239 (by decide)
      refine q_iald (pc := 39) hG dX3_run_39 hS14.1 ai_112 T35 (q_ix r_7 (by decide)) (fun v39 f39 g39 => ?_)
      replace hF := fx_I hF f39 rfl
      have f_8 := (hS14.2 _ _ _ _ T35 rfl).symm.trans f39
      refine q_bipush (pc := 40) hG dX3_run_40 kb_59 ?_
      refine q_icmp_ne (pc := 42) hG 48 dX3_run_42 rfl ?_ ?_
      · intro c42
        replace hF := fx_eq2 hF rfl tl_59 c42
        refine q_aload_n (pc := 48) hG dX3_run_48 0 rfl ?_
        refine q_iload_n (pc := 49) hG dX3_run_49 1 rfl ?_
        refine q_cVi (pc := 50) [.int p14_2] [] hG (c_X3_take τ σ14 a0 p14_2 hS14.1 tA0 r_7 ar (hS14.same tA0 rfl hr) Tr) my_X3_take mv_X3_take w438 dX3_run_50 tA0 (by decide) rfl rfl (Nat.le_of_ble_eq_true rfl) (by decide) (fun v50 s50 p50 => ?_)
        have w50 := hS14.trans p50.1 rfl
        replace hF := fx_C hF p50.2.2
        refine q_istore_n (pc := 53) [(2, .int v50), (0, .ref a0), (3, .int p14_3)] hG dX3_run_53 (by decide) rfl ?_
        refine q_aload_n (pc := 54) hG dX3_run_54 1 rfl ?_
        refine q_getI (pc := 55) hG fl_X3_44 dX3_run_55 w50.1 tA0 ff_3_10 (fun v55 f55 g55 => ?_)
        replace hF := fx_I hF f55 rfl
        refine q_if_eq (pc := 58) hG 63 dX3_run_58 rfl ?_ ?_
        · intro c58
          replace hF := fx_eq1 hF rfl rfl c58
          obtain ⟨v63, e63⟩ : ∃ z : Int32, z = p14_3 + Int32.ofInt 1 := ⟨_, rfl⟩
          have r_9 := q_rlt r14_3 g16 c19 239 (by decide)
          have h63 := q_incN (lo := 1) (hi := 240) r_9 (by decide) (by decide) e63
          replace hF := fx_add hF rfl rfl h63.1
          refine q_iinc (pc := 63) [(3, .int v63), (2, .int v50), (0, .ref a0)] hG dX3_run_63 2 rfl e63 (by decide) rfl ?_
          refine q_goto (pc := 66) 14 hG dX3_run_66 rfl ?_
          refine q_lv [2, 1, 0] rfl ?_
          exact ih14 v50 v63 s50 (q_r.mono h63.2 (by decide)) w50 hF (q_measU hm14 (by have o0 := c19; have o1 := c31; have o2 := h63.1; have o3 := c23; have o4 := r_7; have o5 := r_9; have o6 := r_5; have o7 := h63.2; unfold q_r at o4 o5 o6 o7; omega) (h63.2).2)
        intro c58
        replace hF := fx_eq2 hF rfl rfl c58
        refine q_iconst (pc := 61) hG dX3_run_61 ki_0 ?_
        exact q_irt hG hE dX3_run_62 ⟨w50, (q_r.mono rl_0 (by decide)), (by rw [tl_0]; exact fx_end hF hF0)⟩
      intro c42
      replace hF := fx_eq1 hF rfl tl_59 c42
      refine q_goto (pc := 45) 69 hG dX3_run_45 rfl ?_
      refine q_lv [0] rfl ?_
      exact J69 hF
  refine q_lv [2, 1, 0] rfl ?_
  exact J14 ((240 - (0 : Int32).toInt).toNat + 1) x1 0 s7 (q_r.mono rl_0 (by decide)) w7 (by rw [tl_0]; exact hF) (Nat.lt_succ_self _)
theorem dX3_ask_0 : decode cX3_ask 0 = .ok (.aload_n 0, 1) := by decide +kernel
theorem dX3_ask_1 : decode cX3_ask 1 = .ok (.aload_n 2, 1) := by decide +kernel
theorem dX3_ask_2 : decode cX3_ask 2 = .ok (.putfield 47, 3) := by decide +kernel
theorem dX3_ask_5 : decode cX3_ask 5 = .ok (.aload_n 0, 1) := by decide +kernel
theorem dX3_ask_6 : decode cX3_ask 6 = .ok (.iload_n 3, 1) := by decide +kernel
theorem dX3_ask_7 : decode cX3_ask 7 = .ok (.putfield 51, 3) := by decide +kernel
theorem dX3_ask_10 : decode cX3_ask 10 = .ok (.aload_n 0, 1) := by decide +kernel
theorem dX3_ask_11 : decode cX3_ask 11 = .ok (.iload 4, 2) := by decide +kernel
theorem dX3_ask_13 : decode cX3_ask 13 = .ok (.putfield 54, 3) := by decide +kernel
theorem dX3_ask_16 : decode cX3_ask 16 = .ok (.aload_n 0, 1) := by decide +kernel
theorem dX3_ask_17 : decode cX3_ask 17 = .ok (.iload 5, 2) := by decide +kernel
theorem dX3_ask_19 : decode cX3_ask 19 = .ok (.putfield 57, 3) := by decide +kernel
theorem dX3_ask_22 : decode cX3_ask 22 = .ok (.aload_n 0, 1) := by decide +kernel
theorem dX3_ask_23 : decode cX3_ask 23 = .ok (.iload 6, 2) := by decide +kernel
theorem dX3_ask_25 : decode cX3_ask 25 = .ok (.putfield 60, 3) := by decide +kernel
theorem dX3_ask_28 : decode cX3_ask 28 = .ok (.iload_n 1, 1) := by decide +kernel
theorem dX3_ask_29 : decode cX3_ask 29 = .ok (.bipush 112, 2) := by decide +kernel
theorem dX3_ask_31 : decode cX3_ask 31 = .ok (.if_icmp .ne 7, 3) := by decide +kernel
theorem dX3_ask_34 : decode cX3_ask 34 = .ok (.iconst 1, 1) := by decide +kernel
theorem dX3_ask_35 : decode cX3_ask 35 = .ok (.goto 4, 3) := by decide +kernel
theorem dX3_ask_38 : decode cX3_ask 38 = .ok (.iconst 0, 1) := by decide +kernel
theorem dX3_ask_39 : decode cX3_ask 39 = .ok (.istore 7, 2) := by decide +kernel
theorem dX3_ask_41 : decode cX3_ask 41 = .ok (.iconst 0, 1) := by decide +kernel
theorem dX3_ask_42 : decode cX3_ask 42 = .ok (.istore 8, 2) := by decide +kernel
theorem dX3_ask_44 : decode cX3_ask 44 = .ok (.iload 8, 2) := by decide +kernel
theorem dX3_ask_46 : decode cX3_ask 46 = .ok (.aload_n 0, 1) := by decide +kernel
theorem dX3_ask_47 : decode cX3_ask 47 = .ok (.getfield 9, 3) := by decide +kernel
theorem dX3_ask_50 : decode cX3_ask 50 = .ok (.if_icmp .ge 55, 3) := by decide +kernel
theorem dX3_ask_53 : decode cX3_ask 53 = .ok (.aload_n 0, 1) := by decide +kernel
theorem dX3_ask_54 : decode cX3_ask 54 = .ok (.getfield 29, 3) := by decide +kernel
theorem dX3_ask_57 : decode cX3_ask 57 = .ok (.iload 8, 2) := by decide +kernel
theorem dX3_ask_59 : decode cX3_ask 59 = .ok (.iaload, 1) := by decide +kernel
theorem dX3_ask_60 : decode cX3_ask 60 = .ok (.iload_n 1, 1) := by decide +kernel
theorem dX3_ask_61 : decode cX3_ask 61 = .ok (.if_icmp .ne 38, 3) := by decide +kernel
theorem dX3_ask_64 : decode cX3_ask 64 = .ok (.aload_n 0, 1) := by decide +kernel
theorem dX3_ask_65 : decode cX3_ask 65 = .ok (.aload_n 0, 1) := by decide +kernel
theorem dX3_ask_66 : decode cX3_ask 66 = .ok (.getfield 35, 3) := by decide +kernel
theorem dX3_ask_69 : decode cX3_ask 69 = .ok (.iload 8, 2) := by decide +kernel
theorem dX3_ask_71 : decode cX3_ask 71 = .ok (.iaload, 1) := by decide +kernel
theorem dX3_ask_72 : decode cX3_ask 72 = .ok (.invokevirtual 63, 3) := by decide +kernel
theorem dX3_ask_75 : decode cX3_ask 75 = .ok (.ifCond .eq 24, 3) := by decide +kernel
theorem dX3_ask_78 : decode cX3_ask 78 = .ok (.aload_n 0, 1) := by decide +kernel
theorem dX3_ask_79 : decode cX3_ask 79 = .ok (.aload_n 0, 1) := by decide +kernel
theorem dX3_ask_80 : decode cX3_ask 80 = .ok (.getfield 32, 3) := by decide +kernel
theorem dX3_ask_83 : decode cX3_ask 83 = .ok (.iload 8, 2) := by decide +kernel
theorem dX3_ask_85 : decode cX3_ask 85 = .ok (.iaload, 1) := by decide +kernel
theorem dX3_ask_86 : decode cX3_ask 86 = .ok (.invokevirtual 63, 3) := by decide +kernel
theorem dX3_ask_89 : decode cX3_ask 89 = .ok (.iload 7, 2) := by decide +kernel
theorem dX3_ask_91 : decode cX3_ask 91 = .ok (.iload_n 1, 1) := by decide +kernel
theorem dX3_ask_92 : decode cX3_ask 92 = .ok (.invokestatic 67, 3) := by decide +kernel
theorem dX3_ask_95 : decode cX3_ask 95 = .ok (.invokestatic 70, 3) := by decide +kernel
theorem dX3_ask_98 : decode cX3_ask 98 = .ok (.ireturn, 1) := by decide +kernel
theorem dX3_ask_99 : decode cX3_ask 99 = .ok (.iinc 8 1, 3) := by decide +kernel
theorem dX3_ask_102 : decode cX3_ask 102 = .ok (.goto (-58), 3) := by decide +kernel
theorem dX3_ask_105 : decode cX3_ask 105 = .ok (.iload 7, 2) := by decide +kernel
theorem dX3_ask_107 : decode cX3_ask 107 = .ok (.ireturn, 1) := by decide +kernel
def md_X3_ask : List (Nat × Nat) := [(3, 9), (3, 10), (3, 11), (3, 12), (3, 13), (3, 14), (3, 15), (117, 0)]
set_option maxRecDepth 100000 in
set_option maxHeartbeats 4000000 in
theorem c_X3_ask {l : Launch} {D : q_D} (τ : q_T) (σ : q_V) (a0 : Nat) (x1 : Int32) (a2 : Nat) (x3 : Int32) (x4 : Int32) (x5 : Int32) (x6 : Int32) (hI : q_I τ σ) (tA0 : τ a0 = some (3, 1)) (tA2 : τ a2 = some (6, 1)) : q_Ci l D yX3_ask cX3_ask 9 (some .int) 4 91 τ σ [.ref a0, .int x1, .ref a2, .int x3, .int x4, .int x5, .int x6] (fun r σ1 => q_S md_X3_ask τ σ σ1 ∧ (q_r r 0 99) ∧ ((r.toInt, fx_N σ1) = f_X3_ask (fx_N σ) a0 x1.toInt a2 x3.toInt x4.toInt x5.toInt x6.toInt)) := by
  refine q_meti rfl (Nat.le_of_ble_eq_true rfl) (fun X hG hE => ?_)
  show q_O X 0 0 τ σ 0 [(0, .ref a0), (1, .int x1), (2, .ref a2), (3, .int x3), (4, .int x4), (5, .int x5), (6, .int x6)] []
  have hS0 : q_S md_X3_ask τ σ σ := q_S.rf hI
  obtain ⟨Fv, hF⟩ : ∃ z, fx_eq z (f_X3_ask (fx_N σ) a0 x1.toInt a2 x3.toInt x4.toInt x5.toInt x6.toInt) := ⟨_, fx_rf⟩
  have hF0 := hF
  unfold f_X3_ask at hF
  refine q_aload_n (pc := 0) hG dX3_ask_0 0 rfl ?_
  refine q_aload_n (pc := 1) hG dX3_ask_1 2 rfl ?_
  refine q_putR (pc := 2) hG fl_X3_47 dX3_ask_2 hS0 tA0 (q_va ff_3_11) rfl rfl rfl (fun s2 u2 w2 => ?_)
  replace hF := fx_PR hF u2 rfl
  have m2 : s2 a0 11 = .ref a2 := by rw [u2]; exact q_up_same
  refine q_aload_n (pc := 5) hG dX3_ask_5 0 rfl ?_
  refine q_iload_n (pc := 6) hG dX3_ask_6 3 rfl ?_
  refine q_putI (pc := 7) hG fl_X3_51 dX3_ask_7 w2 tA0 ff_3_12 (q_r_any x3) (by decide) rfl (fun s7 u7 w7 => ?_)
  replace hF := fx_P hF u7 rfl rfl
  have m7 : s7 a0 12 = .int x3 := by rw [u7]; exact q_up_same
  refine q_aload_n (pc := 10) hG dX3_ask_10 0 rfl ?_
  refine q_iload (pc := 11) hG dX3_ask_11 4 rfl ?_
  refine q_putI (pc := 13) hG fl_X3_54 dX3_ask_13 w7 tA0 ff_3_13 (q_r_any x4) (by decide) rfl (fun s13 u13 w13 => ?_)
  replace hF := fx_P hF u13 rfl rfl
  have m13 : s13 a0 13 = .int x4 := by rw [u13]; exact q_up_same
  refine q_aload_n (pc := 16) hG dX3_ask_16 0 rfl ?_
  refine q_iload (pc := 17) hG dX3_ask_17 5 rfl ?_
  refine q_putI (pc := 19) hG fl_X3_57 dX3_ask_19 w13 tA0 ff_3_14 (q_r_any x5) (by decide) rfl (fun s19 u19 w19 => ?_)
  replace hF := fx_P hF u19 rfl rfl
  have m19 : s19 a0 14 = .int x5 := by rw [u19]; exact q_up_same
  refine q_aload_n (pc := 22) hG dX3_ask_22 0 rfl ?_
  refine q_iload (pc := 23) hG dX3_ask_23 6 rfl ?_
  refine q_putI (pc := 25) hG fl_X3_60 dX3_ask_25 w19 tA0 ff_3_15 (q_r_any x6) (by decide) rfl (fun s25 u25 w25 => ?_)
  replace hF := fx_P hF u25 rfl rfl
  have m25 : s25 a0 15 = .int x6 := by rw [u25]; exact q_up_same
  refine q_iload_n (pc := 28) hG dX3_ask_28 1 rfl ?_
  refine q_bipush (pc := 29) hG dX3_ask_29 kb_112 ?_
  have J39 : ∀ (p39_s0 : Int32), (q_r p39_s0 0 1) → (fx_eq Fv (kJ_X3_ask_39 a0 x1.toInt (fx_N s25) p39_s0.toInt)) → q_O X 0 0 τ s25 39 [(0, .ref a0), (1, .int x1)] [.int p39_s0] := by
    intro p39_s0 r39_s0 hF
    unfold kJ_X3_ask_39 at hF
    refine q_istore (pc := 39) [(7, .int p39_s0), (0, .ref a0), (1, .int x1)] hG dX3_ask_39 (by decide) rfl ?_
    refine q_iconst (pc := 41) hG dX3_ask_41 ki_0 ?_
    refine q_istore (pc := 42) [(8, .int 0), (7, .int p39_s0), (0, .ref a0), (1, .int x1)] hG dX3_ask_42 (by decide) rfl ?_
    have J44 : ∀ (n44 : Nat) (p44_8 : Int32) (σ44 : q_V), (q_r p44_8 0 16) → (q_S md_X3_ask τ σ σ44) → (σ44 a0 11 = .ref a2) → (fx_eq Fv (kL_X3_ask_44 a0 x1.toInt p39_s0.toInt n44 p44_8.toInt (fx_N σ44))) → ((16 - p44_8.toInt).toNat < n44) → q_O X 0 0 τ σ44 44 [(0, .ref a0), (1, .int x1), (7, .int p39_s0), (8, .int p44_8)] [] := by
      intro n44
      induction n44 with
      | zero => intro p44_8 σ44 r44_8 hS44 ir44 hF hm44; exact absurd hm44 (Nat.not_lt_zero _)
      | succ n44 ih44 =>
        intro p44_8 σ44 r44_8 hS44 ir44 hF hm44
        replace hF := (show fx_eq Fv (kB_X3_ask_44 (kL_X3_ask_44 a0 x1.toInt p39_s0.toInt n44) a0 x1.toInt p39_s0.toInt p44_8.toInt (fx_N σ44)) from hF)
        unfold kB_X3_ask_44 at hF
        refine q_iload (pc := 44) hG dX3_ask_44 3 rfl ?_
        refine q_aload_n (pc := 46) hG dX3_ask_46 0 rfl ?_
        refine q_getI (pc := 47) hG fl_X3_9 dX3_ask_47 hS44.1 tA0 ff_3_0 (fun v47 f47 g47 => ?_)
        replace hF := fx_I hF f47 rfl
        have f_1 := (hS44.2 _ _ _ _ tA0 rfl).symm.trans f47
        refine q_icmp_ge (pc := 50) hG 105 dX3_ask_50 rfl ?_ ?_
        · intro c50
          replace hF := fx_lt2 hF rfl rfl c50
          refine q_iload (pc := 105) hG dX3_ask_105 2 rfl ?_
          exact q_irt hG hE dX3_ask_107 ⟨hS44, (q_r.mono r39_s0 (by decide)), (fx_end hF hF0)⟩
        intro c50
        replace hF := fx_lt1 hF rfl rfl c50
        refine q_aload_n (pc := 53) hG dX3_ask_53 0 rfl ?_
        refine q_getR (pc := 54) (k2 := 114) (n2 := 16) hG fl_X3_29 dX3_ask_54 hS44.1 tA0 ff_3_5 (fun b54 f54 T54 => ?_)
        replace hF := fx_R hF f54 rfl
        have f_2 := (hS44.2 _ _ _ _ tA0 rfl).symm.trans f54
        refine q_iload (pc := 57) hG dX3_ask_57 3 rfl ?_
        have r_3 := q_rlt r44_8 g47 c50 15 (by decide)
        refine q_iald (pc := 59) hG dX3_ask_59 hS44.1 ai_114 T54 (q_ix r_3 (by decide)) (fun v59 f59 g59 => ?_)
        replace hF := fx_I hF f59 rfl
        have f_4 := (hS44.2 _ _ _ _ T54 rfl).symm.trans f59
        refine q_iload_n (pc := 60) hG dX3_ask_60 1 rfl ?_
        have J99 : ∀ (σ99 : q_V), (q_S md_X3_ask τ σ σ99) → (σ99 a0 11 = .ref a2) → (fx_eq Fv (kJ_X3_ask_99 p44_8.toInt (kL_X3_ask_44 a0 x1.toInt p39_s0.toInt n44) (fx_N σ99))) → q_O X 0 0 τ σ99 99 [(0, .ref a0), (1, .int x1), (7, .int p39_s0), (8, .int p44_8)] [] := by
          intro σ99 hS99 ir99 hF
          unfold kJ_X3_ask_99 at hF
          obtain ⟨v99, e99⟩ : ∃ z : Int32, z = p44_8 + Int32.ofInt 1 := ⟨_, rfl⟩
          have h99 := q_incN (lo := 1) (hi := 16) r_3 (by decide) (by decide) e99
          replace hF := fx_add hF rfl rfl h99.1
          refine q_iinc (pc := 99) [(8, .int v99), (0, .ref a0), (1, .int x1), (7, .int p39_s0)] hG dX3_ask_99 3 rfl e99 (by decide) rfl ?_
          refine q_goto (pc := 102) 44 hG dX3_ask_102 rfl ?_
          refine q_lv [1, 2, 3, 0] rfl ?_
          have r_5 := q_rgt g47 r44_8 c50 1 (by decide)
          exact ih44 v99 σ99 (q_r.mono h99.2 (by decide)) hS99 ir99 hF (q_measU hm44 (by have o0 := c50; have o1 := h99.1; have o2 := r_3; have o3 := r_5; have o4 := h99.2; unfold q_r at o2 o3 o4; omega) (h99.2).2)
        refine q_icmp_ne (pc := 61) hG 99 dX3_ask_61 rfl ?_ ?_
        · intro c61
          replace hF := fx_eq2 hF rfl rfl c61
          refine q_lv [0, 1, 2, 3] rfl ?_
          exact J99 σ44 hS44 ir44 hF
        intro c61
        replace hF := fx_eq1 hF rfl rfl c61
        refine q_aload_n (pc := 64) hG dX3_ask_64 0 rfl ?_
        refine q_aload_n (pc := 65) hG dX3_ask_65 0 rfl ?_
        refine q_getR (pc := 66) (k2 := 116) (n2 := 16) hG fl_X3_35 dX3_ask_66 hS44.1 tA0 ff_3_7 (fun b66 f66 T66 => ?_)
        replace hF := fx_R hF f66 rfl
        have f_6 := (hS44.2 _ _ _ _ tA0 rfl).symm.trans f66
        refine q_iload (pc := 69) hG dX3_ask_69 3 rfl ?_
        refine q_iald (pc := 71) hG dX3_ask_71 hS44.1 ai_116 T66 (q_ix r_3 (by decide)) (fun v71 f71 g71 => ?_)
        replace hF := fx_I hF f71 rfl
        have f_7 := (hS44.2 _ _ _ _ T66 rfl).symm.trans f71
        refine q_cVi (pc := 72) [.int v71] [] hG (c_X3_run τ σ44 a0 v71 hS44.1 tA0 a2 ir44 tA2) my_X3_run mv_X3_run w435 dX3_ask_72 tA0 (by decide) rfl rfl (Nat.le_of_ble_eq_true rfl) (by decide) (fun v72 s72 p72 => ?_)
        have w72 := hS44.trans p72.1 rfl
        replace hF := fx_C hF p72.2.2
        refine q_if_eq (pc := 75) hG 99 dX3_ask_75 rfl ?_ ?_
        · intro c75
          replace hF := fx_eq1 hF rfl rfl c75
          refine q_lv [0, 1, 2, 3] rfl ?_
          exact J99 s72 w72 (p72.1.same tA0 rfl ir44) hF
        intro c75
        replace hF := fx_eq2 hF rfl rfl c75
        refine q_aload_n (pc := 78) hG dX3_ask_78 0 rfl ?_
        refine q_aload_n (pc := 79) hG dX3_ask_79 0 rfl ?_
        refine q_getR (pc := 80) (k2 := 115) (n2 := 16) hG fl_X3_32 dX3_ask_80 w72.1 tA0 ff_3_6 (fun b80 f80 T80 => ?_)
        replace hF := fx_R hF f80 rfl
        have f_8 := (w72.2 _ _ _ _ tA0 rfl).symm.trans f80
        refine q_iload (pc := 83) hG dX3_ask_83 3 rfl ?_
        refine q_iald (pc := 85) hG dX3_ask_85 w72.1 ai_115 T80 (q_ix r_3 (by decide)) (fun v85 f85 g85 => ?_)
        replace hF := fx_I hF f85 rfl
        have f_9 := (w72.2 _ _ _ _ T80 rfl).symm.trans f85
        refine q_cVi (pc := 86) [.int v85] [] hG (c_X3_run τ s72 a0 v85 w72.1 tA0 a2 (p72.1.same tA0 rfl ir44) tA2) my_X3_run mv_X3_run w435 dX3_ask_86 tA0 (by decide) rfl rfl (Nat.le_of_ble_eq_true rfl) (by decide) (fun v86 s86 p86 => ?_)
        have w86 := w72.trans p86.1 rfl
        replace hF := fx_C hF p86.2.2
        refine q_iload (pc := 89) hG dX3_ask_89 2 rfl ?_
        refine q_iload_n (pc := 91) hG dX3_ask_91 1 rfl ?_
        refine q_pS (pc := 92) [.int x1] [.int p39_s0, .int v86] hG (c_X3_highest τ s86 x1 w86.1) my_X3_highest w458 w457 dX3_ask_92 rfl rfl (Nat.le_of_ble_eq_true rfl) (by decide) (fun v92 p92 => ?_)
        replace hF := fx_E hF p92.2
        refine q_pN (pc := 95) [.int v86, .int p39_s0, .int v92] [] hG (c_X11_heldIn τ s86 v86 p39_s0 v92 w86.1) my_X11_heldIn w460 nw_13 dX3_ask_95 rfl rfl (Nat.le_of_ble_eq_true rfl) (by decide) (fun v95 p95 => ?_)
        replace hF := fx_E hF p95.2.1
        have r_10 := q_heldN (lo := 0) (hi := 99) p95.2.2.1 p86.2.1 r39_s0 p92.1 (by decide) p95.2.2.2
        exact q_irt hG hE dX3_ask_98 ⟨w86, r_10, (fx_end hF hF0)⟩
    refine q_lv [2, 3, 1, 0] rfl ?_
    exact J44 ((16 - (0 : Int32).toInt).toNat + 1) 0 s25 (q_r.mono rl_0 (by decide)) w25 (by rw [u25]; exact (q_up_else (Or.inr (by decide))).trans (by rw [u19]; exact (q_up_else (Or.inr (by decide))).trans (by rw [u13]; exact (q_up_else (Or.inr (by decide))).trans (by rw [u7]; exact (q_up_else (Or.inr (by decide))).trans m2)))) (by rw [tl_0]; exact hF) (Nat.lt_succ_self _)
  refine q_icmp_ne (pc := 31) hG 38 dX3_ask_31 rfl ?_ ?_
  · intro c31
    replace hF := fx_eq2 hF rfl tl_112 c31
    refine q_iconst (pc := 38) hG dX3_ask_38 ki_0 ?_
    refine q_lv [0, 1] rfl ?_
    exact J39 0 (q_r.mono rl_0 (by decide)) (by rw [tl_0]; exact hF)
  intro c31
  replace hF := fx_eq1 hF rfl tl_112 c31
  refine q_iconst (pc := 34) hG dX3_ask_34 ki_1 ?_
  refine q_goto (pc := 35) 39 hG dX3_ask_35 rfl ?_
  refine q_lv [0, 1] rfl ?_
  exact J39 1 (q_r.mono rl_1 (by decide)) (by rw [tl_1]; exact hF)
