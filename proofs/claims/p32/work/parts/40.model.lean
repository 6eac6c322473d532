/-! laid by wip/p2/build.py -/
theorem dX12_has_0 : decode cX12_has 0 = .ok (.iload_n 0, 1) := by decide +kernel
theorem dX12_has_1 : decode cX12_has 1 = .ok (.iload_n 1, 1) := by decide +kernel
theorem dX12_has_2 : decode cX12_has 2 = .ok (.ishr, 1) := by decide +kernel
theorem dX12_has_3 : decode cX12_has 3 = .ok (.iconst 1, 1) := by decide +kernel
theorem dX12_has_4 : decode cX12_has 4 = .ok (.iand, 1) := by decide +kernel
theorem dX12_has_5 : decode cX12_has 5 = .ok (.iconst 1, 1) := by decide +kernel
theorem dX12_has_6 : decode cX12_has 6 = .ok (.if_icmp .ne 7, 3) := by decide +kernel
theorem dX12_has_9 : decode cX12_has 9 = .ok (.iconst 1, 1) := by decide +kernel
theorem dX12_has_10 : decode cX12_has 10 = .ok (.goto 4, 3) := by decide +kernel
theorem dX12_has_13 : decode cX12_has 13 = .ok (.iconst 0, 1) := by decide +kernel
theorem dX12_has_14 : decode cX12_has 14 = .ok (.ireturn, 1) := by decide +kernel
set_option maxRecDepth 100000 in
set_option maxHeartbeats 4000000 in
theorem c_X12_has {l : Launch} {D : q_D} (τ : q_T) (σ : q_V) (x0 : Int32) (x1 : Int32) (hI : q_I τ σ) : q_Cp l D yX12_has cX12_has 2 (some .boolean) 0 0 τ σ [.int x0, .int x1] (fun r => (q_r r 0 1) ∧ (r.toInt = f_X12_has (fx_N σ) x0.toInt x1.toInt)) := by
  refine q_meti rfl (Nat.le_of_ble_eq_true rfl) (fun X hG hE => ?_)
  show q_O X 0 0 τ σ 0 [(0, .int x0), (1, .int x1)] []
  obtain ⟨Fv, hF⟩ : ∃ z, fx_eq z (f_X12_has (fx_N σ) x0.toInt x1.toInt) := ⟨_, fx_rf⟩
  have hF0 := hF
  unfold f_X12_has at hF
  refine q_iload_n (pc := 0) hG dX12_has_0 0 rfl ?_
  refine q_iload_n (pc := 1) hG dX12_has_1 1 rfl ?_
  refine q_ishr (pc := 2) hG dX12_has_2 (fun v2 e2 => ?_)
  replace hF := fx_B_shr hF rfl rfl e2
  refine q_iconst (pc := 3) hG dX12_has_3 ki_1 ?_
  refine q_iand (pc := 4) hG dX12_has_4 (fun v4 e4 => ?_)
  replace hF := fx_B_and hF rfl tl_1 e4
  refine q_iconst (pc := 5) hG dX12_has_5 ki_1 ?_
  refine q_icmp_ne (pc := 6) hG 13 dX12_has_6 rfl ?_ ?_
  · intro c6
    have r_1 := q_andN (n := 1) e4 rfl (by decide)
    replace hF := fx_eq2 hF rfl tl_1 c6
    refine q_iconst (pc := 13) hG dX12_has_13 ki_0 ?_
    exact q_zrt hG hE dX12_has_14 (q_r.mono rl_0 (by decide)) ⟨rfl, (q_r.mono rl_0 (by decide)), (by rw [tl_0]; exact fx_end hF hF0)⟩
  intro c6
  have r_2 := q_andN (n := 1) e4 rfl (by decide)
  replace hF := fx_eq1 hF rfl tl_1 c6
  refine q_iconst (pc := 9) hG dX12_has_9 ki_1 ?_
  refine q_goto (pc := 10) 14 hG dX12_has_10 rfl ?_
  exact q_zrt hG hE dX12_has_14 (q_r.mono rl_1 (by decide)) ⟨rfl, (q_r.mono rl_1 (by decide)), (by rw [tl_1]; exact fx_end hF hF0)⟩
theorem dX12_isPainted_0 : decode cX12_isPainted 0 = .ok (.aload_n 0, 1) := by decide +kernel
theorem dX12_isPainted_1 : decode cX12_isPainted 1 = .ok (.getfield 7, 3) := by decide +kernel
theorem dX12_isPainted_4 : decode cX12_isPainted 4 = .ok (.sipush 320, 3) := by decide +kernel
theorem dX12_isPainted_7 : decode cX12_isPainted 7 = .ok (.iload_n 1, 1) := by decide +kernel
theorem dX12_isPainted_8 : decode cX12_isPainted 8 = .ok (.iadd, 1) := by decide +kernel
theorem dX12_isPainted_9 : decode cX12_isPainted 9 = .ok (.iaload, 1) := by decide +kernel
theorem dX12_isPainted_10 : decode cX12_isPainted 10 = .ok (.ifCond .lt 7, 3) := by decide +kernel
theorem dX12_isPainted_13 : decode cX12_isPainted 13 = .ok (.iconst 1, 1) := by decide +kernel
theorem dX12_isPainted_14 : decode cX12_isPainted 14 = .ok (.goto 4, 3) := by decide +kernel
theorem dX12_isPainted_17 : decode cX12_isPainted 17 = .ok (.iconst 0, 1) := by decide +kernel
theorem dX12_isPainted_18 : decode cX12_isPainted 18 = .ok (.ireturn, 1) := by decide +kernel
set_option maxRecDepth 100000 in
set_option maxHeartbeats 4000000 in
theorem c_X12_isPainted {l : Launch} {D : q_D} (τ : q_T) (σ : q_V) (a0 : Nat) (x1 : Int32) (hI : q_I τ σ) (tA0 : τ a0 = some (10, 1)) (rA1 : q_r x1 0 63) : q_Cp l D yX12_isPainted cX12_isPainted 2 (some .boolean) 0 0 τ σ [.ref a0, .int x1] (fun r => (q_r r 0 1) ∧ (r.toInt = f_X12_isPainted (fx_N σ) a0 x1.toInt)) := by
  refine q_meti rfl (Nat.le_of_ble_eq_true rfl) (fun X hG hE => ?_)
  show q_O X 0 0 τ σ 0 [(0, .ref a0), (1, .int x1)] []
  obtain ⟨Fv, hF⟩ : ∃ z, fx_eq z (f_X12_isPainted (fx_N σ) a0 x1.toInt) := ⟨_, fx_rf⟩
  have hF0 := hF
  unfold f_X12_isPainted at hF
  refine q_aload_n (pc := 0) hG dX12_isPainted_0 0 rfl ?_
  refine q_getR (pc := 1) (k2 := 100) (n2 := 549) hG fl_X12_7 dX12_isPainted_1 hI tA0 ff_10_0 (fun b1 f1 T1 => ?_)
  replace hF := fx_R hF f1 rfl
  refine q_sipush (pc := 4) hG dX12_isPainted_4 ks_320 ?_
  refine q_iload_n (pc := 7) hG dX12_isPainted_7 1 rfl ?_
  refine q_iadd (pc := 8) hG dX12_isPainted_8 (fun v8 e8 => ?_)
  replace hF := fx_add hF tl_320 rfl (q_addN (lo := 320) (hi := 383) e8 rl_320 rA1 (by decide)).1
  have r_1 := (q_addN (lo := 320) (hi := 383) e8 rl_320 rA1 (by decide)).2
  refine q_nald (pc := 9) hG dX12_isPainted_9 hI T1 (q_ix r_1 (by decide)) (fun v9 f9 => ?_)
  replace hF := fx_I hF f9 rfl
  refine q_if_lt (pc := 10) hG 17 dX12_isPainted_10 rfl ?_ ?_
  · intro c10
    replace hF := fx_lt1 hF rfl rfl c10
    refine q_iconst (pc := 17) hG dX12_isPainted_17 ki_0 ?_
    exact q_zrt hG hE dX12_isPainted_18 (q_r.mono rl_0 (by decide)) ⟨rfl, (q_r.mono rl_0 (by decide)), (by rw [tl_0]; exact fx_end hF hF0)⟩
  intro c10
  replace hF := fx_lt2 hF rfl rfl c10
  refine q_iconst (pc := 13) hG dX12_isPainted_13 ki_1 ?_
  refine q_goto (pc := 14) 18 hG dX12_isPainted_14 rfl ?_
  exact q_zrt hG hE dX12_isPainted_18 (q_r.mono rl_1 (by decide)) ⟨rfl, (q_r.mono rl_1 (by decide)), (by rw [tl_1]; exact fx_end hF hF0)⟩
theorem dX12_bares_0 : decode cX12_bares 0 = .ok (.aload_n 0, 1) := by decide +kernel
theorem dX12_bares_1 : decode cX12_bares 1 = .ok (.getfield 7, 3) := by decide +kernel
theorem dX12_bares_4 : decode cX12_bares 4 = .ok (.sipush 256, 3) := by decide +kernel
theorem dX12_bares_7 : decode cX12_bares 7 = .ok (.iload_n 1, 1) := by decide +kernel
theorem dX12_bares_8 : decode cX12_bares 8 = .ok (.iadd, 1) := by decide +kernel
theorem dX12_bares_9 : decode cX12_bares 9 = .ok (.bipush (-100), 2) := by decide +kernel
theorem dX12_bares_11 : decode cX12_bares 11 = .ok (.iastore, 1) := by decide +kernel
theorem dX12_bares_12 : decode cX12_bares 12 = .ok (.aload_n 0, 1) := by decide +kernel
theorem dX12_bares_13 : decode cX12_bares 13 = .ok (.getfield 7, 3) := by decide +kernel
theorem dX12_bares_16 : decode cX12_bares 16 = .ok (.sipush 320, 3) := by decide +kernel
theorem dX12_bares_19 : decode cX12_bares 19 = .ok (.iload_n 1, 1) := by decide +kernel
theorem dX12_bares_20 : decode cX12_bares 20 = .ok (.iadd, 1) := by decide +kernel
theorem dX12_bares_21 : decode cX12_bares 21 = .ok (.bipush (-2), 2) := by decide +kernel
theorem dX12_bares_23 : decode cX12_bares 23 = .ok (.iastore, 1) := by decide +kernel
theorem dX12_bares_24 : decode cX12_bares 24 = .ok (.aload_n 0, 1) := by decide +kernel
theorem dX12_bares_25 : decode cX12_bares 25 = .ok (.getfield 7, 3) := by decide +kernel
theorem dX12_bares_28 : decode cX12_bares 28 = .ok (.sipush 448, 3) := by decide +kernel
theorem dX12_bares_31 : decode cX12_bares 31 = .ok (.iload_n 1, 1) := by decide +kernel
theorem dX12_bares_32 : decode cX12_bares 32 = .ok (.iadd, 1) := by decide +kernel
theorem dX12_bares_33 : decode cX12_bares 33 = .ok (.bipush (-2), 2) := by decide +kernel
theorem dX12_bares_35 : decode cX12_bares 35 = .ok (.iastore, 1) := by decide +kernel
theorem dX12_bares_36 : decode cX12_bares 36 = .ok (.return_, 1) := by decide +kernel
def md_X12_bares : List (Nat × Nat) := [(100, 0)]
set_option maxRecDepth 100000 in
set_option maxHeartbeats 4000000 in
theorem c_X12_bares {l : Launch} {D : q_D} (τ : q_T) (σ : q_V) (a0 : Nat) (x1 : Int32) (hI : q_I τ σ) (tA0 : τ a0 = some (10, 1)) (rA1 : q_r x1 0 63) : q_Cv l D yX12_bares cX12_bares 2 none 0 0 τ σ [.ref a0, .int x1] (fun σ1 => q_S md_X12_bares τ σ σ1 ∧ (fx_N σ1 = f_X12_bares (fx_N σ) a0 x1.toInt) ∧ (∀ bn : Nat, σ a0 0 = .ref bn → fx_kr σ σ1 bn)) := by
  refine q_metv rfl (Nat.le_of_ble_eq_true rfl) (fun X hG hE => ?_)
  show q_O X 0 0 τ σ 0 [(0, .ref a0), (1, .int x1)] []
  have hS0 : q_S md_X12_bares τ σ σ := q_S.rf hI
  obtain ⟨Fv, hF⟩ : ∃ z, fx_eq z (f_X12_bares (fx_N σ) a0 x1.toInt) := ⟨_, fx_rf⟩
  have hF0 := hF
  unfold f_X12_bares at hF
  obtain ⟨q_1b, q_1f, q_1T⟩ := (hI a0 10 1 tA0 0 (by decide)).ref (k := 100) (n := 549) rfl
  replace hF := fx_R hF q_1f rfl
  refine q_aload_n (pc := 0) hG dX12_bares_0 0 rfl ?_
  refine q_getV (pc := 1) (v := .ref q_1b) hG fl_X12_7 dX12_bares_1 tA0 q_1f ?_
  refine q_sipush (pc := 4) hG dX12_bares_4 ks_256 ?_
  refine q_iload_n (pc := 7) hG dX12_bares_7 1 rfl ?_
  refine q_iadd (pc := 8) hG dX12_bares_8 (fun v8 e8 => ?_)
  replace hF := fx_add hF tl_256 rfl (q_addN (lo := 256) (hi := 319) e8 rl_256 rA1 (by decide)).1
  refine q_bipush (pc := 9) hG dX12_bares_9 kb_m100 ?_
  have r_2 := (q_addN (lo := 256) (hi := 319) e8 rl_256 rA1 (by decide)).2
  refine q_nast (pc := 11) hG dX12_bares_11 hS0 q_1T (q_ix r_2 (by decide)) (q_nfree (by have q := r_2; unfold q_r at q; omega)) rl_m100 (by decide) rfl (fun s11 u11 w11 => ?_)
  replace hF := fx_P hF u11 rfl tl_m100
  have m11 : s11 q_1b v8.toInt.toNat = .int (-100) := by rw [u11]; exact q_up_same
  refine q_aload_n (pc := 12) hG dX12_bares_12 0 rfl ?_
  refine q_getV (pc := 13) (v := .ref q_1b) hG fl_X12_7 dX12_bares_13 tA0 (w11.same tA0 rfl q_1f) ?_
  refine q_sipush (pc := 16) hG dX12_bares_16 ks_320 ?_
  refine q_iload_n (pc := 19) hG dX12_bares_19 1 rfl ?_
  refine q_iadd (pc := 20) hG dX12_bares_20 (fun v20 e20 => ?_)
  replace hF := fx_add hF tl_320 rfl (q_addN (lo := 320) (hi := 383) e20 rl_320 rA1 (by decide)).1
  refine q_bipush (pc := 21) hG dX12_bares_21 kb_m2 ?_
  have r_3 := (q_addN (lo := 320) (hi := 383) e20 rl_320 rA1 (by decide)).2
  refine q_nast (pc := 23) hG dX12_bares_23 w11 q_1T (q_ix r_3 (by decide)) (q_nfree (by have q := r_3; unfold q_r at q; omega)) rl_m2 (by decide) rfl (fun s23 u23 w23 => ?_)
  replace hF := fx_P hF u23 rfl tl_m2
  have m23 : s23 q_1b v20.toInt.toNat = .int (-2) := by rw [u23]; exact q_up_same
  refine q_aload_n (pc := 24) hG dX12_bares_24 0 rfl ?_
  refine q_getV (pc := 25) (v := .ref q_1b) hG fl_X12_7 dX12_bares_25 tA0 (w23.same tA0 rfl q_1f) ?_
  refine q_sipush (pc := 28) hG dX12_bares_28 ks_448 ?_
  refine q_iload_n (pc := 31) hG dX12_bares_31 1 rfl ?_
  refine q_iadd (pc := 32) hG dX12_bares_32 (fun v32 e32 => ?_)
  replace hF := fx_add hF tl_448 rfl (q_addN (lo := 448) (hi := 511) e32 rl_448 rA1 (by decide)).1
  refine q_bipush (pc := 33) hG dX12_bares_33 kb_m2 ?_
  have r_4 := (q_addN (lo := 448) (hi := 511) e32 rl_448 rA1 (by decide)).2
  refine q_nast (pc := 35) hG dX12_bares_35 w23 q_1T (q_ix r_4 (by decide)) (q_nfree (by have q := r_4; unfold q_r at q; omega)) rl_m2 (by decide) rfl (fun s35 u35 w35 => ?_)
  replace hF := fx_P hF u35 rfl tl_m2
  have m35 : s35 q_1b v32.toInt.toNat = .int (-2) := by rw [u35]; exact q_up_same
  have kr_5 : fx_kr σ s35 q_1b := (fx_kr.P (fx_kr.P (fx_kr.P fx_kr.rf u11 r_2 (by decide)) u23 r_3 (by decide)) u35 r_4 (by decide))
  exact q_vrt hG hE dX12_bares_36 ⟨w35, (fx_end hF hF0), (fun bn hbn => by cases hbn.symm.trans q_1f; exact kr_5)⟩
theorem dX12_road_0 : decode cX12_road 0 = .ok (.iload_n 1, 1) := by decide +kernel
theorem dX12_road_1 : decode cX12_road 1 = .ok (.bipush 8, 2) := by decide +kernel
theorem dX12_road_3 : decode cX12_road 3 = .ok (.bipush 64, 2) := by decide +kernel
theorem dX12_road_5 : decode cX12_road 5 = .ok (.invokestatic 102, 3) := by decide +kernel
theorem dX12_road_8 : decode cX12_road 8 = .ok (.ifCond .ne 5, 3) := by decide +kernel
theorem dX12_road_11 : decode cX12_road 11 = .ok (.iconst 0, 1) := by decide +kernel
theorem dX12_road_12 : decode cX12_road 12 = .ok (.ireturn, 1) := by decide +kernel
theorem dX12_road_13 : decode cX12_road 13 = .ok (.aload_n 0, 1) := by decide +kernel
theorem dX12_road_14 : decode cX12_road 14 = .ok (.getfield 7, 3) := by decide +kernel
theorem dX12_road_17 : decode cX12_road 17 = .ok (.sipush 512, 3) := by decide +kernel
theorem dX12_road_20 : decode cX12_road 20 = .ok (.iload_n 1, 1) := by decide +kernel
theorem dX12_road_21 : decode cX12_road 21 = .ok (.iastore, 1) := by decide +kernel
theorem dX12_road_22 : decode cX12_road 22 = .ok (.iconst 0, 1) := by decide +kernel
theorem dX12_road_23 : decode cX12_road 23 = .ok (.istore_n 2, 1) := by decide +kernel
theorem dX12_road_24 : decode cX12_road 24 = .ok (.iload_n 2, 1) := by decide +kernel
theorem dX12_road_25 : decode cX12_road 25 = .ok (.bipush 64, 2) := by decide +kernel
theorem dX12_road_27 : decode cX12_road 27 = .ok (.if_icmp .ge 56, 3) := by decide +kernel
theorem dX12_road_30 : decode cX12_road 30 = .ok (.aload_n 0, 1) := by decide +kernel
theorem dX12_road_31 : decode cX12_road 31 = .ok (.getfield 7, 3) := by decide +kernel
theorem dX12_road_34 : decode cX12_road 34 = .ok (.iconst 0, 1) := by decide +kernel
theorem dX12_road_35 : decode cX12_road 35 = .ok (.iload_n 2, 1) := by decide +kernel
theorem dX12_road_36 : decode cX12_road 36 = .ok (.iadd, 1) := by decide +kernel
theorem dX12_road_37 : decode cX12_road 37 = .ok (.iconst 0, 1) := by decide +kernel
theorem dX12_road_38 : decode cX12_road 38 = .ok (.iastore, 1) := by decide +kernel
theorem dX12_road_39 : decode cX12_road 39 = .ok (.aload_n 0, 1) := by decide +kernel
theorem dX12_road_40 : decode cX12_road 40 = .ok (.getfield 7, 3) := by decide +kernel
theorem dX12_road_43 : decode cX12_road 43 = .ok (.bipush 64, 2) := by decide +kernel
theorem dX12_road_45 : decode cX12_road 45 = .ok (.iload_n 2, 1) := by decide +kernel
theorem dX12_road_46 : decode cX12_road 46 = .ok (.iadd, 1) := by decide +kernel
theorem dX12_road_47 : decode cX12_road 47 = .ok (.iconst 0, 1) := by decide +kernel
theorem dX12_road_48 : decode cX12_road 48 = .ok (.iastore, 1) := by decide +kernel
theorem dX12_road_49 : decode cX12_road 49 = .ok (.aload_n 0, 1) := by decide +kernel
theorem dX12_road_50 : decode cX12_road 50 = .ok (.getfield 7, 3) := by decide +kernel
theorem dX12_road_53 : decode cX12_road 53 = .ok (.sipush 128, 3) := by decide +kernel
theorem dX12_road_56 : decode cX12_road 56 = .ok (.iload_n 2, 1) := by decide +kernel
theorem dX12_road_57 : decode cX12_road 57 = .ok (.iadd, 1) := by decide +kernel
theorem dX12_road_58 : decode cX12_road 58 = .ok (.iconst 0, 1) := by decide +kernel
theorem dX12_road_59 : decode cX12_road 59 = .ok (.iastore, 1) := by decide +kernel
theorem dX12_road_60 : decode cX12_road 60 = .ok (.aload_n 0, 1) := by decide +kernel
theorem dX12_road_61 : decode cX12_road 61 = .ok (.getfield 7, 3) := by decide +kernel
theorem dX12_road_64 : decode cX12_road 64 = .ok (.sipush 192, 3) := by decide +kernel
theorem dX12_road_67 : decode cX12_road 67 = .ok (.iload_n 2, 1) := by decide +kernel
theorem dX12_road_68 : decode cX12_road 68 = .ok (.iadd, 1) := by decide +kernel
theorem dX12_road_69 : decode cX12_road 69 = .ok (.bipush (-100), 2) := by decide +kernel
theorem dX12_road_71 : decode cX12_road 71 = .ok (.iastore, 1) := by decide +kernel
theorem dX12_road_72 : decode cX12_road 72 = .ok (.aload_n 0, 1) := by decide +kernel
theorem dX12_road_73 : decode cX12_road 73 = .ok (.iload_n 2, 1) := by decide +kernel
theorem dX12_road_74 : decode cX12_road 74 = .ok (.invokevirtual 106, 3) := by decide +kernel
theorem dX12_road_77 : decode cX12_road 77 = .ok (.iinc 2 1, 3) := by decide +kernel
theorem dX12_road_80 : decode cX12_road 80 = .ok (.goto (-56), 3) := by decide +kernel
theorem dX12_road_83 : decode cX12_road 83 = .ok (.iconst 0, 1) := by decide +kernel
theorem dX12_road_84 : decode cX12_road 84 = .ok (.istore_n 2, 1) := by decide +kernel
theorem dX12_road_85 : decode cX12_road 85 = .ok (.iload_n 2, 1) := by decide +kernel
theorem dX12_road_86 : decode cX12_road 86 = .ok (.iconst 2, 1) := by decide +kernel
theorem dX12_road_87 : decode cX12_road 87 = .ok (.if_icmp .ge 32, 3) := by decide +kernel
theorem dX12_road_90 : decode cX12_road 90 = .ok (.aload_n 0, 1) := by decide +kernel
theorem dX12_road_91 : decode cX12_road 91 = .ok (.getfield 7, 3) := by decide +kernel
theorem dX12_road_94 : decode cX12_road 94 = .ok (.sipush 516, 3) := by decide +kernel
theorem dX12_road_97 : decode cX12_road 97 = .ok (.iload_n 2, 1) := by decide +kernel
theorem dX12_road_98 : decode cX12_road 98 = .ok (.iadd, 1) := by decide +kernel
theorem dX12_road_99 : decode cX12_road 99 = .ok (.iconst 0, 1) := by decide +kernel
theorem dX12_road_100 : decode cX12_road 100 = .ok (.iastore, 1) := by decide +kernel
theorem dX12_road_101 : decode cX12_road 101 = .ok (.aload_n 0, 1) := by decide +kernel
theorem dX12_road_102 : decode cX12_road 102 = .ok (.getfield 7, 3) := by decide +kernel
theorem dX12_road_105 : decode cX12_road 105 = .ok (.sipush 520, 3) := by decide +kernel
theorem dX12_road_108 : decode cX12_road 108 = .ok (.iload_n 2, 1) := by decide +kernel
theorem dX12_road_109 : decode cX12_road 109 = .ok (.iadd, 1) := by decide +kernel
theorem dX12_road_110 : decode cX12_road 110 = .ok (.bipush (-2), 2) := by decide +kernel
theorem dX12_road_112 : decode cX12_road 112 = .ok (.iastore, 1) := by decide +kernel
theorem dX12_road_113 : decode cX12_road 113 = .ok (.iinc 2 1, 3) := by decide +kernel
theorem dX12_road_116 : decode cX12_road 116 = .ok (.goto (-31), 3) := by decide +kernel
theorem dX12_road_119 : decode cX12_road 119 = .ok (.iconst 1, 1) := by decide +kernel
theorem dX12_road_120 : decode cX12_road 120 = .ok (.ireturn, 1) := by decide +kernel
def md_X12_road : List (Nat × Nat) := [(100, 0)]
set_option maxRecDepth 100000 in
set_option maxHeartbeats 4000000 in
theorem c_X12_road {l : Launch} {D : q_D} (τ : q_T) (σ : q_V) (a0 : Nat) (x1 : Int32) (hI : q_I τ σ) (tA0 : τ a0 = some (10, 1)) : q_Ci l D yX12_road cX12_road 3 (some .boolean) 1 22 τ σ [.ref a0, .int x1] (fun r σ1 => q_S md_X12_road τ σ σ1 ∧ (q_r r 0 1) ∧ ((r.toInt, fx_N σ1) = f_X12_road (fx_N σ) a0 x1.toInt) ∧ (r.toInt = 1 ↔ (8 ≤ x1.toInt ∧ x1.toInt ≤ 64)) ∧ (∀ bn : Nat, σ a0 0 = .ref bn → (r.toInt = 1 → σ1 bn (512 : Int32).toInt.toNat = .int x1) ∧ (r.toInt = 0 → σ1 bn (512 : Int32).toInt.toNat = σ bn (512 : Int32).toInt.toNat)) ∧ (∀ bn : Nat, σ a0 0 = .ref bn → (r.toInt = 1 → zz_qz σ1 bn 64) ∧ (r.toInt = 0 → fx_kr σ σ1 bn))) := by
  refine q_meti rfl (Nat.le_of_ble_eq_true rfl) (fun X hG hE => ?_)
  show q_O X 0 0 τ σ 0 [(0, .ref a0), (1, .int x1)] []
  have hS0 : q_S md_X12_road τ σ σ := q_S.rf hI
  obtain ⟨Fv, hF⟩ : ∃ z, fx_eq z (f_X12_road (fx_N σ) a0 x1.toInt) := ⟨_, fx_rf⟩
  have hF0 := hF
  unfold f_X12_road at hF
  obtain ⟨q_1b, q_1f, q_1T⟩ := (hI a0 10 1 tA0 0 (by decide)).ref (k := 100) (n := 549) rfl
  replace hF := fx_R hF q_1f rfl
  refine q_iload_n (pc := 0) hG dX12_road_0 1 rfl ?_
  refine q_bipush (pc := 1) hG dX12_road_1 kb_8 ?_
  refine q_bipush (pc := 3) hG dX12_road_3 kb_64 ?_
  refine q_pS (pc := 5) [.int x1, .int 8, .int 64] [] hG (c_X12_in τ σ x1 8 64 hI) my_X12_in w778 w777 dX12_road_5 rfl rfl (Nat.le_of_ble_eq_true rfl) (by decide) (fun v5 p5 => ?_)
  have fq5 := p5.2.1
  rewrite [tl_8, tl_64] at fq5
  replace hF := fx_E hF fq5
  refine q_if_ne (pc := 8) hG 13 dX12_road_8 rfl ?_ ?_
  · intro c8
    have g_2 := p5.2.2.mp (q_one p5.1 c8)
    have r_3 := q_rge (q_r_any x1) rl_8 g_2.1
    replace hF := fx_eq2 hF rfl rfl c8
    refine q_aload_n (pc := 13) hG dX12_road_13 0 rfl ?_
    refine q_getV (pc := 14) (v := .ref q_1b) hG fl_X12_7 dX12_road_14 tA0 q_1f ?_
    refine q_sipush (pc := 17) hG dX12_road_17 ks_512 ?_
    refine q_iload_n (pc := 20) hG dX12_road_20 1 rfl ?_
    have r_4 := q_rle r_3 rl_64 g_2.2
    refine q_nast (pc := 21) hG dX12_road_21 hS0 q_1T (q_ix rl_512 (by decide)) rfl r_4 (by decide) rfl (fun s21 u21 w21 => ?_)
    replace hF := fx_P hF u21 (congrArg Int.toNat tl_512) rfl
    have m21 : s21 q_1b (512 : Int32).toInt.toNat = .int x1 := by rw [u21]; exact q_up_same
    refine q_iconst (pc := 22) hG dX12_road_22 ki_0 ?_
    refine q_istore_n (pc := 23) [(2, .int 0), (0, .ref a0), (1, .int x1)] hG dX12_road_23 (by decide) rfl ?_
    have J24 : ∀ (n24 : Nat) (p24_2 : Int32) (σ24 : q_V), (q_r p24_2 0 64) → (q_S md_X12_road τ σ σ24) → (σ24 q_1b (512 : Int32).toInt.toNat = .int x1) → (zz_qz σ24 q_1b p24_2.toInt) → (fx_eq Fv (kL_X12_road_24 q_1b a0 n24 p24_2.toInt (fx_N σ24))) → ((64 - p24_2.toInt).toNat < n24) → q_O X 0 0 τ σ24 24 [(0, .ref a0), (2, .int p24_2)] [] := by
      intro n24
      induction n24 with
      | zero => intro p24_2 σ24 r24_2 hS24 i5_24 iQZ24 hF hm24; exact absurd hm24 (Nat.not_lt_zero _)
      | succ n24 ih24 =>
        intro p24_2 σ24 r24_2 hS24 i5_24 iQZ24 hF hm24
        replace hF := (show fx_eq Fv (kB_X12_road_24 (kL_X12_road_24 q_1b a0 n24) q_1b a0 p24_2.toInt (fx_N σ24)) from hF)
        unfold kB_X12_road_24 at hF
        refine q_iload_n (pc := 24) hG dX12_road_24 1 rfl ?_
        refine q_bipush (pc := 25) hG dX12_road_25 kb_64 ?_
        refine q_icmp_ge (pc := 27) hG 83 dX12_road_27 rfl ?_ ?_
        · intro c27
          replace hF := fx_lt2 hF rfl tl_64 c27
          refine q_iconst (pc := 83) hG dX12_road_83 ki_0 ?_
          refine q_istore_n (pc := 84) [(2, .int 0), (0, .ref a0)] hG dX12_road_84 (by decide) rfl ?_
          have J85 : ∀ (n85 : Nat) (p85_2 : Int32) (σ85 : q_V), (q_r p85_2 0 2) → (q_S md_X12_road τ σ σ85) → (σ85 q_1b (512 : Int32).toInt.toNat = .int x1) → (zz_qz σ85 q_1b 64) → (fx_eq Fv (kL_X12_road_85 q_1b n85 p85_2.toInt (fx_N σ85))) → ((2 - p85_2.toInt).toNat < n85) → q_O X 0 0 τ σ85 85 [(0, .ref a0), (2, .int p85_2)] [] := by
            intro n85
            induction n85 with
            | zero => intro p85_2 σ85 r85_2 hS85 i5_85 iQZ85 hF hm85; exact absurd hm85 (Nat.not_lt_zero _)
            | succ n85 ih85 =>
              intro p85_2 σ85 r85_2 hS85 i5_85 iQZ85 hF hm85
              replace hF := (show fx_eq Fv (kB_X12_road_85 (kL_X12_road_85 q_1b n85) q_1b p85_2.toInt (fx_N σ85)) from hF)
              unfold kB_X12_road_85 at hF
              refine q_iload_n (pc := 85) hG dX12_road_85 1 rfl ?_
              refine q_iconst (pc := 86) hG dX12_road_86 ki_2 ?_
              refine q_icmp_ge (pc := 87) hG 119 dX12_road_87 rfl ?_ ?_
              · intro c87
                replace hF := fx_lt2 hF rfl tl_2 c87
                refine q_iconst (pc := 119) hG dX12_road_119 ki_1 ?_
                have r_5 := q_neL (c := 1) p5.1 c8 (by decide)
                exact q_zrt hG hE dX12_road_120 (q_r.mono rl_1 (by decide)) ⟨hS85, (q_r.mono rl_1 (by decide)), (by rw [tl_1]; exact fx_end hF hF0), (by have o0 := c8; have o1 := g_2.1; have o2 := g_2.2; have o3 := r_5; have o4 := r_4; have l5 := tl_1; have l6 := tl_8; have l7 := tl_64; have o8 := p5.2.2; unfold q_r at o3 o4; omega), (fun bn hbn => by cases hbn.symm.trans q_1f; exact ⟨fun _ => i5_85, fun q => absurd q (by have l0 := tl_1; omega)⟩), (fun bn hbn => by cases hbn.symm.trans q_1f; exact ⟨fun _ => iQZ85, fun q => absurd q (by have l0 := tl_1; omega)⟩)⟩
              intro c87
              replace hF := fx_lt1 hF rfl tl_2 c87
              refine q_aload_n (pc := 90) hG dX12_road_90 0 rfl ?_
              refine q_getV (pc := 91) (v := .ref q_1b) hG fl_X12_7 dX12_road_91 tA0 (hS85.same tA0 rfl q_1f) ?_
              refine q_sipush (pc := 94) hG dX12_road_94 ks_516 ?_
              refine q_iload_n (pc := 97) hG dX12_road_97 1 rfl ?_
              refine q_iadd (pc := 98) hG dX12_road_98 (fun v98 e98 => ?_)
              have r_6 := q_rlt r85_2 rl_2 c87 1 (by decide)
              replace hF := fx_add hF tl_516 rfl (q_addN (lo := 516) (hi := 517) e98 rl_516 r_6 (by decide)).1
              refine q_iconst (pc := 99) hG dX12_road_99 ki_0 ?_
              have r_7 := (q_addN (lo := 516) (hi := 517) e98 rl_516 r_6 (by decide)).2
              refine q_nast (pc := 100) hG dX12_road_100 hS85 q_1T (q_ix r_7 (by decide)) (q_nfree (by have q := r_7; unfold q_r at q; omega)) rl_0 (by decide) rfl (fun s100 u100 w100 => ?_)
              replace hF := fx_P hF u100 rfl tl_0
              have m100 : s100 q_1b v98.toInt.toNat = .int 0 := by rw [u100]; exact q_up_same
              refine q_aload_n (pc := 101) hG dX12_road_101 0 rfl ?_
              refine q_getV (pc := 102) (v := .ref q_1b) hG fl_X12_7 dX12_road_102 tA0 (w100.same tA0 rfl q_1f) ?_
              refine q_sipush (pc := 105) hG dX12_road_105 ks_520 ?_
              refine q_iload_n (pc := 108) hG dX12_road_108 1 rfl ?_
              refine q_iadd (pc := 109) hG dX12_road_109 (fun v109 e109 => ?_)
              replace hF := fx_add hF tl_520 rfl (q_addN (lo := 520) (hi := 521) e109 rl_520 r_6 (by decide)).1
              refine q_bipush (pc := 110) hG dX12_road_110 kb_m2 ?_
              have r_8 := (q_addN (lo := 520) (hi := 521) e109 rl_520 r_6 (by decide)).2
              refine q_nast3 (pc := 112) hG dX12_road_112 w100 q_1T (q_ix r_8 (by decide)) (q_npaint r_8 (by decide)) rl_m2 (by decide) (by have l0 := tl_m2; omega) rfl (fun s112 u112 w112 => ?_)
              replace hF := fx_P hF u112 rfl tl_m2
              have m112 : s112 q_1b v109.toInt.toNat = .int (-2) := by rw [u112]; exact q_up_same
              obtain ⟨v113, e113⟩ : ∃ z : Int32, z = p85_2 + Int32.ofInt 1 := ⟨_, rfl⟩
              have h113 := q_incN (lo := 1) (hi := 2) r_6 (by decide) (by decide) e113
              replace hF := fx_add hF rfl rfl h113.1
              refine q_iinc (pc := 113) [(2, .int v113), (0, .ref a0)] hG dX12_road_113 1 rfl e113 (by decide) rfl ?_
              refine q_goto (pc := 116) 85 hG dX12_road_116 rfl ?_
              refine q_lv [1, 0] rfl ?_
              exact ih85 v113 s112 (q_r.mono h113.2 (by decide)) w112 (by rw [u112]; exact (q_up_slot (q_n512 r_8 (by decide))).trans (by rw [u100]; exact (q_up_slot (q_n512 r_7 (by decide))).trans i5_85)) (zz_qz.kr (zz_qz.kr iQZ85 (by decide) (fx_kr.P fx_kr.rf u100 r_7 (by decide))) (by decide) (fx_kr.P fx_kr.rf u112 r_8 (by decide))) hF (q_measU hm85 (by have o0 := c87; have o1 := (q_addN (lo := 516) (hi := 517) e98 rl_516 r_6 (by decide)).1; have o2 := (q_addN (lo := 520) (hi := 521) e109 rl_520 r_6 (by decide)).1; have o3 := h113.1; have o4 := r_6; have o5 := r_8; have o6 := h113.2; have o7 := r_7; have l8 := tl_2; have l9 := tl_516; have l10 := tl_520; unfold q_r at o4 o5 o6 o7; omega) (h113.2).2)
          refine q_lv [1, 0] rfl ?_
          have r_9 := q_rge r24_2 rl_64 c27
          exact J85 ((2 - (0 : Int32).toInt).toNat + 1) 0 σ24 (q_r.mono rl_0 (by decide)) hS24 i5_24 (zz_qz.le iQZ24 (by have o0 := c27; have o1 := r_9; have l2 := tl_64; unfold q_r at o1; omega)) (by rw [tl_0]; exact hF) (Nat.lt_succ_self _)
        intro c27
        replace hF := fx_lt1 hF rfl tl_64 c27
        refine q_aload_n (pc := 30) hG dX12_road_30 0 rfl ?_
        refine q_getV (pc := 31) (v := .ref q_1b) hG fl_X12_7 dX12_road_31 tA0 (hS24.same tA0 rfl q_1f) ?_
        refine q_iconst (pc := 34) hG dX12_road_34 ki_0 ?_
        refine q_iload_n (pc := 35) hG dX12_road_35 1 rfl ?_
        refine q_iadd (pc := 36) hG dX12_road_36 (fun v36 e36 => ?_)
        have r_10 := q_rlt r24_2 rl_64 c27 63 (by decide)
        replace hF := fx_add hF tl_0 rfl (q_addN (lo := 0) (hi := 63) e36 rl_0 r_10 (by decide)).1
        refine q_iconst (pc := 37) hG dX12_road_37 ki_0 ?_
        have r_11 := (q_addN (lo := 0) (hi := 63) e36 rl_0 r_10 (by decide)).2
        refine q_nast (pc := 38) hG dX12_road_38 hS24 q_1T (q_ix r_11 (by decide)) (q_nkerb r_11 (by decide)) rl_0 (by decide) rfl (fun s38 u38 w38 => ?_)
        replace hF := fx_P hF u38 rfl tl_0
        have m38 : s38 q_1b v36.toInt.toNat = .int 0 := by rw [u38]; exact q_up_same
        refine q_aload_n (pc := 39) hG dX12_road_39 0 rfl ?_
        refine q_getV (pc := 40) (v := .ref q_1b) hG fl_X12_7 dX12_road_40 tA0 (w38.same tA0 rfl q_1f) ?_
        refine q_bipush (pc := 43) hG dX12_road_43 kb_64 ?_
        refine q_iload_n (pc := 45) hG dX12_road_45 1 rfl ?_
        refine q_iadd (pc := 46) hG dX12_road_46 (fun v46 e46 => ?_)
        replace hF := fx_add hF tl_64 rfl (q_addN (lo := 64) (hi := 127) e46 rl_64 r_10 (by decide)).1
        refine q_iconst (pc := 47) hG dX12_road_47 ki_0 ?_
        have r_12 := (q_addN (lo := 64) (hi := 127) e46 rl_64 r_10 (by decide)).2
        refine q_nast (pc := 48) hG dX12_road_48 w38 q_1T (q_ix r_12 (by decide)) (q_nfree (by have q := r_12; unfold q_r at q; omega)) rl_0 (by decide) rfl (fun s48 u48 w48 => ?_)
        replace hF := fx_P hF u48 rfl tl_0
        have m48 : s48 q_1b v46.toInt.toNat = .int 0 := by rw [u48]; exact q_up_same
        refine q_aload_n (pc := 49) hG dX12_road_49 0 rfl ?_
        refine q_getV (pc := 50) (v := .ref q_1b) hG fl_X12_7 dX12_road_50 tA0 (w48.same tA0 rfl q_1f) ?_
        refine q_sipush (pc := 53) hG dX12_road_53 ks_128 ?_
        refine q_iload_n (pc := 56) hG dX12_road_56 1 rfl ?_
        refine q_iadd (pc := 57) hG dX12_road_57 (fun v57 e57 => ?_)
        replace hF := fx_add hF tl_128 rfl (q_addN (lo := 128) (hi := 191) e57 rl_128 r_10 (by decide)).1
        refine q_iconst (pc := 58) hG dX12_road_58 ki_0 ?_
        have r_13 := (q_addN (lo := 128) (hi := 191) e57 rl_128 r_10 (by decide)).2
        refine q_nast (pc := 59) hG dX12_road_59 w48 q_1T (q_ix r_13 (by decide)) (q_nfree (by have q := r_13; unfold q_r at q; omega)) rl_0 (by decide) rfl (fun s59 u59 w59 => ?_)
        replace hF := fx_P hF u59 rfl tl_0
        have m59 : s59 q_1b v57.toInt.toNat = .int 0 := by rw [u59]; exact q_up_same
        refine q_aload_n (pc := 60) hG dX12_road_60 0 rfl ?_
        refine q_getV (pc := 61) (v := .ref q_1b) hG fl_X12_7 dX12_road_61 tA0 (w59.same tA0 rfl q_1f) ?_
        refine q_sipush (pc := 64) hG dX12_road_64 ks_192 ?_
        refine q_iload_n (pc := 67) hG dX12_road_67 1 rfl ?_
        refine q_iadd (pc := 68) hG dX12_road_68 (fun v68 e68 => ?_)
        replace hF := fx_add hF tl_192 rfl (q_addN (lo := 192) (hi := 255) e68 rl_192 r_10 (by decide)).1
        refine q_bipush (pc := 69) hG dX12_road_69 kb_m100 ?_
        have r_14 := (q_addN (lo := 192) (hi := 255) e68 rl_192 r_10 (by decide)).2
        refine q_nast (pc := 71) hG dX12_road_71 w59 q_1T (q_ix r_14 (by decide)) (q_nfree (by have q := r_14; unfold q_r at q; omega)) rl_m100 (by decide) rfl (fun s71 u71 w71 => ?_)
        replace hF := fx_P hF u71 rfl tl_m100
        have m71 : s71 q_1b v68.toInt.toNat = .int (-100) := by rw [u71]; exact q_up_same
        refine q_aload_n (pc := 72) hG dX12_road_72 0 rfl ?_
        refine q_iload_n (pc := 73) hG dX12_road_73 1 rfl ?_
        refine q_cVv (pc := 74) [.int p24_2] [] hG (c_X12_bares τ s71 a0 p24_2 w71.1 tA0 r_10) my_X12_bares mv_X12_bares w780 dX12_road_74 tA0 (by decide) rfl rfl (Nat.le_of_ble_eq_true rfl) (by decide) (fun s74 p74 => ?_)
        have w74 := w71.trans p74.1 rfl
        replace hF := fx_S hF p74.2.1
        obtain ⟨v77, e77⟩ : ∃ z : Int32, z = p24_2 + Int32.ofInt 1 := ⟨_, rfl⟩
        have h77 := q_incN (lo := 1) (hi := 64) r_10 (by decide) (by decide) e77
        replace hF := fx_add hF rfl rfl h77.1
        refine q_iinc (pc := 77) [(2, .int v77), (0, .ref a0)] hG dX12_road_77 1 rfl e77 (by decide) rfl ?_
        refine q_goto (pc := 80) 24 hG dX12_road_80 rfl ?_
        refine q_lv [1, 0] rfl ?_
        exact ih24 v77 s74 (q_r.mono h77.2 (by decide)) w74 (((p74.2.2 q_1b (w71.same tA0 rfl q_1f)) _ (Or.inr (by decide))).trans (by rw [u71]; exact (q_up_slot (q_n512 r_14 (by decide))).trans (by rw [u59]; exact (q_up_slot (q_n512 r_13 (by decide))).trans (by rw [u48]; exact (q_up_slot (q_n512 r_12 (by decide))).trans (by rw [u38]; exact (q_up_slot (q_n512 r_11 (by decide))).trans i5_24))))) (zz_qz.le (zz_qz.kr (zz_qz.kr (zz_qz.it iQZ24 r_10 u38 u48 u59 (by have o0 := c27; have o1 := (q_addN (lo := 0) (hi := 63) e36 rl_0 r_10 (by decide)).1; have o2 := (q_addN (lo := 64) (hi := 127) e46 rl_64 r_10 (by decide)).1; have o3 := (q_addN (lo := 128) (hi := 191) e57 rl_128 r_10 (by decide)).1; have o4 := (q_addN (lo := 192) (hi := 255) e68 rl_192 r_10 (by decide)).1; have o5 := h77.1; have o6 := r_10; have o7 := r_11; have o8 := r_12; have o9 := r_13; have o10 := r_14; have o11 := h77.2; have l12 := tl_0; have l13 := tl_64; have l14 := tl_128; have l15 := tl_192; unfold q_r at o6 o7 o8 o9 o10 o11; omega) (by have o0 := c27; have o1 := (q_addN (lo := 0) (hi := 63) e36 rl_0 r_10 (by decide)).1; have o2 := (q_addN (lo := 64) (hi := 127) e46 rl_64 r_10 (by decide)).1; have o3 := (q_addN (lo := 128) (hi := 191) e57 rl_128 r_10 (by decide)).1; have o4 := (q_addN (lo := 192) (hi := 255) e68 rl_192 r_10 (by decide)).1; have o5 := h77.1; have o6 := r_10; have o7 := r_11; have o8 := r_12; have o9 := r_13; have o10 := r_14; have o11 := h77.2; have l12 := tl_0; have l13 := tl_64; have l14 := tl_128; have l15 := tl_192; unfold q_r at o6 o7 o8 o9 o10 o11; omega) (by have o0 := c27; have o1 := (q_addN (lo := 0) (hi := 63) e36 rl_0 r_10 (by decide)).1; have o2 := (q_addN (lo := 64) (hi := 127) e46 rl_64 r_10 (by decide)).1; have o3 := (q_addN (lo := 128) (hi := 191) e57 rl_128 r_10 (by decide)).1; have o4 := (q_addN (lo := 192) (hi := 255) e68 rl_192 r_10 (by decide)).1; have o5 := h77.1; have o6 := r_10; have o7 := r_11; have o8 := r_12; have o9 := r_13; have o10 := r_14; have o11 := h77.2; have l12 := tl_0; have l13 := tl_64; have l14 := tl_128; have l15 := tl_192; unfold q_r at o6 o7 o8 o9 o10 o11; omega)) (by have o0 := c27; have o1 := (q_addN (lo := 0) (hi := 63) e36 rl_0 r_10 (by decide)).1; have o2 := (q_addN (lo := 64) (hi := 127) e46 rl_64 r_10 (by decide)).1; have o3 := (q_addN (lo := 128) (hi := 191) e57 rl_128 r_10 (by decide)).1; have o4 := (q_addN (lo := 192) (hi := 255) e68 rl_192 r_10 (by decide)).1; have o5 := h77.1; have o6 := r_10; have o7 := r_11; have o8 := r_12; have o9 := r_13; have o10 := r_14; have o11 := h77.2; have l12 := tl_0; have l13 := tl_64; have l14 := tl_128; have l15 := tl_192; unfold q_r at o6 o7 o8 o9 o10 o11; omega) (fx_kr.P fx_kr.rf u71 r_14 (by decide))) (by have o0 := c27; have o1 := (q_addN (lo := 0) (hi := 63) e36 rl_0 r_10 (by decide)).1; have o2 := (q_addN (lo := 64) (hi := 127) e46 rl_64 r_10 (by decide)).1; have o3 := (q_addN (lo := 128) (hi := 191) e57 rl_128 r_10 (by decide)).1; have o4 := (q_addN (lo := 192) (hi := 255) e68 rl_192 r_10 (by decide)).1; have o5 := h77.1; have o6 := r_10; have o7 := r_11; have o8 := r_12; have o9 := r_13; have o10 := r_14; have o11 := h77.2; have l12 := tl_0; have l13 := tl_64; have l14 := tl_128; have l15 := tl_192; unfold q_r at o6 o7 o8 o9 o10 o11; omega) (p74.2.2 q_1b (w71.same tA0 rfl q_1f))) (by have o0 := c27; have o1 := (q_addN (lo := 0) (hi := 63) e36 rl_0 r_10 (by decide)).1; have o2 := (q_addN (lo := 64) (hi := 127) e46 rl_64 r_10 (by decide)).1; have o3 := (q_addN (lo := 128) (hi := 191) e57 rl_128 r_10 (by decide)).1; have o4 := (q_addN (lo := 192) (hi := 255) e68 rl_192 r_10 (by decide)).1; have o5 := h77.1; have o6 := r_10; have o7 := r_11; have o8 := r_12; have o9 := r_13; have o10 := r_14; have o11 := h77.2; have l12 := tl_0; have l13 := tl_64; have l14 := tl_128; have l15 := tl_192; unfold q_r at o6 o7 o8 o9 o10 o11; omega)) hF (q_measU hm24 (by have o0 := c27; have o1 := (q_addN (lo := 0) (hi := 63) e36 rl_0 r_10 (by decide)).1; have o2 := (q_addN (lo := 64) (hi := 127) e46 rl_64 r_10 (by decide)).1; have o3 := (q_addN (lo := 128) (hi := 191) e57 rl_128 r_10 (by decide)).1; have o4 := (q_addN (lo := 192) (hi := 255) e68 rl_192 r_10 (by decide)).1; have o5 := h77.1; have o6 := r_10; have o7 := r_11; have o8 := r_12; have o9 := r_13; have o10 := r_14; have o11 := h77.2; have l12 := tl_0; have l13 := tl_64; have l14 := tl_128; have l15 := tl_192; unfold q_r at o6 o7 o8 o9 o10 o11; omega) (h77.2).2)
    refine q_lv [1, 0] rfl ?_
    exact J24 ((64 - (0 : Int32).toInt).toNat + 1) 0 s21 (q_r.mono rl_0 (by decide)) w21 m21 (fun j hj => absurd hj (by have q := tl_0; omega)) (by rw [tl_0]; exact hF) (Nat.lt_succ_self _)
  intro c8
  replace hF := fx_eq1 hF rfl rfl c8
  refine q_iconst (pc := 11) hG dX12_road_11 ki_0 ?_
  have r_15 := q_zeq c8
  exact q_zrt hG hE dX12_road_12 (q_r.mono rl_0 (by decide)) ⟨hS0, (q_r.mono rl_0 (by decide)), (by rw [tl_0]; exact fx_end hF hF0), (by have o0 := c8; have o1 := r_15; have l2 := tl_0; have l3 := tl_8; have l4 := tl_64; have o5 := p5.2.2; unfold q_r at o1; omega), (fun bn hbn => by cases hbn.symm.trans q_1f; exact ⟨fun q => absurd q (by have l0 := tl_0; omega), fun _ => rfl⟩), (fun bn hbn => by cases hbn.symm.trans q_1f; exact ⟨fun q => absurd q (by have l0 := tl_0; omega), fun _ => fx_kr.rf⟩)⟩
theorem dX12_old_0 : decode cX12_old 0 = .ok (.aload_n 0, 1) := by decide +kernel
theorem dX12_old_1 : decode cX12_old 1 = .ok (.iload_n 1, 1) := by decide +kernel
theorem dX12_old_2 : decode cX12_old 2 = .ok (.invokevirtual 110, 3) := by decide +kernel
theorem dX12_old_5 : decode cX12_old 5 = .ok (.ifCond .eq 27, 3) := by decide +kernel
theorem dX12_old_8 : decode cX12_old 8 = .ok (.aload_n 0, 1) := by decide +kernel
theorem dX12_old_9 : decode cX12_old 9 = .ok (.iload_n 2, 1) := by decide +kernel
theorem dX12_old_10 : decode cX12_old 10 = .ok (.invokevirtual 110, 3) := by decide +kernel
theorem dX12_old_13 : decode cX12_old 13 = .ok (.ifCond .eq 19, 3) := by decide +kernel
theorem dX12_old_16 : decode cX12_old 16 = .ok (.iload_n 1, 1) := by decide +kernel
theorem dX12_old_17 : decode cX12_old 17 = .ok (.iload_n 2, 1) := by decide +kernel
theorem dX12_old_18 : decode cX12_old 18 = .ok (.if_icmp .gt 14, 3) := by decide +kernel
theorem dX12_old_21 : decode cX12_old 21 = .ok (.iload_n 3, 1) := by decide +kernel
theorem dX12_old_22 : decode cX12_old 22 = .ok (.bipush (-100), 2) := by decide +kernel
theorem dX12_old_24 : decode cX12_old 24 = .ok (.bipush 99, 2) := by decide +kernel
theorem dX12_old_26 : decode cX12_old 26 = .ok (.invokestatic 102, 3) := by decide +kernel
theorem dX12_old_29 : decode cX12_old 29 = .ok (.ifCond .ne 5, 3) := by decide +kernel
theorem dX12_old_32 : decode cX12_old 32 = .ok (.iconst 0, 1) := by decide +kernel
theorem dX12_old_33 : decode cX12_old 33 = .ok (.ireturn, 1) := by decide +kernel
theorem dX12_old_34 : decode cX12_old 34 = .ok (.iload_n 1, 1) := by decide +kernel
theorem dX12_old_35 : decode cX12_old 35 = .ok (.istore 4, 2) := by decide +kernel
theorem dX12_old_37 : decode cX12_old 37 = .ok (.iload 4, 2) := by decide +kernel
theorem dX12_old_39 : decode cX12_old 39 = .ok (.iload_n 2, 1) := by decide +kernel
theorem dX12_old_40 : decode cX12_old 40 = .ok (.if_icmp .gt 21, 3) := by decide +kernel
theorem dX12_old_43 : decode cX12_old 43 = .ok (.aload_n 0, 1) := by decide +kernel
theorem dX12_old_44 : decode cX12_old 44 = .ok (.getfield 7, 3) := by decide +kernel
theorem dX12_old_47 : decode cX12_old 47 = .ok (.sipush 192, 3) := by decide +kernel
theorem dX12_old_50 : decode cX12_old 50 = .ok (.iload 4, 2) := by decide +kernel
theorem dX12_old_52 : decode cX12_old 52 = .ok (.iadd, 1) := by decide +kernel
theorem dX12_old_53 : decode cX12_old 53 = .ok (.iload_n 3, 1) := by decide +kernel
theorem dX12_old_54 : decode cX12_old 54 = .ok (.iastore, 1) := by decide +kernel
theorem dX12_old_55 : decode cX12_old 55 = .ok (.iinc 4 1, 3) := by decide +kernel
theorem dX12_old_58 : decode cX12_old 58 = .ok (.goto (-21), 3) := by decide +kernel
theorem dX12_old_61 : decode cX12_old 61 = .ok (.iconst 1, 1) := by decide +kernel
theorem dX12_old_62 : decode cX12_old 62 = .ok (.ireturn, 1) := by decide +kernel
def md_X12_old : List (Nat × Nat) := [(100, 0)]
set_option maxRecDepth 100000 in
set_option maxHeartbeats 4000000 in
theorem c_X12_old {l : Launch} {D : q_D} (τ : q_T) (σ : q_V) (a0 : Nat) (x1 : Int32) (x2 : Int32) (x3 : Int32) (hI : q_I τ σ) (tA0 : τ a0 = some (10, 1)) : q_Ci l D yX12_old cX12_old 5 (some .boolean) 1 22 τ σ [.ref a0, .int x1, .int x2, .int x3] (fun r σ1 => q_S md_X12_old τ σ σ1 ∧ (q_r r 0 1) ∧ ((r.toInt, fx_N σ1) = f_X12_old (fx_N σ) a0 x1.toInt x2.toInt x3.toInt) ∧ (∀ bn : Nat, σ a0 0 = .ref bn → fx_kr σ σ1 bn) ∧ (∀ (bn : Nat) (d : Int32), σ a0 0 = .ref bn → σ bn (512 : Int32).toInt.toNat = .int d → (r.toInt = 1 ↔ (((0 ≤ x1.toInt ∧ x1.toInt < d.toInt) ∧ (0 ≤ x2.toInt ∧ x2.toInt < d.toInt) ∧ x1.toInt ≤ x2.toInt) ∧ (-100 ≤ x3.toInt ∧ x3.toInt ≤ 99))))) := by
  refine q_meti rfl (Nat.le_of_ble_eq_true rfl) (fun X hG hE => ?_)
  show q_O X 0 0 τ σ 0 [(0, .ref a0), (1, .int x1), (2, .int x2), (3, .int x3)] []
  have hS0 : q_S md_X12_old τ σ σ := q_S.rf hI
  obtain ⟨Fv, hF⟩ : ∃ z, fx_eq z (f_X12_old (fx_N σ) a0 x1.toInt x2.toInt x3.toInt) := ⟨_, fx_rf⟩
  have hF0 := hF
  unfold f_X12_old at hF
  obtain ⟨q_1b, q_1f, q_1T⟩ := (hI a0 10 1 tA0 0 (by decide)).ref (k := 100) (n := 549) rfl
  replace hF := fx_R hF q_1f rfl
  obtain ⟨q_2v, q_2f, q_2r⟩ := (hI q_1b 100 549 q_1T 512 (by decide)).int (lo := 8) (hi := 64) rfl
  have q_2g : σ q_1b (512 : Int32).toInt.toNat = .int q_2v := q_2f
  replace hF := fx_I hF q_2g (congrArg Int.toNat tl_512)
  refine q_aload_n (pc := 0) hG dX12_old_0 0 rfl ?_
  refine q_iload_n (pc := 1) hG dX12_old_1 1 rfl ?_
  refine q_pV (pc := 2) [.int x1] [] hG (c_X12_isDot τ σ a0 x1 hI tA0) my_X12_isDot mv_X12_isDot w836 dX12_old_2 tA0 (by decide) rfl rfl (Nat.le_of_ble_eq_true rfl) (by decide) (fun v2 p2 => ?_)
  replace hF := fx_E hF p2.2.1
  refine q_if_eq (pc := 5) hG 32 dX12_old_5 rfl ?_ ?_
  · intro c5
    replace hF := fx_eq1 hF rfl rfl c5
    refine q_iconst (pc := 32) hG dX12_old_32 ki_0 ?_
    have r_3 := q_zeq c5
    exact q_zrt hG hE dX12_old_33 (q_r.mono rl_0 (by decide)) ⟨hS0, (q_r.mono rl_0 (by decide)), (by rw [tl_0]; exact fx_end hF hF0), (fun bn hbn => by cases hbn.symm.trans q_1f; exact fx_kr.rf), (fun bn d e1 e2 => by cases e1.symm.trans q_1f; cases e2.symm.trans q_2g; exact (by have o0 := (p2.2.2.2 q_1b q_2v q_1f q_2g); have o1 := c5; have o2 := q_2r; have o3 := r_3; have l4 := tl_m100; have l5 := tl_0; have l6 := tl_99; unfold q_r at o2 o3; omega))⟩
  intro c5
  have g_4 := p2.2.2.1 (q_one p2.1 c5)
  have r_5 := q_rge (q_r_any x1) rl_0 (show (0 : Int32).toInt ≤ _ from g_4.1)
  have r_6 := q_rle r_5 rl_63 (show _ ≤ (63 : Int32).toInt from g_4.2.1)
  replace hF := fx_eq2 hF rfl rfl c5
  refine q_aload_n (pc := 8) hG dX12_old_8 0 rfl ?_
  refine q_iload_n (pc := 9) hG dX12_old_9 2 rfl ?_
  refine q_pV (pc := 10) [.int x2] [] hG (c_X12_isDot τ σ a0 x2 hI tA0) my_X12_isDot mv_X12_isDot w836 dX12_old_10 tA0 (by decide) rfl rfl (Nat.le_of_ble_eq_true rfl) (by decide) (fun v10 p10 => ?_)
  replace hF := fx_E hF p10.2.1
  refine q_if_eq (pc := 13) hG 32 dX12_old_13 rfl ?_ ?_
  · intro c13
    replace hF := fx_eq1 hF rfl rfl c13
    refine q_iconst (pc := 32) hG dX12_old_32 ki_0 ?_
    have r_7 := q_zeq c13
    have r_8 := q_neL (c := 1) p2.1 c5 (by decide)
    exact q_zrt hG hE dX12_old_33 (q_r.mono rl_0 (by decide)) ⟨hS0, (q_r.mono rl_0 (by decide)), (by rw [tl_0]; exact fx_end hF hF0), (fun bn hbn => by cases hbn.symm.trans q_1f; exact fx_kr.rf), (fun bn d e1 e2 => by cases e1.symm.trans q_1f; cases e2.symm.trans q_2g; exact (by have o0 := (p2.2.2.2 q_1b q_2v q_1f q_2g); have o1 := c5; have o2 := (show (0 : Int32).toInt ≤ _ from g_4.1); have o3 := (show _ ≤ (63 : Int32).toInt from g_4.2.1); have o4 := (g_4.2.2 q_1b q_2v q_1f (show σ q_1b 512 = _ from q_2g)); have o5 := (p10.2.2.2 q_1b q_2v q_1f q_2g); have o6 := c13; have o7 := q_2r; have o8 := r_7; have o9 := r_8; have o10 := r_6; have l11 := tl_m100; have l12 := tl_0; have l13 := tl_63; have l14 := tl_99; unfold q_r at o7 o8 o9 o10; omega))⟩
  intro c13
  have g_9 := p10.2.2.1 (q_one p10.1 c13)
  have r_10 := q_rge (q_r_any x2) rl_0 (show (0 : Int32).toInt ≤ _ from g_9.1)
  have r_11 := q_rle r_10 rl_63 (show _ ≤ (63 : Int32).toInt from g_9.2.1)
  replace hF := fx_eq2 hF rfl rfl c13
  refine q_iload_n (pc := 16) hG dX12_old_16 1 rfl ?_
  refine q_iload_n (pc := 17) hG dX12_old_17 2 rfl ?_
  refine q_icmp_gt (pc := 18) hG 32 dX12_old_18 rfl ?_ ?_
  · intro c18
    replace hF := fx_lt1 hF rfl rfl c18
    refine q_iconst (pc := 32) hG dX12_old_32 ki_0 ?_
    have r_12 := q_neL (c := 1) p10.1 c13 (by decide)
    have r_13 := q_neL (c := 1) p2.1 c5 (by decide)
    have r_14 := q_rgt r_6 r_11 c18 1 (by decide)
    have r_15 := q_rlt r_11 r_6 c18 62 (by decide)
    exact q_zrt hG hE dX12_old_33 (q_r.mono rl_0 (by decide)) ⟨hS0, (q_r.mono rl_0 (by decide)), (by rw [tl_0]; exact fx_end hF hF0), (fun bn hbn => by cases hbn.symm.trans q_1f; exact fx_kr.rf), (fun bn d e1 e2 => by cases e1.symm.trans q_1f; cases e2.symm.trans q_2g; exact (by have o0 := (p2.2.2.2 q_1b q_2v q_1f q_2g); have o1 := c5; have o2 := (show (0 : Int32).toInt ≤ _ from g_4.1); have o3 := (show _ ≤ (63 : Int32).toInt from g_4.2.1); have o4 := (g_4.2.2 q_1b q_2v q_1f (show σ q_1b 512 = _ from q_2g)); have o5 := (p10.2.2.2 q_1b q_2v q_1f q_2g); have o6 := c13; have o7 := (show (0 : Int32).toInt ≤ _ from g_9.1); have o8 := (show _ ≤ (63 : Int32).toInt from g_9.2.1); have o9 := (g_9.2.2 q_1b q_2v q_1f (show σ q_1b 512 = _ from q_2g)); have o10 := c18; have o11 := q_2r; have o12 := r_12; have o13 := r_13; have o14 := r_14; have o15 := r_15; have l16 := tl_m100; have l17 := tl_0; have l18 := tl_63; have l19 := tl_99; unfold q_r at o11 o12 o13 o14 o15; omega))⟩
  intro c18
  replace hF := fx_lt2 hF rfl rfl c18
  refine q_iload_n (pc := 21) hG dX12_old_21 3 rfl ?_
  refine q_bipush (pc := 22) hG dX12_old_22 kb_m100 ?_
  refine q_bipush (pc := 24) hG dX12_old_24 kb_99 ?_
  refine q_pS (pc := 26) [.int x3, .int (-100), .int 99] [] hG (c_X12_in τ σ x3 (-100) 99 hI) my_X12_in w778 w777 dX12_old_26 rfl rfl (Nat.le_of_ble_eq_true rfl) (by decide) (fun v26 p26 => ?_)
  have fq26 := p26.2.1
  rewrite [tl_m100, tl_99] at fq26
  replace hF := fx_E hF fq26
  refine q_if_ne (pc := 29) hG 34 dX12_old_29 rfl ?_ ?_
  · intro c29
    have g_16 := p26.2.2.mp (q_one p26.1 c29)
    have r_17 := q_rge (q_r_any x3) rl_m100 g_16.1
    replace hF := fx_eq2 hF rfl rfl c29
    refine q_iload_n (pc := 34) hG dX12_old_34 1 rfl ?_
    refine q_istore (pc := 35) [(4, .int x1), (0, .ref a0), (1, .int x1), (2, .int x2), (3, .int x3)] hG dX12_old_35 (by decide) rfl ?_
    have J37 : ∀ (n37 : Nat) (p37_4 : Int32) (σ37 : q_V), (q_r p37_4 0 64) → (q_S md_X12_old τ σ σ37) → (fx_kr σ σ37 q_1b) → (fx_eq Fv (kL_X12_old_37 x2.toInt q_1b x3.toInt n37 p37_4.toInt (fx_N σ37))) → ((64 - p37_4.toInt).toNat < n37) → q_O X 0 0 τ σ37 37 [(0, .ref a0), (2, .int x2), (3, .int x3), (4, .int p37_4)] [] := by
      intro n37
      induction n37 with
      | zero => intro p37_4 σ37 r37_4 hS37 iKR37 hF hm37; exact absurd hm37 (Nat.not_lt_zero _)
      | succ n37 ih37 =>
        intro p37_4 σ37 r37_4 hS37 iKR37 hF hm37
        replace hF := (show fx_eq Fv (kB_X12_old_37 (kL_X12_old_37 x2.toInt q_1b x3.toInt n37) x2.toInt q_1b x3.toInt p37_4.toInt (fx_N σ37)) from hF)
        unfold kB_X12_old_37 at hF
        refine q_iload (pc := 37) hG dX12_old_37 3 rfl ?_
        refine q_iload_n (pc := 39) hG dX12_old_39 1 rfl ?_
        refine q_icmp_gt (pc := 40) hG 61 dX12_old_40 rfl ?_ ?_
        · intro c40
          replace hF := fx_lt1 hF rfl rfl c40
          refine q_iconst (pc := 61) hG dX12_old_61 ki_1 ?_
          have r_18 := q_rgt r37_4 r_11 c40 1 (by decide)
          have r_19 := q_neL (c := 1) p10.1 c13 (by decide)
          have r_20 := q_neL (c := 1) p2.1 c5 (by decide)
          have r_21 := q_neL (c := 1) p26.1 c29 (by decide)
          have r_22 := q_rle r_17 rl_99 g_16.2
          exact q_zrt hG hE dX12_old_62 (q_r.mono rl_1 (by decide)) ⟨hS37, (q_r.mono rl_1 (by decide)), (by rw [tl_1]; exact fx_end hF hF0), (fun bn hbn => by cases hbn.symm.trans q_1f; exact iKR37), (fun bn d e1 e2 => by cases e1.symm.trans q_1f; cases e2.symm.trans q_2g; exact (by have o0 := (p2.2.2.2 q_1b q_2v q_1f q_2g); have o1 := c5; have o2 := (show (0 : Int32).toInt ≤ _ from g_4.1); have o3 := (show _ ≤ (63 : Int32).toInt from g_4.2.1); have o4 := (g_4.2.2 q_1b q_2v q_1f (show σ q_1b 512 = _ from q_2g)); have o5 := (p10.2.2.2 q_1b q_2v q_1f q_2g); have o6 := c13; have o7 := (show (0 : Int32).toInt ≤ _ from g_9.1); have o8 := (show _ ≤ (63 : Int32).toInt from g_9.2.1); have o9 := (g_9.2.2 q_1b q_2v q_1f (show σ q_1b 512 = _ from q_2g)); have o10 := c18; have o11 := p26.2.2; have o12 := c29; have o13 := g_16.1; have o14 := g_16.2; have o15 := c40; have o16 := r_18; have o17 := q_2r; have o18 := r_19; have o19 := r_20; have o20 := r_21; have o21 := r_6; have o22 := r_11; have o23 := r_22; have l24 := tl_m100; have l25 := tl_0; have l26 := tl_1; have l27 := tl_63; have l28 := tl_99; unfold q_r at o16 o17 o18 o19 o20 o21 o22 o23; omega))⟩
        intro c40
        replace hF := fx_lt2 hF rfl rfl c40
        refine q_aload_n (pc := 43) hG dX12_old_43 0 rfl ?_
        refine q_getV (pc := 44) (v := .ref q_1b) hG fl_X12_7 dX12_old_44 tA0 (hS37.same tA0 rfl q_1f) ?_
        refine q_sipush (pc := 47) hG dX12_old_47 ks_192 ?_
        refine q_iload (pc := 50) hG dX12_old_50 3 rfl ?_
        refine q_iadd (pc := 52) hG dX12_old_52 (fun v52 e52 => ?_)
        have r_23 := q_rle r37_4 r_11 c40
        replace hF := fx_add hF tl_192 rfl (q_addN (lo := 192) (hi := 255) e52 rl_192 r_23 (by decide)).1
        refine q_iload_n (pc := 53) hG dX12_old_53 2 rfl ?_
        have r_24 := (q_addN (lo := 192) (hi := 255) e52 rl_192 r_23 (by decide)).2
        have r_25 := q_rle r_17 rl_99 g_16.2
        refine q_nast (pc := 54) hG dX12_old_54 hS37 q_1T (q_ix r_24 (by decide)) (q_nfree (by have q := r_24; unfold q_r at q; omega)) r_25 (by decide) rfl (fun s54 u54 w54 => ?_)
        replace hF := fx_P hF u54 rfl rfl
        have m54 : s54 q_1b v52.toInt.toNat = .int x3 := by rw [u54]; exact q_up_same
        obtain ⟨v55, e55⟩ : ∃ z : Int32, z = p37_4 + Int32.ofInt 1 := ⟨_, rfl⟩
        have h55 := q_incN (lo := 1) (hi := 64) r_23 (by decide) (by decide) e55
        replace hF := fx_add hF rfl rfl h55.1
        refine q_iinc (pc := 55) [(4, .int v55), (0, .ref a0), (2, .int x2), (3, .int x3)] hG dX12_old_55 3 rfl e55 (by decide) rfl ?_
        refine q_goto (pc := 58) 37 hG dX12_old_58 rfl ?_
        refine q_lv [1, 2, 3, 0] rfl ?_
        have kr_26 : fx_kr σ s54 q_1b := (fx_kr.P iKR37 u54 r_24 (by decide))
        have r_27 := q_neL (c := 1) p10.1 c13 (by decide)
        have r_28 := q_neL (c := 1) p2.1 c5 (by decide)
        exact ih37 v55 s54 (q_r.mono h55.2 (by decide)) w54 kr_26 hF (q_measU hm37 (by have o0 := c40; have o1 := (q_addN (lo := 192) (hi := 255) e52 rl_192 r_23 (by decide)).1; have o2 := h55.1; have o3 := (p10.2.2.2 q_1b q_2v q_1f q_2g); have o4 := c13; have o5 := (show (0 : Int32).toInt ≤ _ from g_9.1); have o6 := (show _ ≤ (63 : Int32).toInt from g_9.2.1); have o7 := (g_9.2.2 q_1b q_2v q_1f (show σ q_1b 512 = _ from q_2g)); have o8 := c18; have o9 := (p2.2.2.2 q_1b q_2v q_1f q_2g); have o10 := c5; have o11 := (show (0 : Int32).toInt ≤ _ from g_4.1); have o12 := (show _ ≤ (63 : Int32).toInt from g_4.2.1); have o13 := (g_4.2.2 q_1b q_2v q_1f (show σ q_1b 512 = _ from q_2g)); have o14 := r_23; have o15 := q_2r; have o16 := r_27; have o17 := r_28; have o18 := r_24; have o19 := h55.2; have o20 := r_6; have o21 := r_11; have l22 := tl_0; have l23 := tl_63; have l24 := tl_192; unfold q_r at o14 o15 o16 o17 o18 o19 o20 o21; omega) (h55.2).2)
    refine q_lv [1, 3, 4, 0] rfl ?_
    exact J37 ((64 - x1.toInt).toNat + 1) x1 σ (q_r.mono r_6 (by decide)) hS0 fx_kr.rf hF (Nat.lt_succ_self _)
  intro c29
  replace hF := fx_eq1 hF rfl rfl c29
  refine q_iconst (pc := 32) hG dX12_old_32 ki_0 ?_
  have r_29 := q_neL (c := 1) p10.1 c13 (by decide)
  have r_30 := q_neL (c := 1) p2.1 c5 (by decide)
  have r_31 := q_zeq c29
  exact q_zrt hG hE dX12_old_33 (q_r.mono rl_0 (by decide)) ⟨hS0, (q_r.mono rl_0 (by decide)), (by rw [tl_0]; exact fx_end hF hF0), (fun bn hbn => by cases hbn.symm.trans q_1f; exact fx_kr.rf), (fun bn d e1 e2 => by cases e1.symm.trans q_1f; cases e2.symm.trans q_2g; exact (by have o0 := (p2.2.2.2 q_1b q_2v q_1f q_2g); have o1 := c5; have o2 := (show (0 : Int32).toInt ≤ _ from g_4.1); have o3 := (show _ ≤ (63 : Int32).toInt from g_4.2.1); have o4 := (g_4.2.2 q_1b q_2v q_1f (show σ q_1b 512 = _ from q_2g)); have o5 := (p10.2.2.2 q_1b q_2v q_1f q_2g); have o6 := c13; have o7 := (show (0 : Int32).toInt ≤ _ from g_9.1); have o8 := (show _ ≤ (63 : Int32).toInt from g_9.2.1); have o9 := (g_9.2.2 q_1b q_2v q_1f (show σ q_1b 512 = _ from q_2g)); have o10 := c18; have o11 := p26.2.2; have o12 := c29; have o13 := q_2r; have o14 := r_29; have o15 := r_30; have o16 := r_31; have o17 := r_6; have o18 := r_11; have l19 := tl_m100; have l20 := tl_0; have l21 := tl_63; have l22 := tl_99; unfold q_r at o13 o14 o15 o16 o17 o18; omega))⟩
theorem dX12_leaves_0 : decode cX12_leaves 0 = .ok (.aload_n 0, 1) := by decide +kernel
theorem dX12_leaves_1 : decode cX12_leaves 1 = .ok (.getfield 7, 3) := by decide +kernel
theorem dX12_leaves_4 : decode cX12_leaves 4 = .ok (.sipush 520, 3) := by decide +kernel
theorem dX12_leaves_7 : decode cX12_leaves 7 = .ok (.iload_n 1, 1) := by decide +kernel
theorem dX12_leaves_8 : decode cX12_leaves 8 = .ok (.iadd, 1) := by decide +kernel
theorem dX12_leaves_9 : decode cX12_leaves 9 = .ok (.iaload, 1) := by decide +kernel
theorem dX12_leaves_10 : decode cX12_leaves 10 = .ok (.bipush (-2), 2) := by decide +kernel
theorem dX12_leaves_12 : decode cX12_leaves 12 = .ok (.if_icmp .eq 24, 3) := by decide +kernel
theorem dX12_leaves_15 : decode cX12_leaves 15 = .ok (.aload_n 0, 1) := by decide +kernel
theorem dX12_leaves_16 : decode cX12_leaves 16 = .ok (.getfield 7, 3) := by decide +kernel
theorem dX12_leaves_19 : decode cX12_leaves 19 = .ok (.sipush 448, 3) := by decide +kernel
theorem dX12_leaves_22 : decode cX12_leaves 22 = .ok (.aload_n 0, 1) := by decide +kernel
theorem dX12_leaves_23 : decode cX12_leaves 23 = .ok (.getfield 7, 3) := by decide +kernel
theorem dX12_leaves_26 : decode cX12_leaves 26 = .ok (.sipush 520, 3) := by decide +kernel
theorem dX12_leaves_29 : decode cX12_leaves 29 = .ok (.iload_n 1, 1) := by decide +kernel
theorem dX12_leaves_30 : decode cX12_leaves 30 = .ok (.iadd, 1) := by decide +kernel
theorem dX12_leaves_31 : decode cX12_leaves 31 = .ok (.iaload, 1) := by decide +kernel
theorem dX12_leaves_32 : decode cX12_leaves 32 = .ok (.iadd, 1) := by decide +kernel
theorem dX12_leaves_33 : decode cX12_leaves 33 = .ok (.bipush (-2), 2) := by decide +kernel
theorem dX12_leaves_35 : decode cX12_leaves 35 = .ok (.iastore, 1) := by decide +kernel
theorem dX12_leaves_36 : decode cX12_leaves 36 = .ok (.aload_n 0, 1) := by decide +kernel
theorem dX12_leaves_37 : decode cX12_leaves 37 = .ok (.getfield 7, 3) := by decide +kernel
theorem dX12_leaves_40 : decode cX12_leaves 40 = .ok (.sipush 520, 3) := by decide +kernel
theorem dX12_leaves_43 : decode cX12_leaves 43 = .ok (.iload_n 1, 1) := by decide +kernel
theorem dX12_leaves_44 : decode cX12_leaves 44 = .ok (.iadd, 1) := by decide +kernel
theorem dX12_leaves_45 : decode cX12_leaves 45 = .ok (.bipush (-2), 2) := by decide +kernel
theorem dX12_leaves_47 : decode cX12_leaves 47 = .ok (.iastore, 1) := by decide +kernel
theorem dX12_leaves_48 : decode cX12_leaves 48 = .ok (.return_, 1) := by decide +kernel
def md_X12_leaves : List (Nat × Nat) := [(100, 0)]
set_option maxRecDepth 100000 in
set_option maxHeartbeats 4000000 in
theorem c_X12_leaves {l : Launch} {D : q_D} (τ : q_T) (σ : q_V) (a0 : Nat) (x1 : Int32) (hI : q_I τ σ) (tA0 : τ a0 = some (10, 1)) (rA1 : q_r x1 0 1) : q_Cv l D yX12_leaves cX12_leaves 2 none 0 0 τ σ [.ref a0, .int x1] (fun σ1 => q_S md_X12_leaves τ σ σ1 ∧ (fx_N σ1 = f_X12_leaves (fx_N σ) a0 x1.toInt) ∧ (∀ bn : Nat, σ a0 0 = .ref bn → fx_kr σ σ1 bn)) := by
  refine q_metv rfl (Nat.le_of_ble_eq_true rfl) (fun X hG hE => ?_)
  show q_O X 0 0 τ σ 0 [(0, .ref a0), (1, .int x1)] []
  have hS0 : q_S md_X12_leaves τ σ σ := q_S.rf hI
  obtain ⟨Fv, hF⟩ : ∃ z, fx_eq z (f_X12_leaves (fx_N σ) a0 x1.toInt) := ⟨_, fx_rf⟩
  have hF0 := hF
  unfold f_X12_leaves at hF
  obtain ⟨q_1b, q_1f, q_1T⟩ := (hI a0 10 1 tA0 0 (by decide)).ref (k := 100) (n := 549) rfl
  replace hF := fx_R hF q_1f rfl
  refine q_aload_n (pc := 0) hG dX12_leaves_0 0 rfl ?_
  refine q_getV (pc := 1) (v := .ref q_1b) hG fl_X12_7 dX12_leaves_1 tA0 q_1f ?_
  refine q_sipush (pc := 4) hG dX12_leaves_4 ks_520 ?_
  refine q_iload_n (pc := 7) hG dX12_leaves_7 1 rfl ?_
  refine q_iadd (pc := 8) hG dX12_leaves_8 (fun v8 e8 => ?_)
  replace hF := fx_add hF tl_520 rfl (q_addN (lo := 520) (hi := 521) e8 rl_520 rA1 (by decide)).1
  have r_2 := (q_addN (lo := 520) (hi := 521) e8 rl_520 rA1 (by decide)).2
  refine q_nald3 (pc := 9) (a1 := -2) (a2 := 63) hG dX12_leaves_9 hI q_1T (q_ix r_2 (by decide)) (q_npaint r_2 (by decide)) (fun v9 f9 g9 n9 => ?_)
  replace hF := fx_I hF f9 rfl
  refine q_bipush (pc := 10) hG dX12_leaves_10 kb_m2 ?_
  have J36 : ∀ (σ36 : q_V), (q_S md_X12_leaves τ σ σ36) → (fx_kr σ σ36 q_1b) → (fx_eq Fv (kJ_X12_leaves_36 q_1b v8.toInt (fx_N σ36))) → q_O X 0 0 τ σ36 36 [(0, .ref a0), (1, .int x1)] [] := by
    intro σ36 hS36 iKR36 hF
    unfold kJ_X12_leaves_36 at hF
    refine q_aload_n (pc := 36) hG dX12_leaves_36 0 rfl ?_
    refine q_getV (pc := 37) (v := .ref q_1b) hG fl_X12_7 dX12_leaves_37 tA0 (hS36.same tA0 rfl q_1f) ?_
    refine q_sipush (pc := 40) hG dX12_leaves_40 ks_520 ?_
    refine q_iload_n (pc := 43) hG dX12_leaves_43 1 rfl ?_
    refine q_iadd (pc := 44) hG dX12_leaves_44 (fun v44 e44 => ?_)
    rw [e44.trans e8.symm]
    refine q_bipush (pc := 45) hG dX12_leaves_45 kb_m2 ?_
    refine q_nast3 (pc := 47) hG dX12_leaves_47 hS36 q_1T (q_ix r_2 (by decide)) (q_npaint r_2 (by decide)) rl_m2 (by decide) (by have l0 := tl_m2; omega) rfl (fun s47 u47 w47 => ?_)
    replace hF := fx_P hF u47 rfl tl_m2
    have m47 : s47 q_1b v8.toInt.toNat = .int (-2) := by rw [u47]; exact q_up_same
    have kr_3 : fx_kr σ s47 q_1b := (fx_kr.P iKR36 u47 r_2 (by decide))
    exact q_vrt hG hE dX12_leaves_48 ⟨w47, (fx_end hF hF0), (fun bn hbn => by cases hbn.symm.trans q_1f; exact kr_3)⟩
  refine q_icmp_eq (pc := 12) hG 36 dX12_leaves_12 rfl ?_ ?_
  · intro c12
    replace hF := fx_eq1 hF rfl tl_m2 c12
    refine q_lv [0, 1] rfl ?_
    exact J36 σ hS0 fx_kr.rf hF
  intro c12
  replace hF := fx_eq2 hF rfl tl_m2 c12
  refine q_aload_n (pc := 15) hG dX12_leaves_15 0 rfl ?_
  refine q_getV (pc := 16) (v := .ref q_1b) hG fl_X12_7 dX12_leaves_16 tA0 q_1f ?_
  refine q_sipush (pc := 19) hG dX12_leaves_19 ks_448 ?_
  refine q_aload_n (pc := 22) hG dX12_leaves_22 0 rfl ?_
  refine q_getV (pc := 23) (v := .ref q_1b) hG fl_X12_7 dX12_leaves_23 tA0 q_1f ?_
  refine q_sipush (pc := 26) hG dX12_leaves_26 ks_520 ?_
  refine q_iload_n (pc := 29) hG dX12_leaves_29 1 rfl ?_
  refine q_iadd (pc := 30) hG dX12_leaves_30 (fun v30 e30 => ?_)
  rw [e30.trans e8.symm]
  refine q_ialdV (pc := 31) (v := .int v9) hG dX12_leaves_31 q_1T (by decide) (by decide) (q_ix r_2 (by decide)) f9 ?_
  refine q_iadd (pc := 32) hG dX12_leaves_32 (fun v32 e32 => ?_)
  have r_4 := q_neL (c := (-1)) g9 (q_nel c12 tl_m2) (by decide)
  replace hF := fx_add hF tl_448 rfl (q_addN (lo := 447) (hi := 511) e32 rl_448 r_4 (by decide)).1
  refine q_bipush (pc := 33) hG dX12_leaves_33 kb_m2 ?_
  have r_5 := (q_addN (lo := 447) (hi := 511) e32 rl_448 r_4 (by decide)).2
  refine q_nast (pc := 35) hG dX12_leaves_35 hS0 q_1T (q_ix r_5 (by decide)) (q_nfree (by have q := r_5; unfold q_r at q; omega)) rl_m2 (by decide) rfl (fun s35 u35 w35 => ?_)
  replace hF := fx_P hF u35 rfl tl_m2
  have m35 : s35 q_1b v32.toInt.toNat = .int (-2) := by rw [u35]; exact q_up_same
  refine q_lv [0, 1] rfl ?_
  have kr_6 : fx_kr σ s35 q_1b := (fx_kr.P fx_kr.rf u35 r_5 (by decide))
  exact J36 s35 w35 kr_6 hF
theorem dX12_party_0 : decode cX12_party 0 = .ok (.iload_n 1, 1) := by decide +kernel
theorem dX12_party_1 : decode cX12_party 1 = .ok (.iconst 0, 1) := by decide +kernel
theorem dX12_party_2 : decode cX12_party 2 = .ok (.iconst 1, 1) := by decide +kernel
theorem dX12_party_3 : decode cX12_party 3 = .ok (.invokestatic 102, 3) := by decide +kernel
theorem dX12_party_6 : decode cX12_party 6 = .ok (.ifCond .eq 14, 3) := by decide +kernel
theorem dX12_party_9 : decode cX12_party 9 = .ok (.iload_n 3, 1) := by decide +kernel
theorem dX12_party_10 : decode cX12_party 10 = .ok (.bipush (-20), 2) := by decide +kernel
theorem dX12_party_12 : decode cX12_party 12 = .ok (.bipush 20, 2) := by decide +kernel
theorem dX12_party_14 : decode cX12_party 14 = .ok (.invokestatic 102, 3) := by decide +kernel
theorem dX12_party_17 : decode cX12_party 17 = .ok (.ifCond .ne 5, 3) := by decide +kernel
theorem dX12_party_20 : decode cX12_party 20 = .ok (.iconst 0, 1) := by decide +kernel
theorem dX12_party_21 : decode cX12_party 21 = .ok (.ireturn, 1) := by decide +kernel
theorem dX12_party_22 : decode cX12_party 22 = .ok (.aload_n 0, 1) := by decide +kernel
theorem dX12_party_23 : decode cX12_party 23 = .ok (.getfield 7, 3) := by decide +kernel
theorem dX12_party_26 : decode cX12_party 26 = .ok (.sipush 516, 3) := by decide +kernel
theorem dX12_party_29 : decode cX12_party 29 = .ok (.iload_n 1, 1) := by decide +kernel
theorem dX12_party_30 : decode cX12_party 30 = .ok (.iadd, 1) := by decide +kernel
theorem dX12_party_31 : decode cX12_party 31 = .ok (.iload_n 2, 1) := by decide +kernel
theorem dX12_party_32 : decode cX12_party 32 = .ok (.ifCond .eq 7, 3) := by decide +kernel
theorem dX12_party_35 : decode cX12_party 35 = .ok (.iconst 1, 1) := by decide +kernel
theorem dX12_party_36 : decode cX12_party 36 = .ok (.goto 4, 3) := by decide +kernel
theorem dX12_party_39 : decode cX12_party 39 = .ok (.iconst 0, 1) := by decide +kernel
theorem dX12_party_40 : decode cX12_party 40 = .ok (.iastore, 1) := by decide +kernel
theorem dX12_party_41 : decode cX12_party 41 = .ok (.aload_n 0, 1) := by decide +kernel
theorem dX12_party_42 : decode cX12_party 42 = .ok (.getfield 7, 3) := by decide +kernel
theorem dX12_party_45 : decode cX12_party 45 = .ok (.sipush 518, 3) := by decide +kernel
theorem dX12_party_48 : decode cX12_party 48 = .ok (.iload_n 1, 1) := by decide +kernel
theorem dX12_party_49 : decode cX12_party 49 = .ok (.iadd, 1) := by decide +kernel
theorem dX12_party_50 : decode cX12_party 50 = .ok (.iload_n 3, 1) := by decide +kernel
theorem dX12_party_51 : decode cX12_party 51 = .ok (.iastore, 1) := by decide +kernel
theorem dX12_party_52 : decode cX12_party 52 = .ok (.iload_n 2, 1) := by decide +kernel
theorem dX12_party_53 : decode cX12_party 53 = .ok (.ifCond .ne 8, 3) := by decide +kernel
theorem dX12_party_56 : decode cX12_party 56 = .ok (.aload_n 0, 1) := by decide +kernel
theorem dX12_party_57 : decode cX12_party 57 = .ok (.iload_n 1, 1) := by decide +kernel
theorem dX12_party_58 : decode cX12_party 58 = .ok (.invokevirtual 113, 3) := by decide +kernel
theorem dX12_party_61 : decode cX12_party 61 = .ok (.iconst 1, 1) := by decide +kernel
theorem dX12_party_62 : decode cX12_party 62 = .ok (.ireturn, 1) := by decide +kernel
def md_X12_party : List (Nat × Nat) := [(100, 0)]
set_option maxRecDepth 100000 in
set_option maxHeartbeats 4000000 in
theorem c_X12_party {l : Launch} {D : q_D} (τ : q_T) (σ : q_V) (a0 : Nat) (x1 : Int32) (x2 : Int32) (x3 : Int32) (hI : q_I τ σ) (tA0 : τ a0 = some (10, 1)) (rA2 : q_r x2 0 1) : q_Ci l D yX12_party cX12_party 4 (some .boolean) 1 22 τ σ [.ref a0, .int x1, .int x2, .int x3] (fun r σ1 => q_S md_X12_party τ σ σ1 ∧ (q_r r 0 1) ∧ ((r.toInt, fx_N σ1) = f_X12_party (fx_N σ) a0 x1.toInt x2.toInt x3.toInt) ∧ (∀ bn : Nat, σ a0 0 = .ref bn → fx_kr σ σ1 bn) ∧ (r.toInt = 1 ↔ ((0 ≤ x1.toInt ∧ x1.toInt ≤ 1) ∧ ((-20) ≤ x3.toInt ∧ x3.toInt ≤ 20)))) := by
  refine q_meti rfl (Nat.le_of_ble_eq_true rfl) (fun X hG hE => ?_)
  show q_O X 0 0 τ σ 0 [(0, .ref a0), (1, .int x1), (2, .int x2), (3, .int x3)] []
  have hS0 : q_S md_X12_party τ σ σ := q_S.rf hI
  obtain ⟨Fv, hF⟩ : ∃ z, fx_eq z (f_X12_party (fx_N σ) a0 x1.toInt x2.toInt x3.toInt) := ⟨_, fx_rf⟩
  have hF0 := hF
  unfold f_X12_party at hF
  obtain ⟨q_1b, q_1f, q_1T⟩ := (hI a0 10 1 tA0 0 (by decide)).ref (k := 100) (n := 549) rfl
  replace hF := fx_R hF q_1f rfl
  refine q_iload_n (pc := 0) hG dX12_party_0 1 rfl ?_
  refine q_iconst (pc := 1) hG dX12_party_1 ki_0 ?_
  refine q_iconst (pc := 2) hG dX12_party_2 ki_1 ?_
  refine q_pS (pc := 3) [.int x1, .int 0, .int 1] [] hG (c_X12_in τ σ x1 0 1 hI) my_X12_in w778 w777 dX12_party_3 rfl rfl (Nat.le_of_ble_eq_true rfl) (by decide) (fun v3 p3 => ?_)
  have fq3 := p3.2.1
  rewrite [tl_0, tl_1] at fq3
  replace hF := fx_E hF fq3
  refine q_if_eq (pc := 6) hG 20 dX12_party_6 rfl ?_ ?_
  · intro c6
    replace hF := fx_eq1 hF rfl rfl c6
    refine q_iconst (pc := 20) hG dX12_party_20 ki_0 ?_
    have r_2 := q_zeq c6
    exact q_zrt hG hE dX12_party_21 (q_r.mono rl_0 (by decide)) ⟨hS0, (q_r.mono rl_0 (by decide)), (by rw [tl_0]; exact fx_end hF hF0), (fun bn hbn => by cases hbn.symm.trans q_1f; exact fx_kr.rf), (by have o0 := p3.2.2; have o1 := c6; have o2 := r_2; have l3 := tl_m20; have l4 := tl_0; have l5 := tl_1; have l6 := tl_20; unfold q_r at o2; omega)⟩
  intro c6
  have g_3 := p3.2.2.mp (q_one p3.1 c6)
  have r_4 := q_rge (q_r_any x1) rl_0 g_3.1
  replace hF := fx_eq2 hF rfl rfl c6
  refine q_iload_n (pc := 9) hG dX12_party_9 3 rfl ?_
  refine q_bipush (pc := 10) hG dX12_party_10 kb_m20 ?_
  refine q_bipush (pc := 12) hG dX12_party_12 kb_20 ?_
  refine q_pS (pc := 14) [.int x3, .int (-20), .int 20] [] hG (c_X12_in τ σ x3 (-20) 20 hI) my_X12_in w778 w777 dX12_party_14 rfl rfl (Nat.le_of_ble_eq_true rfl) (by decide) (fun v14 p14 => ?_)
  have fq14 := p14.2.1
  rewrite [tl_m20, tl_20] at fq14
  replace hF := fx_E hF fq14
  refine q_if_ne (pc := 17) hG 22 dX12_party_17 rfl ?_ ?_
  · intro c17
    have g_5 := p14.2.2.mp (q_one p14.1 c17)
    have r_6 := q_rge (q_r_any x3) rl_m20 g_5.1
    replace hF := fx_eq2 hF rfl rfl c17
    refine q_aload_n (pc := 22) hG dX12_party_22 0 rfl ?_
    refine q_getV (pc := 23) (v := .ref q_1b) hG fl_X12_7 dX12_party_23 tA0 q_1f ?_
    refine q_sipush (pc := 26) hG dX12_party_26 ks_516 ?_
    refine q_iload_n (pc := 29) hG dX12_party_29 1 rfl ?_
    refine q_iadd (pc := 30) hG dX12_party_30 (fun v30 e30 => ?_)
    have r_7 := q_rle r_4 rl_1 g_3.2
    replace hF := fx_add hF tl_516 rfl (q_addN (lo := 516) (hi := 517) e30 rl_516 r_7 (by decide)).1
    refine q_iload_n (pc := 31) hG dX12_party_31 2 rfl ?_
    have J40 : ∀ (p40_s0 : Int32), (q_r p40_s0 0 1) → (fx_eq Fv (kJ_X12_party_40 (fx_N σ) q_1b v30.toInt x1.toInt x3.toInt x2.toInt a0 p40_s0.toInt)) → q_O X 0 0 τ σ 40 [(0, .ref a0), (1, .int x1), (2, .int x2), (3, .int x3)] [.int p40_s0, .int v30, .ref q_1b] := by
      intro p40_s0 r40_s0 hF
      unfold kJ_X12_party_40 at hF
      have r_8 := (q_addN (lo := 516) (hi := 517) e30 rl_516 r_7 (by decide)).2
      refine q_nast (pc := 40) hG dX12_party_40 hS0 q_1T (q_ix r_8 (by decide)) (q_nfree (by have q := r_8; unfold q_r at q; omega)) r40_s0 (by decide) rfl (fun s40 u40 w40 => ?_)
      replace hF := fx_P hF u40 rfl rfl
      have m40 : s40 q_1b v30.toInt.toNat = .int p40_s0 := by rw [u40]; exact q_up_same
      refine q_aload_n (pc := 41) hG dX12_party_41 0 rfl ?_
      refine q_getV (pc := 42) (v := .ref q_1b) hG fl_X12_7 dX12_party_42 tA0 (w40.same tA0 rfl q_1f) ?_
      refine q_sipush (pc := 45) hG dX12_party_45 ks_518 ?_
      refine q_iload_n (pc := 48) hG dX12_party_48 1 rfl ?_
      refine q_iadd (pc := 49) hG dX12_party_49 (fun v49 e49 => ?_)
      replace hF := fx_add hF tl_518 rfl (q_addN (lo := 518) (hi := 519) e49 rl_518 r_7 (by decide)).1
      refine q_iload_n (pc := 50) hG dX12_party_50 3 rfl ?_
      have r_9 := (q_addN (lo := 518) (hi := 519) e49 rl_518 r_7 (by decide)).2
      have r_10 := q_rle r_6 rl_20 g_5.2
      refine q_nast (pc := 51) hG dX12_party_51 w40 q_1T (q_ix r_9 (by decide)) (q_nfree (by have q := r_9; unfold q_r at q; omega)) r_10 (by decide) rfl (fun s51 u51 w51 => ?_)
      replace hF := fx_P hF u51 rfl rfl
      have m51 : s51 q_1b v49.toInt.toNat = .int x3 := by rw [u51]; exact q_up_same
      refine q_iload_n (pc := 52) hG dX12_party_52 2 rfl ?_
      refine q_if_ne (pc := 53) hG 61 dX12_party_53 rfl ?_ ?_
      · intro c53
        replace hF := fx_eq2 hF rfl rfl c53
        refine q_iconst (pc := 61) hG dX12_party_61 ki_1 ?_
        have kr_11 : fx_kr σ s51 q_1b := (fx_kr.P (fx_kr.P fx_kr.rf u40 r_8 (by decide)) u51 r_9 (by decide))
        have r_12 := q_neL (c := 1) p14.1 c17 (by decide)
        have r_13 := q_neL (c := 1) p3.1 c6 (by decide)
        exact q_zrt hG hE dX12_party_62 (q_r.mono rl_1 (by decide)) ⟨w51, (q_r.mono rl_1 (by decide)), (by rw [tl_1]; exact fx_end hF hF0), (fun bn hbn => by cases hbn.symm.trans q_1f; exact kr_11), (by have o0 := p3.2.2; have o1 := c6; have o2 := g_3.1; have o3 := g_3.2; have o4 := p14.2.2; have o5 := c17; have o6 := g_5.1; have o7 := g_5.2; have o8 := (q_addN (lo := 516) (hi := 517) e30 rl_516 r_7 (by decide)).1; have o9 := (q_addN (lo := 518) (hi := 519) e49 rl_518 r_7 (by decide)).1; have o10 := r_12; have o11 := r_13; have o12 := r_8; have o13 := r_9; have o14 := r_7; have o15 := r_10; have l16 := tl_m20; have l17 := tl_0; have l18 := tl_1; have l19 := tl_20; have l20 := tl_516; have l21 := tl_518; unfold q_r at o10 o11 o12 o13 o14 o15; omega)⟩
      intro c53
      replace hF := fx_eq1 hF rfl rfl c53
      refine q_aload_n (pc := 56) hG dX12_party_56 0 rfl ?_
      refine q_iload_n (pc := 57) hG dX12_party_57 1 rfl ?_
      refine q_cVv (pc := 58) [.int x1] [] hG (c_X12_leaves τ s51 a0 x1 w51.1 tA0 r_7) my_X12_leaves mv_X12_leaves w843 dX12_party_58 tA0 (by decide) rfl rfl (Nat.le_of_ble_eq_true rfl) (by decide) (fun s58 p58 => ?_)
      have w58 := w51.trans p58.1 rfl
      replace hF := fx_S hF p58.2.1
      refine q_iconst (pc := 61) hG dX12_party_61 ki_1 ?_
      have kr_14 : fx_kr σ s58 q_1b := (fx_kr.T (fx_kr.P (fx_kr.P fx_kr.rf u40 r_8 (by decide)) u51 r_9 (by decide)) (p58.2.2 q_1b (w51.same tA0 rfl q_1f)))
      have r_15 := q_neL (c := 1) p14.1 c17 (by decide)
      have r_16 := q_neL (c := 1) p3.1 c6 (by decide)
      exact q_zrt hG hE dX12_party_62 (q_r.mono rl_1 (by decide)) ⟨w58, (q_r.mono rl_1 (by decide)), (by rw [tl_1]; exact fx_end hF hF0), (fun bn hbn => by cases hbn.symm.trans q_1f; exact kr_14), (by have o0 := p3.2.2; have o1 := c6; have o2 := g_3.1; have o3 := g_3.2; have o4 := p14.2.2; have o5 := c17; have o6 := g_5.1; have o7 := g_5.2; have o8 := (q_addN (lo := 516) (hi := 517) e30 rl_516 r_7 (by decide)).1; have o9 := (q_addN (lo := 518) (hi := 519) e49 rl_518 r_7 (by decide)).1; have o10 := r_15; have o11 := r_16; have o12 := r_8; have o13 := r_9; have o14 := r_7; have o15 := r_10; have l16 := tl_m20; have l17 := tl_0; have l18 := tl_1; have l19 := tl_20; have l20 := tl_516; have l21 := tl_518; unfold q_r at o10 o11 o12 o13 o14 o15; omega)⟩
    refine q_if_eq (pc := 32) hG 39 dX12_party_32 rfl ?_ ?_
    · intro c32
      replace hF := fx_eq1 hF rfl rfl c32
      refine q_iconst (pc := 39) hG dX12_party_39 ki_0 ?_
      refine q_lv [0, 1, 2, 3] rfl ?_
      exact J40 0 (q_r.mono rl_0 (by decide)) (by rw [tl_0]; exact hF)
    intro c32
    replace hF := fx_eq2 hF rfl rfl c32
    refine q_iconst (pc := 35) hG dX12_party_35 ki_1 ?_
    refine q_goto (pc := 36) 40 hG dX12_party_36 rfl ?_
    refine q_lv [0, 1, 2, 3] rfl ?_
    exact J40 1 (q_r.mono rl_1 (by decide)) (by rw [tl_1]; exact hF)
  intro c17
  replace hF := fx_eq1 hF rfl rfl c17
  refine q_iconst (pc := 20) hG dX12_party_20 ki_0 ?_
  have r_17 := q_zeq c17
  have r_18 := q_neL (c := 1) p3.1 c6 (by decide)
  have r_19 := q_rle r_4 rl_1 g_3.2
  exact q_zrt hG hE dX12_party_21 (q_r.mono rl_0 (by decide)) ⟨hS0, (q_r.mono rl_0 (by decide)), (by rw [tl_0]; exact fx_end hF hF0), (fun bn hbn => by cases hbn.symm.trans q_1f; exact fx_kr.rf), (by have o0 := p3.2.2; have o1 := c6; have o2 := g_3.1; have o3 := g_3.2; have o4 := p14.2.2; have o5 := c17; have o6 := r_17; have o7 := r_18; have o8 := r_19; have l9 := tl_m20; have l10 := tl_0; have l11 := tl_1; have l12 := tl_20; unfold q_r at o6 o7 o8; omega)⟩
theorem dX12_car_0 : decode cX12_car 0 = .ok (.iload_n 1, 1) := by decide +kernel
theorem dX12_car_1 : decode cX12_car 1 = .ok (.iconst 0, 1) := by decide +kernel
theorem dX12_car_2 : decode cX12_car 2 = .ok (.bipush 11, 2) := by decide +kernel
theorem dX12_car_4 : decode cX12_car 4 = .ok (.invokestatic 102, 3) := by decide +kernel
theorem dX12_car_7 : decode cX12_car 7 = .ok (.ifCond .eq 23, 3) := by decide +kernel
theorem dX12_car_10 : decode cX12_car 10 = .ok (.iload_n 2, 1) := by decide +kernel
theorem dX12_car_11 : decode cX12_car 11 = .ok (.iconst 0, 1) := by decide +kernel
theorem dX12_car_12 : decode cX12_car 12 = .ok (.iconst 1, 1) := by decide +kernel
theorem dX12_car_13 : decode cX12_car 13 = .ok (.invokestatic 102, 3) := by decide +kernel
theorem dX12_car_16 : decode cX12_car 16 = .ok (.ifCond .eq 14, 3) := by decide +kernel
theorem dX12_car_19 : decode cX12_car 19 = .ok (.iload_n 3, 1) := by decide +kernel
theorem dX12_car_20 : decode cX12_car 20 = .ok (.iconst 0, 1) := by decide +kernel
theorem dX12_car_21 : decode cX12_car 21 = .ok (.sipush 9999, 3) := by decide +kernel
theorem dX12_car_24 : decode cX12_car 24 = .ok (.invokestatic 102, 3) := by decide +kernel
theorem dX12_car_27 : decode cX12_car 27 = .ok (.ifCond .ne 5, 3) := by decide +kernel
theorem dX12_car_30 : decode cX12_car 30 = .ok (.iconst 0, 1) := by decide +kernel
theorem dX12_car_31 : decode cX12_car 31 = .ok (.ireturn, 1) := by decide +kernel
theorem dX12_car_32 : decode cX12_car 32 = .ok (.aload_n 0, 1) := by decide +kernel
theorem dX12_car_33 : decode cX12_car 33 = .ok (.getfield 7, 3) := by decide +kernel
theorem dX12_car_36 : decode cX12_car 36 = .ok (.sipush 524, 3) := by decide +kernel
theorem dX12_car_39 : decode cX12_car 39 = .ok (.aload_n 0, 1) := by decide +kernel
theorem dX12_car_40 : decode cX12_car 40 = .ok (.getfield 7, 3) := by decide +kernel
theorem dX12_car_43 : decode cX12_car 43 = .ok (.sipush 524, 3) := by decide +kernel
theorem dX12_car_46 : decode cX12_car 46 = .ok (.iaload, 1) := by decide +kernel
theorem dX12_car_47 : decode cX12_car 47 = .ok (.iconst 1, 1) := by decide +kernel
theorem dX12_car_48 : decode cX12_car 48 = .ok (.iload_n 1, 1) := by decide +kernel
theorem dX12_car_49 : decode cX12_car 49 = .ok (.ishl, 1) := by decide +kernel
theorem dX12_car_50 : decode cX12_car 50 = .ok (.ior, 1) := by decide +kernel
theorem dX12_car_51 : decode cX12_car 51 = .ok (.iastore, 1) := by decide +kernel
theorem dX12_car_52 : decode cX12_car 52 = .ok (.aload_n 0, 1) := by decide +kernel
theorem dX12_car_53 : decode cX12_car 53 = .ok (.getfield 7, 3) := by decide +kernel
theorem dX12_car_56 : decode cX12_car 56 = .ok (.sipush 525, 3) := by decide +kernel
theorem dX12_car_59 : decode cX12_car 59 = .ok (.iload_n 1, 1) := by decide +kernel
theorem dX12_car_60 : decode cX12_car 60 = .ok (.iadd, 1) := by decide +kernel
theorem dX12_car_61 : decode cX12_car 61 = .ok (.iload_n 2, 1) := by decide +kernel
theorem dX12_car_62 : decode cX12_car 62 = .ok (.iastore, 1) := by decide +kernel
theorem dX12_car_63 : decode cX12_car 63 = .ok (.aload_n 0, 1) := by decide +kernel
theorem dX12_car_64 : decode cX12_car 64 = .ok (.getfield 7, 3) := by decide +kernel
theorem dX12_car_67 : decode cX12_car 67 = .ok (.sipush 537, 3) := by decide +kernel
theorem dX12_car_70 : decode cX12_car 70 = .ok (.iload_n 1, 1) := by decide +kernel
theorem dX12_car_71 : decode cX12_car 71 = .ok (.iadd, 1) := by decide +kernel
theorem dX12_car_72 : decode cX12_car 72 = .ok (.iload_n 3, 1) := by decide +kernel
theorem dX12_car_73 : decode cX12_car 73 = .ok (.iastore, 1) := by decide +kernel
theorem dX12_car_74 : decode cX12_car 74 = .ok (.iconst 1, 1) := by decide +kernel
theorem dX12_car_75 : decode cX12_car 75 = .ok (.ireturn, 1) := by decide +kernel
def md_X12_car : List (Nat × Nat) := [(100, 0)]
set_option maxRecDepth 100000 in
set_option maxHeartbeats 4000000 in
theorem c_X12_car {l : Launch} {D : q_D} (τ : q_T) (σ : q_V) (a0 : Nat) (x1 : Int32) (x2 : Int32) (x3 : Int32) (hI : q_I τ σ) (tA0 : τ a0 = some (10, 1)) : q_Ci l D yX12_car cX12_car 4 (some .boolean) 1 22 τ σ [.ref a0, .int x1, .int x2, .int x3] (fun r σ1 => q_S md_X12_car τ σ σ1 ∧ (q_r r 0 1) ∧ ((r.toInt, fx_N σ1) = f_X12_car (fx_N σ) a0 x1.toInt x2.toInt x3.toInt) ∧ (∀ bn : Nat, σ a0 0 = .ref bn → fx_kr σ σ1 bn) ∧ (r.toInt = 1 ↔ ((0 ≤ x1.toInt ∧ x1.toInt ≤ 11) ∧ (0 ≤ x2.toInt ∧ x2.toInt ≤ 1) ∧ (0 ≤ x3.toInt ∧ x3.toInt ≤ 9999)))) := by
  refine q_meti rfl (Nat.le_of_ble_eq_true rfl) (fun X hG hE => ?_)
  show q_O X 0 0 τ σ 0 [(0, .ref a0), (1, .int x1), (2, .int x2), (3, .int x3)] []
  have hS0 : q_S md_X12_car τ σ σ := q_S.rf hI
  obtain ⟨Fv, hF⟩ : ∃ z, fx_eq z (f_X12_car (fx_N σ) a0 x1.toInt x2.toInt x3.toInt) := ⟨_, fx_rf⟩
  have hF0 := hF
  unfold f_X12_car at hF
  obtain ⟨q_1b, q_1f, q_1T⟩ := (hI a0 10 1 tA0 0 (by decide)).ref (k := 100) (n := 549) rfl
  replace hF := fx_R hF q_1f rfl
  refine q_iload_n (pc := 0) hG dX12_car_0 1 rfl ?_
  refine q_iconst (pc := 1) hG dX12_car_1 ki_0 ?_
  refine q_bipush (pc := 2) hG dX12_car_2 kb_11 ?_
  refine q_pS (pc := 4) [.int x1, .int 0, .int 11] [] hG (c_X12_in τ σ x1 0 11 hI) my_X12_in w778 w777 dX12_car_4 rfl rfl (Nat.le_of_ble_eq_true rfl) (by decide) (fun v4 p4 => ?_)
  have fq4 := p4.2.1
  rewrite [tl_0, tl_11] at fq4
  replace hF := fx_E hF fq4
  refine q_if_eq (pc := 7) hG 30 dX12_car_7 rfl ?_ ?_
  · intro c7
    replace hF := fx_eq1 hF rfl rfl c7
    refine q_iconst (pc := 30) hG dX12_car_30 ki_0 ?_
    have r_2 := q_zeq c7
    exact q_zrt hG hE dX12_car_31 (q_r.mono rl_0 (by decide)) ⟨hS0, (q_r.mono rl_0 (by decide)), (by rw [tl_0]; exact fx_end hF hF0), (fun bn hbn => by cases hbn.symm.trans q_1f; exact fx_kr.rf), (by have o0 := p4.2.2; have o1 := c7; have o2 := r_2; have l3 := tl_0; have l4 := tl_1; have l5 := tl_11; have l6 := tl_9999; unfold q_r at o2; omega)⟩
  intro c7
  have g_3 := p4.2.2.mp (q_one p4.1 c7)
  have r_4 := q_rge (q_r_any x1) rl_0 g_3.1
  replace hF := fx_eq2 hF rfl rfl c7
  refine q_iload_n (pc := 10) hG dX12_car_10 2 rfl ?_
  refine q_iconst (pc := 11) hG dX12_car_11 ki_0 ?_
  refine q_iconst (pc := 12) hG dX12_car_12 ki_1 ?_
  refine q_pS (pc := 13) [.int x2, .int 0, .int 1] [] hG (c_X12_in τ σ x2 0 1 hI) my_X12_in w778 w777 dX12_car_13 rfl rfl (Nat.le_of_ble_eq_true rfl) (by decide) (fun v13 p13 => ?_)
  have fq13 := p13.2.1
  rewrite [tl_0, tl_1] at fq13
  replace hF := fx_E hF fq13
  refine q_if_eq (pc := 16) hG 30 dX12_car_16 rfl ?_ ?_
  · intro c16
    replace hF := fx_eq1 hF rfl rfl c16
    refine q_iconst (pc := 30) hG dX12_car_30 ki_0 ?_
    have r_5 := q_zeq c16
    have r_6 := q_neL (c := 1) p4.1 c7 (by decide)
    have r_7 := q_rle r_4 rl_11 g_3.2
    exact q_zrt hG hE dX12_car_31 (q_r.mono rl_0 (by decide)) ⟨hS0, (q_r.mono rl_0 (by decide)), (by rw [tl_0]; exact fx_end hF hF0), (fun bn hbn => by cases hbn.symm.trans q_1f; exact fx_kr.rf), (by have o0 := p4.2.2; have o1 := c7; have o2 := g_3.1; have o3 := g_3.2; have o4 := p13.2.2; have o5 := c16; have o6 := r_5; have o7 := r_6; have o8 := r_7; have l9 := tl_0; have l10 := tl_1; have l11 := tl_11; have l12 := tl_9999; unfold q_r at o6 o7 o8; omega)⟩
  intro c16
  have g_8 := p13.2.2.mp (q_one p13.1 c16)
  have r_9 := q_rge (q_r_any x2) rl_0 g_8.1
  replace hF := fx_eq2 hF rfl rfl c16
  refine q_iload_n (pc := 19) hG dX12_car_19 3 rfl ?_
  refine q_iconst (pc := 20) hG dX12_car_20 ki_0 ?_
  refine q_sipush (pc := 21) hG dX12_car_21 ks_9999 ?_
  refine q_pS (pc := 24) [.int x3, .int 0, .int 9999] [] hG (c_X12_in τ σ x3 0 9999 hI) my_X12_in w778 w777 dX12_car_24 rfl rfl (Nat.le_of_ble_eq_true rfl) (by decide) (fun v24 p24 => ?_)
  have fq24 := p24.2.1
  rewrite [tl_0, tl_9999] at fq24
  replace hF := fx_E hF fq24
  refine q_if_ne (pc := 27) hG 32 dX12_car_27 rfl ?_ ?_
  · intro c27
    have g_10 := p24.2.2.mp (q_one p24.1 c27)
    have r_11 := q_rge (q_r_any x3) rl_0 g_10.1
    replace hF := fx_eq2 hF rfl rfl c27
    refine q_aload_n (pc := 32) hG dX12_car_32 0 rfl ?_
    refine q_getV (pc := 33) (v := .ref q_1b) hG fl_X12_7 dX12_car_33 tA0 q_1f ?_
    refine q_sipush (pc := 36) hG dX12_car_36 ks_524 ?_
    refine q_aload_n (pc := 39) hG dX12_car_39 0 rfl ?_
    refine q_getV (pc := 40) (v := .ref q_1b) hG fl_X12_7 dX12_car_40 tA0 q_1f ?_
    refine q_sipush (pc := 43) hG dX12_car_43 ks_524 ?_
    refine q_nald (pc := 46) hG dX12_car_46 hI q_1T (q_ix rl_524 (by decide)) (fun v46 f46 => ?_)
    replace hF := fx_I hF f46 (congrArg Int.toNat tl_524)
    refine q_iconst (pc := 47) hG dX12_car_47 ki_1 ?_
    refine q_iload_n (pc := 48) hG dX12_car_48 1 rfl ?_
    refine q_ishl (pc := 49) hG dX12_car_49 (fun v49 e49 => ?_)
    replace hF := fx_B_shl hF tl_1 rfl e49
    refine q_ior (pc := 50) hG dX12_car_50 (fun v50 e50 => ?_)
    replace hF := fx_B_or hF rfl rfl e50
    refine q_nast (pc := 51) hG dX12_car_51 hS0 q_1T (q_ix rl_524 (by decide)) (q_nfree (by have q := rl_524; unfold q_r at q; omega)) (q_r_any v50) (by decide) rfl (fun s51 u51 w51 => ?_)
    replace hF := fx_P hF u51 (congrArg Int.toNat tl_524) rfl
    have m51 : s51 q_1b (524 : Int32).toInt.toNat = .int v50 := by rw [u51]; exact q_up_same
    refine q_aload_n (pc := 52) hG dX12_car_52 0 rfl ?_
    refine q_getV (pc := 53) (v := .ref q_1b) hG fl_X12_7 dX12_car_53 tA0 (w51.same tA0 rfl q_1f) ?_
    refine q_sipush (pc := 56) hG dX12_car_56 ks_525 ?_
    refine q_iload_n (pc := 59) hG dX12_car_59 1 rfl ?_
    refine q_iadd (pc := 60) hG dX12_car_60 (fun v60 e60 => ?_)
    have r_12 := q_rle r_4 rl_11 g_3.2
    replace hF := fx_add hF tl_525 rfl (q_addN (lo := 525) (hi := 536) e60 rl_525 r_12 (by decide)).1
    refine q_iload_n (pc := 61) hG dX12_car_61 2 rfl ?_
    have r_13 := (q_addN (lo := 525) (hi := 536) e60 rl_525 r_12 (by decide)).2
    have r_14 := q_rle r_9 rl_1 g_8.2
    refine q_nast (pc := 62) hG dX12_car_62 w51 q_1T (q_ix r_13 (by decide)) (q_nfree (by have q := r_13; unfold q_r at q; omega)) r_14 (by decide) rfl (fun s62 u62 w62 => ?_)
    replace hF := fx_P hF u62 rfl rfl
    have m62 : s62 q_1b v60.toInt.toNat = .int x2 := by rw [u62]; exact q_up_same
    refine q_aload_n (pc := 63) hG dX12_car_63 0 rfl ?_
    refine q_getV (pc := 64) (v := .ref q_1b) hG fl_X12_7 dX12_car_64 tA0 (w62.same tA0 rfl q_1f) ?_
    refine q_sipush (pc := 67) hG dX12_car_67 ks_537 ?_
    refine q_iload_n (pc := 70) hG dX12_car_70 1 rfl ?_
    refine q_iadd (pc := 71) hG dX12_car_71 (fun v71 e71 => ?_)
    replace hF := fx_add hF tl_537 rfl (q_addN (lo := 537) (hi := 548) e71 rl_537 r_12 (by decide)).1
    refine q_iload_n (pc := 72) hG dX12_car_72 3 rfl ?_
    have r_15 := (q_addN (lo := 537) (hi := 548) e71 rl_537 r_12 (by decide)).2
    have r_16 := q_rle r_11 rl_9999 g_10.2
    refine q_nast (pc := 73) hG dX12_car_73 w62 q_1T (q_ix r_15 (by decide)) (q_nfree (by have q := r_15; unfold q_r at q; omega)) r_16 (by decide) rfl (fun s73 u73 w73 => ?_)
    replace hF := fx_P hF u73 rfl rfl
    have m73 : s73 q_1b v71.toInt.toNat = .int x3 := by rw [u73]; exact q_up_same
    refine q_iconst (pc := 74) hG dX12_car_74 ki_1 ?_
    have kr_17 : fx_kr σ s73 q_1b := (fx_kr.P (fx_kr.P (fx_kr.P fx_kr.rf u51 rl_524 (by decide)) u62 r_13 (by decide)) u73 r_15 (by decide))
    have r_18 := q_neL (c := 1) p13.1 c16 (by decide)
    have r_19 := q_neL (c := 1) p24.1 c27 (by decide)
    have r_20 := q_neL (c := 1) p4.1 c7 (by decide)
    exact q_zrt hG hE dX12_car_75 (q_r.mono rl_1 (by decide)) ⟨w73, (q_r.mono rl_1 (by decide)), (by rw [tl_1]; exact fx_end hF hF0), (fun bn hbn => by cases hbn.symm.trans q_1f; exact kr_17), (by have o0 := p4.2.2; have o1 := c7; have o2 := g_3.1; have o3 := g_3.2; have o4 := p13.2.2; have o5 := c16; have o6 := g_8.1; have o7 := g_8.2; have o8 := p24.2.2; have o9 := c27; have o10 := g_10.1; have o11 := g_10.2; have o12 := (q_addN (lo := 525) (hi := 536) e60 rl_525 r_12 (by decide)).1; have o13 := (q_addN (lo := 537) (hi := 548) e71 rl_537 r_12 (by decide)).1; have o14 := r_18; have o15 := r_19; have o16 := r_20; have o17 := r_13; have o18 := r_15; have o19 := r_12; have o20 := r_14; have o21 := r_16; have l22 := tl_0; have l23 := tl_1; have l24 := tl_11; have l25 := tl_525; have l26 := tl_537; have l27 := tl_9999; unfold q_r at o14 o15 o16 o17 o18 o19 o20 o21; omega)⟩
  intro c27
  replace hF := fx_eq1 hF rfl rfl c27
  refine q_iconst (pc := 30) hG dX12_car_30 ki_0 ?_
  have r_21 := q_neL (c := 1) p13.1 c16 (by decide)
  have r_22 := q_zeq c27
  have r_23 := q_neL (c := 1) p4.1 c7 (by decide)
  have r_24 := q_rle r_4 rl_11 g_3.2
  have r_25 := q_rle r_9 rl_1 g_8.2
  exact q_zrt hG hE dX12_car_31 (q_r.mono rl_0 (by decide)) ⟨hS0, (q_r.mono rl_0 (by decide)), (by rw [tl_0]; exact fx_end hF hF0), (fun bn hbn => by cases hbn.symm.trans q_1f; exact fx_kr.rf), (by have o0 := p4.2.2; have o1 := c7; have o2 := g_3.1; have o3 := g_3.2; have o4 := p13.2.2; have o5 := c16; have o6 := g_8.1; have o7 := g_8.2; have o8 := p24.2.2; have o9 := c27; have o10 := r_21; have o11 := r_22; have o12 := r_23; have o13 := r_24; have o14 := r_25; have l15 := tl_0; have l16 := tl_1; have l17 := tl_11; have l18 := tl_9999; unfold q_r at o10 o11 o12 o13 o14; omega)⟩
theorem dX12_cones_0 : decode cX12_cones 0 = .ok (.iload_n 1, 1) := by decide +kernel
theorem dX12_cones_1 : decode cX12_cones 1 = .ok (.iconst 0, 1) := by decide +kernel
theorem dX12_cones_2 : decode cX12_cones 2 = .ok (.bipush 64, 2) := by decide +kernel
theorem dX12_cones_4 : decode cX12_cones 4 = .ok (.invokestatic 102, 3) := by decide +kernel
theorem dX12_cones_7 : decode cX12_cones 7 = .ok (.ifCond .ne 5, 3) := by decide +kernel
theorem dX12_cones_10 : decode cX12_cones 10 = .ok (.iconst 0, 1) := by decide +kernel
theorem dX12_cones_11 : decode cX12_cones 11 = .ok (.ireturn, 1) := by decide +kernel
theorem dX12_cones_12 : decode cX12_cones 12 = .ok (.aload_n 0, 1) := by decide +kernel
theorem dX12_cones_13 : decode cX12_cones 13 = .ok (.getfield 7, 3) := by decide +kernel
theorem dX12_cones_16 : decode cX12_cones 16 = .ok (.sipush 514, 3) := by decide +kernel
theorem dX12_cones_19 : decode cX12_cones 19 = .ok (.iload_n 1, 1) := by decide +kernel
theorem dX12_cones_20 : decode cX12_cones 20 = .ok (.iastore, 1) := by decide +kernel
theorem dX12_cones_21 : decode cX12_cones 21 = .ok (.iconst 1, 1) := by decide +kernel
theorem dX12_cones_22 : decode cX12_cones 22 = .ok (.ireturn, 1) := by decide +kernel
def md_X12_cones : List (Nat × Nat) := [(100, 0)]
set_option maxRecDepth 100000 in
set_option maxHeartbeats 4000000 in
theorem c_X12_cones {l : Launch} {D : q_D} (τ : q_T) (σ : q_V) (a0 : Nat) (x1 : Int32) (hI : q_I τ σ) (tA0 : τ a0 = some (10, 1)) : q_Ci l D yX12_cones cX12_cones 2 (some .boolean) 1 22 τ σ [.ref a0, .int x1] (fun r σ1 => q_S md_X12_cones τ σ σ1 ∧ (q_r r 0 1) ∧ ((r.toInt, fx_N σ1) = f_X12_cones (fx_N σ) a0 x1.toInt) ∧ (∀ bn : Nat, σ a0 0 = .ref bn → fx_kr σ σ1 bn) ∧ (r.toInt = 1 ↔ ((0 ≤ x1.toInt ∧ x1.toInt ≤ 64)))) := by
  refine q_meti rfl (Nat.le_of_ble_eq_true rfl) (fun X hG hE => ?_)
  show q_O X 0 0 τ σ 0 [(0, .ref a0), (1, .int x1)] []
  have hS0 : q_S md_X12_cones τ σ σ := q_S.rf hI
  obtain ⟨Fv, hF⟩ : ∃ z, fx_eq z (f_X12_cones (fx_N σ) a0 x1.toInt) := ⟨_, fx_rf⟩
  have hF0 := hF
  unfold f_X12_cones at hF
  obtain ⟨q_1b, q_1f, q_1T⟩ := (hI a0 10 1 tA0 0 (by decide)).ref (k := 100) (n := 549) rfl
  replace hF := fx_R hF q_1f rfl
  refine q_iload_n (pc := 0) hG dX12_cones_0 1 rfl ?_
  refine q_iconst (pc := 1) hG dX12_cones_1 ki_0 ?_
  refine q_bipush (pc := 2) hG dX12_cones_2 kb_64 ?_
  refine q_pS (pc := 4) [.int x1, .int 0, .int 64] [] hG (c_X12_in τ σ x1 0 64 hI) my_X12_in w778 w777 dX12_cones_4 rfl rfl (Nat.le_of_ble_eq_true rfl) (by decide) (fun v4 p4 => ?_)
  have fq4 := p4.2.1
  rewrite [tl_0, tl_64] at fq4
  replace hF := fx_E hF fq4
  refine q_if_ne (pc := 7) hG 12 dX12_cones_7 rfl ?_ ?_
  · intro c7
    have g_2 := p4.2.2.mp (q_one p4.1 c7)
    have r_3 := q_rge (q_r_any x1) rl_0 g_2.1
    replace hF := fx_eq2 hF rfl rfl c7
    refine q_aload_n (pc := 12) hG dX12_cones_12 0 rfl ?_
    refine q_getV (pc := 13) (v := .ref q_1b) hG fl_X12_7 dX12_cones_13 tA0 q_1f ?_
    refine q_sipush (pc := 16) hG dX12_cones_16 ks_514 ?_
    refine q_iload_n (pc := 19) hG dX12_cones_19 1 rfl ?_
    have r_4 := q_rle r_3 rl_64 g_2.2
    refine q_nast (pc := 20) hG dX12_cones_20 hS0 q_1T (q_ix rl_514 (by decide)) (q_nfree (by have q := rl_514; unfold q_r at q; omega)) r_4 (by decide) rfl (fun s20 u20 w20 => ?_)
    replace hF := fx_P hF u20 (congrArg Int.toNat tl_514) rfl
    have m20 : s20 q_1b (514 : Int32).toInt.toNat = .int x1 := by rw [u20]; exact q_up_same
    refine q_iconst (pc := 21) hG dX12_cones_21 ki_1 ?_
    have kr_5 : fx_kr σ s20 q_1b := (fx_kr.P fx_kr.rf u20 rl_514 (by decide))
    have r_6 := q_neL (c := 1) p4.1 c7 (by decide)
    exact q_zrt hG hE dX12_cones_22 (q_r.mono rl_1 (by decide)) ⟨w20, (q_r.mono rl_1 (by decide)), (by rw [tl_1]; exact fx_end hF hF0), (fun bn hbn => by cases hbn.symm.trans q_1f; exact kr_5), (by have o0 := p4.2.2; have o1 := c7; have o2 := g_2.1; have o3 := g_2.2; have o4 := r_6; have o5 := r_4; have l6 := tl_0; have l7 := tl_1; have l8 := tl_64; unfold q_r at o4 o5; omega)⟩
  intro c7
  replace hF := fx_eq1 hF rfl rfl c7
  refine q_iconst (pc := 10) hG dX12_cones_10 ki_0 ?_
  have r_7 := q_zeq c7
  exact q_zrt hG hE dX12_cones_11 (q_r.mono rl_0 (by decide)) ⟨hS0, (q_r.mono rl_0 (by decide)), (by rw [tl_0]; exact fx_end hF hF0), (fun bn hbn => by cases hbn.symm.trans q_1f; exact fx_kr.rf), (by have o0 := p4.2.2; have o1 := c7; have o2 := r_7; have l3 := tl_0; have l4 := tl_64; unfold q_r at o2; omega)⟩
theorem dX12_dew_0 : decode cX12_dew 0 = .ok (.iload_n 1, 1) := by decide +kernel
theorem dX12_dew_1 : decode cX12_dew 1 = .ok (.iconst (-1), 1) := by decide +kernel
theorem dX12_dew_2 : decode cX12_dew 2 = .ok (.sipush 9999, 3) := by decide +kernel
theorem dX12_dew_5 : decode cX12_dew 5 = .ok (.invokestatic 102, 3) := by decide +kernel
theorem dX12_dew_8 : decode cX12_dew 8 = .ok (.ifCond .ne 5, 3) := by decide +kernel
theorem dX12_dew_11 : decode cX12_dew 11 = .ok (.iconst 0, 1) := by decide +kernel
theorem dX12_dew_12 : decode cX12_dew 12 = .ok (.ireturn, 1) := by decide +kernel
theorem dX12_dew_13 : decode cX12_dew 13 = .ok (.aload_n 0, 1) := by decide +kernel
theorem dX12_dew_14 : decode cX12_dew 14 = .ok (.getfield 7, 3) := by decide +kernel
theorem dX12_dew_17 : decode cX12_dew 17 = .ok (.sipush 515, 3) := by decide +kernel
theorem dX12_dew_20 : decode cX12_dew 20 = .ok (.iload_n 1, 1) := by decide +kernel
theorem dX12_dew_21 : decode cX12_dew 21 = .ok (.iconst (-1), 1) := by decide +kernel
theorem dX12_dew_22 : decode cX12_dew 22 = .ok (.if_icmp .ne 8, 3) := by decide +kernel
theorem dX12_dew_25 : decode cX12_dew 25 = .ok (.bipush (-2), 2) := by decide +kernel
theorem dX12_dew_27 : decode cX12_dew 27 = .ok (.goto 4, 3) := by decide +kernel
theorem dX12_dew_30 : decode cX12_dew 30 = .ok (.iload_n 1, 1) := by decide +kernel
theorem dX12_dew_31 : decode cX12_dew 31 = .ok (.iastore, 1) := by decide +kernel
theorem dX12_dew_32 : decode cX12_dew 32 = .ok (.iconst 1, 1) := by decide +kernel
theorem dX12_dew_33 : decode cX12_dew 33 = .ok (.ireturn, 1) := by decide +kernel
def md_X12_dew : List (Nat × Nat) := [(100, 0)]
set_option maxRecDepth 100000 in
set_option maxHeartbeats 4000000 in
theorem c_X12_dew {l : Launch} {D : q_D} (τ : q_T) (σ : q_V) (a0 : Nat) (x1 : Int32) (hI : q_I τ σ) (tA0 : τ a0 = some (10, 1)) : q_Ci l D yX12_dew cX12_dew 2 (some .boolean) 1 22 τ σ [.ref a0, .int x1] (fun r σ1 => q_S md_X12_dew τ σ σ1 ∧ (q_r r 0 1) ∧ ((r.toInt, fx_N σ1) = f_X12_dew (fx_N σ) a0 x1.toInt) ∧ (∀ bn : Nat, σ a0 0 = .ref bn → fx_kr σ σ1 bn) ∧ (r.toInt = 1 ↔ (((-1) ≤ x1.toInt ∧ x1.toInt ≤ 9999)))) := by
  refine q_meti rfl (Nat.le_of_ble_eq_true rfl) (fun X hG hE => ?_)
  show q_O X 0 0 τ σ 0 [(0, .ref a0), (1, .int x1)] []
  have hS0 : q_S md_X12_dew τ σ σ := q_S.rf hI
  obtain ⟨Fv, hF⟩ : ∃ z, fx_eq z (f_X12_dew (fx_N σ) a0 x1.toInt) := ⟨_, fx_rf⟩
  have hF0 := hF
  unfold f_X12_dew at hF
  obtain ⟨q_1b, q_1f, q_1T⟩ := (hI a0 10 1 tA0 0 (by decide)).ref (k := 100) (n := 549) rfl
  replace hF := fx_R hF q_1f rfl
  refine q_iload_n (pc := 0) hG dX12_dew_0 1 rfl ?_
  refine q_iconst (pc := 1) hG dX12_dew_1 ki_m1 ?_
  refine q_sipush (pc := 2) hG dX12_dew_2 ks_9999 ?_
  refine q_pS (pc := 5) [.int x1, .int (-1), .int 9999] [] hG (c_X12_in τ σ x1 (-1) 9999 hI) my_X12_in w778 w777 dX12_dew_5 rfl rfl (Nat.le_of_ble_eq_true rfl) (by decide) (fun v5 p5 => ?_)
  have fq5 := p5.2.1
  rewrite [tl_m1, tl_9999] at fq5
  replace hF := fx_E hF fq5
  refine q_if_ne (pc := 8) hG 13 dX12_dew_8 rfl ?_ ?_
  · intro c8
    have g_2 := p5.2.2.mp (q_one p5.1 c8)
    have r_3 := q_rge (q_r_any x1) rl_m1 g_2.1
    replace hF := fx_eq2 hF rfl rfl c8
    refine q_aload_n (pc := 13) hG dX12_dew_13 0 rfl ?_
    refine q_getV (pc := 14) (v := .ref q_1b) hG fl_X12_7 dX12_dew_14 tA0 q_1f ?_
    refine q_sipush (pc := 17) hG dX12_dew_17 ks_515 ?_
    refine q_iload_n (pc := 20) hG dX12_dew_20 1 rfl ?_
    refine q_iconst (pc := 21) hG dX12_dew_21 ki_m1 ?_
    have J31 : ∀ (p31_s0 : Int32), (q_r p31_s0 (-2) 9999) → (fx_eq Fv (kJ_X12_dew_31 (fx_N σ) q_1b p31_s0.toInt)) → q_O X 0 0 τ σ 31 [] [.int p31_s0, .int 515, .ref q_1b] := by
      intro p31_s0 r31_s0 hF
      unfold kJ_X12_dew_31 at hF
      refine q_nast (pc := 31) hG dX12_dew_31 hS0 q_1T (q_ix rl_515 (by decide)) (q_nfree (by have q := rl_515; unfold q_r at q; omega)) r31_s0 (by decide) rfl (fun s31 u31 w31 => ?_)
      replace hF := fx_P hF u31 (congrArg Int.toNat tl_515) rfl
      have m31 : s31 q_1b (515 : Int32).toInt.toNat = .int p31_s0 := by rw [u31]; exact q_up_same
      refine q_iconst (pc := 32) hG dX12_dew_32 ki_1 ?_
      have kr_4 : fx_kr σ s31 q_1b := (fx_kr.P fx_kr.rf u31 rl_515 (by decide))
      have r_5 := q_neL (c := 1) p5.1 c8 (by decide)
      have r_6 := q_rle r_3 rl_9999 g_2.2
      exact q_zrt hG hE dX12_dew_33 (q_r.mono rl_1 (by decide)) ⟨w31, (q_r.mono rl_1 (by decide)), (by rw [tl_1]; exact fx_end hF hF0), (fun bn hbn => by cases hbn.symm.trans q_1f; exact kr_4), (by have o0 := p5.2.2; have o1 := c8; have o2 := g_2.1; have o3 := g_2.2; have o4 := r_5; have o5 := r_6; have l6 := tl_m1; have l7 := tl_1; have l8 := tl_9999; unfold q_r at o4 o5; omega)⟩
    refine q_icmp_ne (pc := 22) hG 30 dX12_dew_22 rfl ?_ ?_
    · intro c22
      have r_7 := q_rle r_3 rl_9999 g_2.2
      replace hF := fx_eq2 hF rfl tl_m1 c22
      refine q_iload_n (pc := 30) hG dX12_dew_30 1 rfl ?_
      refine q_lv [] rfl ?_
      have r_8 := q_neL (c := 0) r_7 (q_nel c22 tl_m1) (by decide)
      exact J31 x1 (q_r.mono r_8 (by decide)) hF
    intro c22
    have r_9 := q_rle r_3 rl_9999 g_2.2
    replace hF := fx_eq1 hF rfl tl_m1 c22
    refine q_bipush (pc := 25) hG dX12_dew_25 kb_m2 ?_
    refine q_goto (pc := 27) 31 hG dX12_dew_27 rfl ?_
    refine q_lv [] rfl ?_
    exact J31 (-2) (q_r.mono rl_m2 (by decide)) (by rw [tl_m2]; exact hF)
  intro c8
  replace hF := fx_eq1 hF rfl rfl c8
  refine q_iconst (pc := 11) hG dX12_dew_11 ki_0 ?_
  have r_10 := q_zeq c8
  exact q_zrt hG hE dX12_dew_12 (q_r.mono rl_0 (by decide)) ⟨hS0, (q_r.mono rl_0 (by decide)), (by rw [tl_0]; exact fx_end hF hF0), (fun bn hbn => by cases hbn.symm.trans q_1f; exact fx_kr.rf), (by have o0 := p5.2.2; have o1 := c8; have o2 := r_10; have l3 := tl_m1; have l4 := tl_0; have l5 := tl_9999; unfold q_r at o2; omega)⟩
theorem dX12_burns_0 : decode cX12_burns 0 = .ok (.aload_n 0, 1) := by decide +kernel
theorem dX12_burns_1 : decode cX12_burns 1 = .ok (.iload_n 1, 1) := by decide +kernel
theorem dX12_burns_2 : decode cX12_burns 2 = .ok (.invokevirtual 110, 3) := by decide +kernel
theorem dX12_burns_5 : decode cX12_burns 5 = .ok (.ifCond .eq 16, 3) := by decide +kernel
theorem dX12_burns_8 : decode cX12_burns 8 = .ok (.aload_n 0, 1) := by decide +kernel
theorem dX12_burns_9 : decode cX12_burns 9 = .ok (.iload_n 2, 1) := by decide +kernel
theorem dX12_burns_10 : decode cX12_burns 10 = .ok (.invokevirtual 110, 3) := by decide +kernel
theorem dX12_burns_13 : decode cX12_burns 13 = .ok (.ifCond .eq 8, 3) := by decide +kernel
theorem dX12_burns_16 : decode cX12_burns 16 = .ok (.iload_n 1, 1) := by decide +kernel
theorem dX12_burns_17 : decode cX12_burns 17 = .ok (.iload_n 2, 1) := by decide +kernel
theorem dX12_burns_18 : decode cX12_burns 18 = .ok (.if_icmp .le 5, 3) := by decide +kernel
theorem dX12_burns_21 : decode cX12_burns 21 = .ok (.iconst (-1), 1) := by decide +kernel
theorem dX12_burns_22 : decode cX12_burns 22 = .ok (.ireturn, 1) := by decide +kernel
theorem dX12_burns_23 : decode cX12_burns 23 = .ok (.iconst 0, 1) := by decide +kernel
theorem dX12_burns_24 : decode cX12_burns 24 = .ok (.istore_n 3, 1) := by decide +kernel
theorem dX12_burns_25 : decode cX12_burns 25 = .ok (.iload_n 1, 1) := by decide +kernel
theorem dX12_burns_26 : decode cX12_burns 26 = .ok (.istore 4, 2) := by decide +kernel
theorem dX12_burns_28 : decode cX12_burns 28 = .ok (.iload 4, 2) := by decide +kernel
theorem dX12_burns_30 : decode cX12_burns 30 = .ok (.iload_n 2, 1) := by decide +kernel
theorem dX12_burns_31 : decode cX12_burns 31 = .ok (.if_icmp .gt 76, 3) := by decide +kernel
theorem dX12_burns_34 : decode cX12_burns 34 = .ok (.iload_n 3, 1) := by decide +kernel
theorem dX12_burns_35 : decode cX12_burns 35 = .ok (.aload_n 0, 1) := by decide +kernel
theorem dX12_burns_36 : decode cX12_burns 36 = .ok (.iload 4, 2) := by decide +kernel
theorem dX12_burns_38 : decode cX12_burns 38 = .ok (.invokevirtual 116, 3) := by decide +kernel
theorem dX12_burns_41 : decode cX12_burns 41 = .ok (.ifCond .eq 7, 3) := by decide +kernel
theorem dX12_burns_44 : decode cX12_burns 44 = .ok (.iconst 1, 1) := by decide +kernel
theorem dX12_burns_45 : decode cX12_burns 45 = .ok (.goto 4, 3) := by decide +kernel
theorem dX12_burns_48 : decode cX12_burns 48 = .ok (.iconst 0, 1) := by decide +kernel
theorem dX12_burns_49 : decode cX12_burns 49 = .ok (.iadd, 1) := by decide +kernel
theorem dX12_burns_50 : decode cX12_burns 50 = .ok (.istore_n 3, 1) := by decide +kernel
theorem dX12_burns_51 : decode cX12_burns 51 = .ok (.aload_n 0, 1) := by decide +kernel
theorem dX12_burns_52 : decode cX12_burns 52 = .ok (.iload 4, 2) := by decide +kernel
theorem dX12_burns_54 : decode cX12_burns 54 = .ok (.invokevirtual 106, 3) := by decide +kernel
theorem dX12_burns_57 : decode cX12_burns 57 = .ok (.iconst 0, 1) := by decide +kernel
theorem dX12_burns_58 : decode cX12_burns 58 = .ok (.istore 5, 2) := by decide +kernel
theorem dX12_burns_60 : decode cX12_burns 60 = .ok (.iload 5, 2) := by decide +kernel
theorem dX12_burns_62 : decode cX12_burns 62 = .ok (.iconst 2, 1) := by decide +kernel
theorem dX12_burns_63 : decode cX12_burns 63 = .ok (.if_icmp .ge 38, 3) := by decide +kernel
theorem dX12_burns_66 : decode cX12_burns 66 = .ok (.aload_n 0, 1) := by decide +kernel
theorem dX12_burns_67 : decode cX12_burns 67 = .ok (.getfield 7, 3) := by decide +kernel
theorem dX12_burns_70 : decode cX12_burns 70 = .ok (.sipush 520, 3) := by decide +kernel
theorem dX12_burns_73 : decode cX12_burns 73 = .ok (.iload 5, 2) := by decide +kernel
theorem dX12_burns_75 : decode cX12_burns 75 = .ok (.iadd, 1) := by decide +kernel
theorem dX12_burns_76 : decode cX12_burns 76 = .ok (.iaload, 1) := by decide +kernel
theorem dX12_burns_77 : decode cX12_burns 77 = .ok (.iload 4, 2) := by decide +kernel
theorem dX12_burns_79 : decode cX12_burns 79 = .ok (.if_icmp .ne 16, 3) := by decide +kernel
theorem dX12_burns_82 : decode cX12_burns 82 = .ok (.aload_n 0, 1) := by decide +kernel
theorem dX12_burns_83 : decode cX12_burns 83 = .ok (.getfield 7, 3) := by decide +kernel
theorem dX12_burns_86 : decode cX12_burns 86 = .ok (.sipush 520, 3) := by decide +kernel
theorem dX12_burns_89 : decode cX12_burns 89 = .ok (.iload 5, 2) := by decide +kernel
theorem dX12_burns_91 : decode cX12_burns 91 = .ok (.iadd, 1) := by decide +kernel
theorem dX12_burns_92 : decode cX12_burns 92 = .ok (.bipush (-2), 2) := by decide +kernel
theorem dX12_burns_94 : decode cX12_burns 94 = .ok (.iastore, 1) := by decide +kernel
theorem dX12_burns_95 : decode cX12_burns 95 = .ok (.iinc 5 1, 3) := by decide +kernel
theorem dX12_burns_98 : decode cX12_burns 98 = .ok (.goto (-38), 3) := by decide +kernel
theorem dX12_burns_101 : decode cX12_burns 101 = .ok (.iinc 4 1, 3) := by decide +kernel
theorem dX12_burns_104 : decode cX12_burns 104 = .ok (.goto (-76), 3) := by decide +kernel
theorem dX12_burns_107 : decode cX12_burns 107 = .ok (.iload_n 3, 1) := by decide +kernel
theorem dX12_burns_108 : decode cX12_burns 108 = .ok (.ireturn, 1) := by decide +kernel
def md_X12_burns : List (Nat × Nat) := [(100, 0)]
set_option maxRecDepth 100000 in
set_option maxHeartbeats 4000000 in
theorem c_X12_burns {l : Launch} {D : q_D} (τ : q_T) (σ : q_V) (a0 : Nat) (x1 : Int32) (x2 : Int32) (hI : q_I τ σ) (tA0 : τ a0 = some (10, 1)) : q_Ci l D yX12_burns cX12_burns 6 (some .int) 1 21 τ σ [.ref a0, .int x1, .int x2] (fun r σ1 => q_S md_X12_burns τ σ σ1 ∧ (q_r r (-2147483648) 2147483647) ∧ ((r.toInt, fx_N σ1) = f_X12_burns (fx_N σ) a0 x1.toInt x2.toInt) ∧ (∀ bn : Nat, σ a0 0 = .ref bn → fx_kr σ σ1 bn)) := by
  refine q_meti rfl (Nat.le_of_ble_eq_true rfl) (fun X hG hE => ?_)
  show q_O X 0 0 τ σ 0 [(0, .ref a0), (1, .int x1), (2, .int x2)] []
  have hS0 : q_S md_X12_burns τ σ σ := q_S.rf hI
  obtain ⟨Fv, hF⟩ : ∃ z, fx_eq z (f_X12_burns (fx_N σ) a0 x1.toInt x2.toInt) := ⟨_, fx_rf⟩
  have hF0 := hF
  unfold f_X12_burns at hF
  obtain ⟨q_1b, q_1f, q_1T⟩ := (hI a0 10 1 tA0 0 (by decide)).ref (k := 100) (n := 549) rfl
  replace hF := fx_R hF q_1f rfl
  refine q_aload_n (pc := 0) hG dX12_burns_0 0 rfl ?_
  refine q_iload_n (pc := 1) hG dX12_burns_1 1 rfl ?_
  refine q_pV (pc := 2) [.int x1] [] hG (c_X12_isDot τ σ a0 x1 hI tA0) my_X12_isDot mv_X12_isDot w836 dX12_burns_2 tA0 (by decide) rfl rfl (Nat.le_of_ble_eq_true rfl) (by decide) (fun v2 p2 => ?_)
  replace hF := fx_E hF p2.2.1
  obtain ⟨q_2v, q_2f, q_2r⟩ := (hI q_1b 100 549 q_1T 512 (by decide)).int (lo := 8) (hi := 64) rfl
  have q_2g : σ q_1b (512 : Int32).toInt.toNat = .int q_2v := q_2f
  replace hF := fx_I hF q_2g (congrArg Int.toNat tl_512)
  refine q_if_eq (pc := 5) hG 21 dX12_burns_5 rfl ?_ ?_
  · intro c5
    replace hF := fx_eq1 hF rfl rfl c5
    refine q_iconst (pc := 21) hG dX12_burns_21 ki_m1 ?_
    exact q_irt hG hE dX12_burns_22 ⟨hS0, (q_r.mono rl_m1 (by decide)), (by rw [tl_m1]; exact fx_end hF hF0), (fun bn hbn => by cases hbn.symm.trans q_1f; exact fx_kr.rf)⟩
  intro c5
  have g_3 := p2.2.2.1 (q_one p2.1 c5)
  have r_4 := q_rge (q_r_any x1) rl_0 (show (0 : Int32).toInt ≤ _ from g_3.1)
  have r_5 := q_rle r_4 rl_63 (show _ ≤ (63 : Int32).toInt from g_3.2.1)
  replace hF := fx_eq2 hF rfl rfl c5
  refine q_aload_n (pc := 8) hG dX12_burns_8 0 rfl ?_
  refine q_iload_n (pc := 9) hG dX12_burns_9 2 rfl ?_
  refine q_pV (pc := 10) [.int x2] [] hG (c_X12_isDot τ σ a0 x2 hI tA0) my_X12_isDot mv_X12_isDot w836 dX12_burns_10 tA0 (by decide) rfl rfl (Nat.le_of_ble_eq_true rfl) (by decide) (fun v10 p10 => ?_)
  replace hF := fx_E hF p10.2.1
  refine q_if_eq (pc := 13) hG 21 dX12_burns_13 rfl ?_ ?_
  · intro c13
    replace hF := fx_eq1 hF rfl rfl c13
    refine q_iconst (pc := 21) hG dX12_burns_21 ki_m1 ?_
    exact q_irt hG hE dX12_burns_22 ⟨hS0, (q_r.mono rl_m1 (by decide)), (by rw [tl_m1]; exact fx_end hF hF0), (fun bn hbn => by cases hbn.symm.trans q_1f; exact fx_kr.rf)⟩
  intro c13
  have g_6 := p10.2.2.1 (q_one p10.1 c13)
  have r_7 := q_rge (q_r_any x2) rl_0 (show (0 : Int32).toInt ≤ _ from g_6.1)
  have r_8 := q_rle r_7 rl_63 (show _ ≤ (63 : Int32).toInt from g_6.2.1)
  replace hF := fx_eq2 hF rfl rfl c13
  refine q_iload_n (pc := 16) hG dX12_burns_16 1 rfl ?_
  refine q_iload_n (pc := 17) hG dX12_burns_17 2 rfl ?_
  refine q_icmp_le (pc := 18) hG 23 dX12_burns_18 rfl ?_ ?_
  · intro c18
    replace hF := fx_lt2 hF rfl rfl c18
    refine q_iconst (pc := 23) hG dX12_burns_23 ki_0 ?_
    refine q_istore_n (pc := 24) [(3, .int 0), (0, .ref a0), (1, .int x1), (2, .int x2)] hG dX12_burns_24 (by decide) rfl ?_
    refine q_iload_n (pc := 25) hG dX12_burns_25 2 rfl ?_
    refine q_istore (pc := 26) [(4, .int x1), (3, .int 0), (0, .ref a0), (1, .int x1), (2, .int x2)] hG dX12_burns_26 (by decide) rfl ?_
    have J28 : ∀ (n28 : Nat) (p28_3 : Int32) (p28_4 : Int32) (σ28 : q_V), (q_r p28_4 0 64) → (q_S md_X12_burns τ σ σ28) → (fx_kr σ σ28 q_1b) → (fx_eq Fv (kL_X12_burns_28 x2.toInt a0 q_1b n28 p28_3.toInt p28_4.toInt (fx_N σ28))) → ((64 - p28_4.toInt).toNat < n28) → q_O X 0 0 τ σ28 28 [(0, .ref a0), (2, .int x2), (3, .int p28_3), (4, .int p28_4)] [] := by
      intro n28
      induction n28 with
      | zero => intro p28_3 p28_4 σ28 r28_4 hS28 iKR28 hF hm28; exact absurd hm28 (Nat.not_lt_zero _)
      | succ n28 ih28 =>
        intro p28_3 p28_4 σ28 r28_4 hS28 iKR28 hF hm28
        replace hF := (show fx_eq Fv (kB_X12_burns_28 (kL_X12_burns_28 x2.toInt a0 q_1b n28) x2.toInt a0 q_1b p28_3.toInt p28_4.toInt (fx_N σ28)) from hF)
        unfold kB_X12_burns_28 at hF
        refine q_iload (pc := 28) hG dX12_burns_28 3 rfl ?_
        refine q_iload_n (pc := 30) hG dX12_burns_30 1 rfl ?_
        refine q_icmp_gt (pc := 31) hG 107 dX12_burns_31 rfl ?_ ?_
        · intro c31
          replace hF := fx_lt1 hF rfl rfl c31
          refine q_iload_n (pc := 107) hG dX12_burns_107 2 rfl ?_
          exact q_irt hG hE dX12_burns_108 ⟨hS28, (q_r_any p28_3), (fx_end hF hF0), (fun bn hbn => by cases hbn.symm.trans q_1f; exact iKR28)⟩
        intro c31
        replace hF := fx_lt2 hF rfl rfl c31
        refine q_iload_n (pc := 34) hG dX12_burns_34 2 rfl ?_
        refine q_aload_n (pc := 35) hG dX12_burns_35 0 rfl ?_
        refine q_iload (pc := 36) hG dX12_burns_36 3 rfl ?_
        have r_9 := q_rle r28_4 r_8 c31
        refine q_pV (pc := 38) [.int p28_4] [.int p28_3] hG (c_X12_isPainted τ σ28 a0 p28_4 hS28.1 tA0 r_9) my_X12_isPainted mv_X12_isPainted w862 dX12_burns_38 tA0 (by decide) rfl rfl (Nat.le_of_ble_eq_true rfl) (by decide) (fun v38 p38 => ?_)
        replace hF := fx_E hF p38.2
        have J49 : ∀ (p49_s0 : Int32), (q_r p49_s0 0 1) → (fx_eq Fv (kJ_X12_burns_49 p28_3.toInt (fx_N σ28) a0 p28_4.toInt q_1b (kL_X12_burns_28 x2.toInt a0 q_1b n28) p49_s0.toInt)) → q_O X 0 0 τ σ28 49 [(0, .ref a0), (2, .int x2), (4, .int p28_4)] [.int p49_s0, .int p28_3] := by
          intro p49_s0 r49_s0 hF
          unfold kJ_X12_burns_49 at hF
          refine q_iadd (pc := 49) hG dX12_burns_49 (fun v49 e49 => ?_)
          replace hF := fx_B_add hF rfl rfl e49
          refine q_istore_n (pc := 50) [(3, .int v49), (0, .ref a0), (2, .int x2), (4, .int p28_4)] hG dX12_burns_50 (by decide) rfl ?_
          refine q_aload_n (pc := 51) hG dX12_burns_51 1 rfl ?_
          refine q_iload (pc := 52) hG dX12_burns_52 3 rfl ?_
          refine q_cVv (pc := 54) [.int p28_4] [] hG (c_X12_bares τ σ28 a0 p28_4 hS28.1 tA0 r_9) my_X12_bares mv_X12_bares w780 dX12_burns_54 tA0 (by decide) rfl rfl (Nat.le_of_ble_eq_true rfl) (by decide) (fun s54 p54 => ?_)
          have w54 := hS28.trans p54.1 rfl
          replace hF := fx_S hF p54.2.1
          refine q_iconst (pc := 57) hG dX12_burns_57 ki_0 ?_
          refine q_istore (pc := 58) [(5, .int 0), (3, .int v49), (0, .ref a0), (2, .int x2), (4, .int p28_4)] hG dX12_burns_58 (by decide) rfl ?_
          have J60 : ∀ (n60 : Nat) (p60_5 : Int32) (σ60 : q_V), (q_r p60_5 0 2) → (q_S md_X12_burns τ σ σ60) → (fx_kr σ σ60 q_1b) → (fx_eq Fv (kL_X12_burns_60 q_1b p28_4.toInt (kL_X12_burns_28 x2.toInt a0 q_1b n28) v49.toInt n60 p60_5.toInt (fx_N σ60))) → ((2 - p60_5.toInt).toNat < n60) → q_O X 0 0 τ σ60 60 [(0, .ref a0), (2, .int x2), (3, .int v49), (4, .int p28_4), (5, .int p60_5)] [] := by
            intro n60
            induction n60 with
            | zero => intro p60_5 σ60 r60_5 hS60 iKR60 hF hm60; exact absurd hm60 (Nat.not_lt_zero _)
            | succ n60 ih60 =>
              intro p60_5 σ60 r60_5 hS60 iKR60 hF hm60
              replace hF := (show fx_eq Fv (kB_X12_burns_60 (kL_X12_burns_60 q_1b p28_4.toInt (kL_X12_burns_28 x2.toInt a0 q_1b n28) v49.toInt n60) q_1b p28_4.toInt (kL_X12_burns_28 x2.toInt a0 q_1b n28) v49.toInt p60_5.toInt (fx_N σ60)) from hF)
              unfold kB_X12_burns_60 at hF
              refine q_iload (pc := 60) hG dX12_burns_60 4 rfl ?_
              refine q_iconst (pc := 62) hG dX12_burns_62 ki_2 ?_
              refine q_icmp_ge (pc := 63) hG 101 dX12_burns_63 rfl ?_ ?_
              · intro c63
                replace hF := fx_lt2 hF rfl tl_2 c63
                obtain ⟨v101, e101⟩ : ∃ z : Int32, z = p28_4 + Int32.ofInt 1 := ⟨_, rfl⟩
                have h101 := q_incN (lo := 1) (hi := 64) r_9 (by decide) (by decide) e101
                replace hF := fx_add hF rfl rfl h101.1
                refine q_iinc (pc := 101) [(4, .int v101), (0, .ref a0), (2, .int x2), (3, .int v49), (5, .int p60_5)] hG dX12_burns_101 3 rfl e101 (by decide) rfl ?_
                refine q_goto (pc := 104) 28 hG dX12_burns_104 rfl ?_
                refine q_lv [1, 2, 3, 0] rfl ?_
                exact ih28 v49 v101 σ60 (q_r.mono h101.2 (by decide)) hS60 iKR60 hF (q_measU hm28 (by have o0 := c31; have o1 := h101.1; have o2 := (show (0 : Int32).toInt ≤ _ from g_6.1); have o3 := (show _ ≤ (63 : Int32).toInt from g_6.2.1); have o4 := (g_6.2.2 q_1b q_2v q_1f (show σ q_1b 512 = _ from q_2g)); have o5 := c18; have o6 := (show (0 : Int32).toInt ≤ _ from g_3.1); have o7 := (show _ ≤ (63 : Int32).toInt from g_3.2.1); have o8 := (g_3.2.2 q_1b q_2v q_1f (show σ q_1b 512 = _ from q_2g)); have o9 := r_9; have o10 := q_2r; have o11 := h101.2; have o12 := r_5; have o13 := r_8; have l14 := tl_0; have l15 := tl_63; unfold q_r at o9 o10 o11 o12 o13; omega) (h101.2).2)
              intro c63
              replace hF := fx_lt1 hF rfl tl_2 c63
              refine q_aload_n (pc := 66) hG dX12_burns_66 0 rfl ?_
              refine q_getV (pc := 67) (v := .ref q_1b) hG fl_X12_7 dX12_burns_67 tA0 (hS60.same tA0 rfl q_1f) ?_
              refine q_sipush (pc := 70) hG dX12_burns_70 ks_520 ?_
              refine q_iload (pc := 73) hG dX12_burns_73 4 rfl ?_
              refine q_iadd (pc := 75) hG dX12_burns_75 (fun v75 e75 => ?_)
              have r_10 := q_rlt r60_5 rl_2 c63 1 (by decide)
              replace hF := fx_add hF tl_520 rfl (q_addN (lo := 520) (hi := 521) e75 rl_520 r_10 (by decide)).1
              have r_11 := (q_addN (lo := 520) (hi := 521) e75 rl_520 r_10 (by decide)).2
              refine q_nald3 (pc := 76) (a1 := -2) (a2 := 63) hG dX12_burns_76 hS60.1 q_1T (q_ix r_11 (by decide)) (q_npaint r_11 (by decide)) (fun v76 f76 g76 n76 => ?_)
              replace hF := fx_I hF f76 rfl
              refine q_iload (pc := 77) hG dX12_burns_77 3 rfl ?_
              have J95 : ∀ (σ95 : q_V), (q_S md_X12_burns τ σ σ95) → (fx_kr σ σ95 q_1b) → (fx_eq Fv (kJ_X12_burns_95 p60_5.toInt (kL_X12_burns_60 q_1b p28_4.toInt (kL_X12_burns_28 x2.toInt a0 q_1b n28) v49.toInt n60) (fx_N σ95))) → q_O X 0 0 τ σ95 95 [(0, .ref a0), (2, .int x2), (3, .int v49), (4, .int p28_4), (5, .int p60_5)] [] := by
                intro σ95 hS95 iKR95 hF
                unfold kJ_X12_burns_95 at hF
                obtain ⟨v95, e95⟩ : ∃ z : Int32, z = p60_5 + Int32.ofInt 1 := ⟨_, rfl⟩
                have h95 := q_incN (lo := 1) (hi := 2) r_10 (by decide) (by decide) e95
                replace hF := fx_add hF rfl rfl h95.1
                refine q_iinc (pc := 95) [(5, .int v95), (0, .ref a0), (2, .int x2), (3, .int v49), (4, .int p28_4)] hG dX12_burns_95 4 rfl e95 (by decide) rfl ?_
                refine q_goto (pc := 98) 60 hG dX12_burns_98 rfl ?_
                refine q_lv [1, 2, 3, 4, 0] rfl ?_
                exact ih60 v95 σ95 (q_r.mono h95.2 (by decide)) hS95 iKR95 hF (q_measU hm60 (by have o0 := c63; have o1 := (q_addN (lo := 520) (hi := 521) e75 rl_520 r_10 (by decide)).1; have o2 := h95.1; have o3 := r_10; have o4 := r_11; have o5 := h95.2; have l6 := tl_2; have l7 := tl_520; unfold q_r at o3 o4 o5; omega) (h95.2).2)
              refine q_icmp_ne (pc := 79) hG 95 dX12_burns_79 rfl ?_ ?_
              · intro c79
                replace hF := fx_eq2 hF rfl rfl c79
                refine q_lv [0, 1, 2, 3, 4] rfl ?_
                exact J95 σ60 hS60 iKR60 hF
              intro c79
              replace hF := fx_eq1 hF rfl rfl c79
              refine q_aload_n (pc := 82) hG dX12_burns_82 0 rfl ?_
              refine q_getV (pc := 83) (v := .ref q_1b) hG fl_X12_7 dX12_burns_83 tA0 (hS60.same tA0 rfl q_1f) ?_
              refine q_sipush (pc := 86) hG dX12_burns_86 ks_520 ?_
              refine q_iload (pc := 89) hG dX12_burns_89 4 rfl ?_
              refine q_iadd (pc := 91) hG dX12_burns_91 (fun v91 e91 => ?_)
              rw [e91.trans e75.symm]
              refine q_bipush (pc := 92) hG dX12_burns_92 kb_m2 ?_
              refine q_nast3 (pc := 94) hG dX12_burns_94 hS60 q_1T (q_ix r_11 (by decide)) (q_npaint r_11 (by decide)) rl_m2 (by decide) (by have l0 := tl_m2; omega) rfl (fun s94 u94 w94 => ?_)
              replace hF := fx_P hF u94 rfl tl_m2
              have m94 : s94 q_1b v75.toInt.toNat = .int (-2) := by rw [u94]; exact q_up_same
              refine q_lv [0, 1, 2, 3, 4] rfl ?_
              have kr_12 : fx_kr σ s94 q_1b := (fx_kr.P iKR60 u94 r_11 (by decide))
              exact J95 s94 w94 kr_12 hF
          refine q_lv [2, 3, 1, 4, 0] rfl ?_
          have kr_13 : fx_kr σ s54 q_1b := (fx_kr.T iKR28 (p54.2.2 q_1b (hS28.same tA0 rfl q_1f)))
          exact J60 ((2 - (0 : Int32).toInt).toNat + 1) 0 s54 (q_r.mono rl_0 (by decide)) w54 kr_13 (by rw [tl_0]; exact hF) (Nat.lt_succ_self _)
        refine q_if_eq (pc := 41) hG 48 dX12_burns_41 rfl ?_ ?_
        · intro c41
          replace hF := fx_eq1 hF rfl rfl c41
          refine q_iconst (pc := 48) hG dX12_burns_48 ki_0 ?_
          refine q_lv [0, 1, 3] rfl ?_
          exact J49 0 (q_r.mono rl_0 (by decide)) (by rw [tl_0]; exact hF)
        intro c41
        replace hF := fx_eq2 hF rfl rfl c41
        refine q_iconst (pc := 44) hG dX12_burns_44 ki_1 ?_
        refine q_goto (pc := 45) 49 hG dX12_burns_45 rfl ?_
        refine q_lv [0, 1, 3] rfl ?_
        exact J49 1 (q_r.mono rl_1 (by decide)) (by rw [tl_1]; exact hF)
    refine q_lv [2, 4, 1, 0] rfl ?_
    exact J28 ((64 - x1.toInt).toNat + 1) 0 x1 σ (q_r.mono r_5 (by decide)) hS0 fx_kr.rf (by rw [tl_0]; exact hF) (Nat.lt_succ_self _)
  intro c18
  replace hF := fx_lt1 hF rfl rfl c18
  refine q_iconst (pc := 21) hG dX12_burns_21 ki_m1 ?_
  exact q_irt hG hE dX12_burns_22 ⟨hS0, (q_r.mono rl_m1 (by decide)), (by rw [tl_m1]; exact fx_end hF hF0), (fun bn hbn => by cases hbn.symm.trans q_1f; exact fx_kr.rf)⟩
theorem dX12_feels_0 : decode cX12_feels 0 = .ok (.aload_n 0, 1) := by decide +kernel
theorem dX12_feels_1 : decode cX12_feels 1 = .ok (.getfield 62, 3) := by decide +kernel
theorem dX12_feels_4 : decode cX12_feels 4 = .ok (.iconst 0, 1) := by decide +kernel
theorem dX12_feels_5 : decode cX12_feels 5 = .ok (.iload_n 1, 1) := by decide +kernel
theorem dX12_feels_6 : decode cX12_feels 6 = .ok (.iastore, 1) := by decide +kernel
theorem dX12_feels_7 : decode cX12_feels 7 = .ok (.aload_n 0, 1) := by decide +kernel
theorem dX12_feels_8 : decode cX12_feels 8 = .ok (.getfield 62, 3) := by decide +kernel
theorem dX12_feels_11 : decode cX12_feels 11 = .ok (.iconst 1, 1) := by decide +kernel
theorem dX12_feels_12 : decode cX12_feels 12 = .ok (.aload_n 0, 1) := by decide +kernel
theorem dX12_feels_13 : decode cX12_feels 13 = .ok (.getfield 7, 3) := by decide +kernel
theorem dX12_feels_16 : decode cX12_feels 16 = .ok (.sipush 512, 3) := by decide +kernel
theorem dX12_feels_19 : decode cX12_feels 19 = .ok (.iaload, 1) := by decide +kernel
theorem dX12_feels_20 : decode cX12_feels 20 = .ok (.iastore, 1) := by decide +kernel
theorem dX12_feels_21 : decode cX12_feels 21 = .ok (.aload_n 0, 1) := by decide +kernel
theorem dX12_feels_22 : decode cX12_feels 22 = .ok (.getfield 62, 3) := by decide +kernel
theorem dX12_feels_25 : decode cX12_feels 25 = .ok (.iconst 2, 1) := by decide +kernel
theorem dX12_feels_26 : decode cX12_feels 26 = .ok (.aload_n 0, 1) := by decide +kernel
theorem dX12_feels_27 : decode cX12_feels 27 = .ok (.getfield 7, 3) := by decide +kernel
theorem dX12_feels_30 : decode cX12_feels 30 = .ok (.iconst 0, 1) := by decide +kernel
theorem dX12_feels_31 : decode cX12_feels 31 = .ok (.iload_n 1, 1) := by decide +kernel
theorem dX12_feels_32 : decode cX12_feels 32 = .ok (.iadd, 1) := by decide +kernel
theorem dX12_feels_33 : decode cX12_feels 33 = .ok (.iaload, 1) := by decide +kernel
theorem dX12_feels_34 : decode cX12_feels 34 = .ok (.iastore, 1) := by decide +kernel
theorem dX12_feels_35 : decode cX12_feels 35 = .ok (.aload_n 0, 1) := by decide +kernel
theorem dX12_feels_36 : decode cX12_feels 36 = .ok (.getfield 62, 3) := by decide +kernel
theorem dX12_feels_39 : decode cX12_feels 39 = .ok (.iconst 3, 1) := by decide +kernel
theorem dX12_feels_40 : decode cX12_feels 40 = .ok (.aload_n 0, 1) := by decide +kernel
theorem dX12_feels_41 : decode cX12_feels 41 = .ok (.getfield 7, 3) := by decide +kernel
theorem dX12_feels_44 : decode cX12_feels 44 = .ok (.bipush 64, 2) := by decide +kernel
theorem dX12_feels_46 : decode cX12_feels 46 = .ok (.iload_n 1, 1) := by decide +kernel
theorem dX12_feels_47 : decode cX12_feels 47 = .ok (.iadd, 1) := by decide +kernel
theorem dX12_feels_48 : decode cX12_feels 48 = .ok (.iaload, 1) := by decide +kernel
theorem dX12_feels_49 : decode cX12_feels 49 = .ok (.iastore, 1) := by decide +kernel
theorem dX12_feels_50 : decode cX12_feels 50 = .ok (.aload_n 0, 1) := by decide +kernel
theorem dX12_feels_51 : decode cX12_feels 51 = .ok (.getfield 62, 3) := by decide +kernel
theorem dX12_feels_54 : decode cX12_feels 54 = .ok (.iconst 4, 1) := by decide +kernel
theorem dX12_feels_55 : decode cX12_feels 55 = .ok (.aload_n 0, 1) := by decide +kernel
theorem dX12_feels_56 : decode cX12_feels 56 = .ok (.getfield 7, 3) := by decide +kernel
theorem dX12_feels_59 : decode cX12_feels 59 = .ok (.sipush 128, 3) := by decide +kernel
theorem dX12_feels_62 : decode cX12_feels 62 = .ok (.iload_n 1, 1) := by decide +kernel
theorem dX12_feels_63 : decode cX12_feels 63 = .ok (.iadd, 1) := by decide +kernel
theorem dX12_feels_64 : decode cX12_feels 64 = .ok (.iaload, 1) := by decide +kernel
theorem dX12_feels_65 : decode cX12_feels 65 = .ok (.iastore, 1) := by decide +kernel
theorem dX12_feels_66 : decode cX12_feels 66 = .ok (.aload_n 0, 1) := by decide +kernel
theorem dX12_feels_67 : decode cX12_feels 67 = .ok (.getfield 62, 3) := by decide +kernel
theorem dX12_feels_70 : decode cX12_feels 70 = .ok (.iconst 5, 1) := by decide +kernel
theorem dX12_feels_71 : decode cX12_feels 71 = .ok (.iload_n 2, 1) := by decide +kernel
theorem dX12_feels_72 : decode cX12_feels 72 = .ok (.iastore, 1) := by decide +kernel
theorem dX12_feels_73 : decode cX12_feels 73 = .ok (.aload_n 0, 1) := by decide +kernel
theorem dX12_feels_74 : decode cX12_feels 74 = .ok (.getfield 62, 3) := by decide +kernel
theorem dX12_feels_77 : decode cX12_feels 77 = .ok (.bipush 6, 2) := by decide +kernel
theorem dX12_feels_79 : decode cX12_feels 79 = .ok (.iload_n 1, 1) := by decide +kernel
theorem dX12_feels_80 : decode cX12_feels 80 = .ok (.ifCond .ne 7, 3) := by decide +kernel
theorem dX12_feels_83 : decode cX12_feels 83 = .ok (.iconst 0, 1) := by decide +kernel
theorem dX12_feels_84 : decode cX12_feels 84 = .ok (.goto 25, 3) := by decide +kernel
theorem dX12_feels_87 : decode cX12_feels 87 = .ok (.aload_n 0, 1) := by decide +kernel
theorem dX12_feels_88 : decode cX12_feels 88 = .ok (.getfield 7, 3) := by decide +kernel
theorem dX12_feels_91 : decode cX12_feels 91 = .ok (.iconst 0, 1) := by decide +kernel
theorem dX12_feels_92 : decode cX12_feels 92 = .ok (.iload_n 1, 1) := by decide +kernel
theorem dX12_feels_93 : decode cX12_feels 93 = .ok (.iadd, 1) := by decide +kernel
theorem dX12_feels_94 : decode cX12_feels 94 = .ok (.iaload, 1) := by decide +kernel
theorem dX12_feels_95 : decode cX12_feels 95 = .ok (.aload_n 0, 1) := by decide +kernel
theorem dX12_feels_96 : decode cX12_feels 96 = .ok (.getfield 7, 3) := by decide +kernel
theorem dX12_feels_99 : decode cX12_feels 99 = .ok (.iconst 0, 1) := by decide +kernel
theorem dX12_feels_100 : decode cX12_feels 100 = .ok (.iload_n 1, 1) := by decide +kernel
theorem dX12_feels_101 : decode cX12_feels 101 = .ok (.iadd, 1) := by decide +kernel
theorem dX12_feels_102 : decode cX12_feels 102 = .ok (.iconst 1, 1) := by decide +kernel
theorem dX12_feels_103 : decode cX12_feels 103 = .ok (.isub, 1) := by decide +kernel
theorem dX12_feels_104 : decode cX12_feels 104 = .ok (.iaload, 1) := by decide +kernel
theorem dX12_feels_105 : decode cX12_feels 105 = .ok (.isub, 1) := by decide +kernel
theorem dX12_feels_106 : decode cX12_feels 106 = .ok (.invokestatic 218, 3) := by decide +kernel
theorem dX12_feels_109 : decode cX12_feels 109 = .ok (.iastore, 1) := by decide +kernel
theorem dX12_feels_110 : decode cX12_feels 110 = .ok (.aload_n 0, 1) := by decide +kernel
theorem dX12_feels_111 : decode cX12_feels 111 = .ok (.getfield 62, 3) := by decide +kernel
theorem dX12_feels_114 : decode cX12_feels 114 = .ok (.bipush 7, 2) := by decide +kernel
theorem dX12_feels_116 : decode cX12_feels 116 = .ok (.iload_n 3, 1) := by decide +kernel
theorem dX12_feels_117 : decode cX12_feels 117 = .ok (.iastore, 1) := by decide +kernel
theorem dX12_feels_118 : decode cX12_feels 118 = .ok (.aload_n 0, 1) := by decide +kernel
theorem dX12_feels_119 : decode cX12_feels 119 = .ok (.getfield 62, 3) := by decide +kernel
theorem dX12_feels_122 : decode cX12_feels 122 = .ok (.bipush 8, 2) := by decide +kernel
theorem dX12_feels_124 : decode cX12_feels 124 = .ok (.iload 4, 2) := by decide +kernel
theorem dX12_feels_126 : decode cX12_feels 126 = .ok (.ifCond .eq 7, 3) := by decide +kernel
theorem dX12_feels_129 : decode cX12_feels 129 = .ok (.iconst 1, 1) := by decide +kernel
theorem dX12_feels_130 : decode cX12_feels 130 = .ok (.goto 4, 3) := by decide +kernel
theorem dX12_feels_133 : decode cX12_feels 133 = .ok (.iconst 0, 1) := by decide +kernel
theorem dX12_feels_134 : decode cX12_feels 134 = .ok (.iastore, 1) := by decide +kernel
theorem dX12_feels_135 : decode cX12_feels 135 = .ok (.return_, 1) := by decide +kernel
def md_X12_feels : List (Nat × Nat) := [(163, 0)]
set_option maxRecDepth 100000 in
set_option maxHeartbeats 4000000 in
theorem c_X12_feels {l : Launch} {D : q_D} (τ : q_T) (σ : q_V) (a0 : Nat) (x1 : Int32) (x2 : Int32) (x3 : Int32) (x4 : Int32) (hI : q_I τ σ) (tA0 : τ a0 = some (10, 1)) (rA1 : q_r x1 0 63) (rA4 : q_r x4 0 1) : q_Cv l D yX12_feels cX12_feels 5 none 1 20 τ σ [.ref a0, .int x1, .int x2, .int x3, .int x4] (fun σ1 => q_S md_X12_feels τ σ σ1 ∧ (fx_N σ1 = f_X12_feels (fx_N σ) a0 x1.toInt x2.toInt x3.toInt x4.toInt)) := by
  refine q_metv rfl (Nat.le_of_ble_eq_true rfl) (fun X hG hE => ?_)
  show q_O X 0 0 τ σ 0 [(0, .ref a0), (1, .int x1), (2, .int x2), (3, .int x3), (4, .int x4)] []
  have hS0 : q_S md_X12_feels τ σ σ := q_S.rf hI
  obtain ⟨Fv, hF⟩ : ∃ z, fx_eq z (f_X12_feels (fx_N σ) a0 x1.toInt x2.toInt x3.toInt x4.toInt) := ⟨_, fx_rf⟩
  have hF0 := hF
  unfold f_X12_feels at hF
  refine q_aload_n (pc := 0) hG dX12_feels_0 0 rfl ?_
  refine q_getR (pc := 1) (k2 := 163) (n2 := 9) hG fl_X12_62 dX12_feels_1 hI tA0 ff_10_28 (fun b1 f1 T1 => ?_)
  replace hF := fx_R hF f1 rfl
  refine q_iconst (pc := 4) hG dX12_feels_4 ki_0 ?_
  refine q_iload_n (pc := 5) hG dX12_feels_5 1 rfl ?_
  refine q_iast (pc := 6) hG dX12_feels_6 hS0 ai_163 T1 (q_ix rl_0 (by decide)) rA1 (by decide) rfl (fun s6 u6 w6 => ?_)
  replace hF := fx_P hF u6 (congrArg Int.toNat tl_0) rfl
  have m6 : s6 b1 (0 : Int32).toInt.toNat = .int x1 := by rw [u6]; exact q_up_same
  refine q_aload_n (pc := 7) hG dX12_feels_7 0 rfl ?_
  refine q_getV (pc := 8) (v := .ref b1) hG fl_X12_62 dX12_feels_8 tA0 (w6.same tA0 rfl f1) ?_
  refine q_iconst (pc := 11) hG dX12_feels_11 ki_1 ?_
  refine q_aload_n (pc := 12) hG dX12_feels_12 0 rfl ?_
  refine q_getR (pc := 13) (k2 := 100) (n2 := 549) hG fl_X12_7 dX12_feels_13 w6.1 tA0 ff_10_0 (fun b13 f13 T13 => ?_)
  replace hF := fx_R hF f13 rfl
  have f_1 := (w6.2 _ _ _ _ tA0 rfl).symm.trans f13
  refine q_sipush (pc := 16) hG dX12_feels_16 ks_512 ?_
  refine q_naldc (pc := 19) (a1 := 8) (a2 := 64) hG dX12_feels_19 w6.1 T13 (q_ix rl_512 (by decide)) rfl (fun v19 f19 g19 => ?_)
  replace hF := fx_I hF f19 (congrArg Int.toNat tl_512)
  have f_2 := (w6.2 _ _ _ _ T13 rfl).symm.trans f19
  refine q_iast (pc := 20) hG dX12_feels_20 w6 ai_163 T1 (q_ix rl_1 (by decide)) g19 (by decide) rfl (fun s20 u20 w20 => ?_)
  replace hF := fx_P hF u20 (congrArg Int.toNat tl_1) rfl
  have m20 : s20 b1 (1 : Int32).toInt.toNat = .int v19 := by rw [u20]; exact q_up_same
  refine q_aload_n (pc := 21) hG dX12_feels_21 0 rfl ?_
  refine q_getV (pc := 22) (v := .ref b1) hG fl_X12_62 dX12_feels_22 tA0 (w20.same tA0 rfl f1) ?_
  refine q_iconst (pc := 25) hG dX12_feels_25 ki_2 ?_
  refine q_aload_n (pc := 26) hG dX12_feels_26 0 rfl ?_
  refine q_getV (pc := 27) (v := .ref b13) hG fl_X12_7 dX12_feels_27 tA0 (w20.same tA0 rfl f_1) ?_
  refine q_iconst (pc := 30) hG dX12_feels_30 ki_0 ?_
  refine q_iload_n (pc := 31) hG dX12_feels_31 1 rfl ?_
  refine q_iadd (pc := 32) hG dX12_feels_32 (fun v32 e32 => ?_)
  replace hF := fx_add hF tl_0 rfl (q_addN (lo := 0) (hi := 63) e32 rl_0 rA1 (by decide)).1
  have r_3 := (q_addN (lo := 0) (hi := 63) e32 rl_0 rA1 (by decide)).2
  refine q_naldc (pc := 33) (a1 := -99) (a2 := 99) hG dX12_feels_33 w20.1 T13 (q_ix r_3 (by decide)) (q_nkerb r_3 (by decide)) (fun v33 f33 g33 => ?_)
  replace hF := fx_I hF f33 rfl
  have f_4 := (w20.2 _ _ _ _ T13 rfl).symm.trans f33
  refine q_iast (pc := 34) hG dX12_feels_34 w20 ai_163 T1 (q_ix rl_2 (by decide)) g33 (by decide) rfl (fun s34 u34 w34 => ?_)
  replace hF := fx_P hF u34 (congrArg Int.toNat tl_2) rfl
  have m34 : s34 b1 (2 : Int32).toInt.toNat = .int v33 := by rw [u34]; exact q_up_same
  refine q_aload_n (pc := 35) hG dX12_feels_35 0 rfl ?_
  refine q_getV (pc := 36) (v := .ref b1) hG fl_X12_62 dX12_feels_36 tA0 (w34.same tA0 rfl f1) ?_
  refine q_iconst (pc := 39) hG dX12_feels_39 ki_3 ?_
  refine q_aload_n (pc := 40) hG dX12_feels_40 0 rfl ?_
  refine q_getV (pc := 41) (v := .ref b13) hG fl_X12_7 dX12_feels_41 tA0 (w34.same tA0 rfl f_1) ?_
  refine q_bipush (pc := 44) hG dX12_feels_44 kb_64 ?_
  refine q_iload_n (pc := 46) hG dX12_feels_46 1 rfl ?_
  refine q_iadd (pc := 47) hG dX12_feels_47 (fun v47 e47 => ?_)
  replace hF := fx_add hF tl_64 rfl (q_addN (lo := 64) (hi := 127) e47 rl_64 rA1 (by decide)).1
  have r_5 := (q_addN (lo := 64) (hi := 127) e47 rl_64 rA1 (by decide)).2
  refine q_nald (pc := 48) hG dX12_feels_48 w34.1 T13 (q_ix r_5 (by decide)) (fun v48 f48 => ?_)
  replace hF := fx_I hF f48 rfl
  have f_6 := (w34.2 _ _ _ _ T13 rfl).symm.trans f48
  refine q_iast (pc := 49) hG dX12_feels_49 w34 ai_163 T1 (q_ix rl_3 (by decide)) (q_r_any v48) (by decide) rfl (fun s49 u49 w49 => ?_)
  replace hF := fx_P hF u49 (congrArg Int.toNat tl_3) rfl
  have m49 : s49 b1 (3 : Int32).toInt.toNat = .int v48 := by rw [u49]; exact q_up_same
  refine q_aload_n (pc := 50) hG dX12_feels_50 0 rfl ?_
  refine q_getV (pc := 51) (v := .ref b1) hG fl_X12_62 dX12_feels_51 tA0 (w49.same tA0 rfl f1) ?_
  refine q_iconst (pc := 54) hG dX12_feels_54 ki_4 ?_
  refine q_aload_n (pc := 55) hG dX12_feels_55 0 rfl ?_
  refine q_getV (pc := 56) (v := .ref b13) hG fl_X12_7 dX12_feels_56 tA0 (w49.same tA0 rfl f_1) ?_
  refine q_sipush (pc := 59) hG dX12_feels_59 ks_128 ?_
  refine q_iload_n (pc := 62) hG dX12_feels_62 1 rfl ?_
  refine q_iadd (pc := 63) hG dX12_feels_63 (fun v63 e63 => ?_)
  replace hF := fx_add hF tl_128 rfl (q_addN (lo := 128) (hi := 191) e63 rl_128 rA1 (by decide)).1
  have r_7 := (q_addN (lo := 128) (hi := 191) e63 rl_128 rA1 (by decide)).2
  refine q_nald (pc := 64) hG dX12_feels_64 w49.1 T13 (q_ix r_7 (by decide)) (fun v64 f64 => ?_)
  replace hF := fx_I hF f64 rfl
  have f_8 := (w49.2 _ _ _ _ T13 rfl).symm.trans f64
  refine q_iast (pc := 65) hG dX12_feels_65 w49 ai_163 T1 (q_ix rl_4 (by decide)) (q_r_any v64) (by decide) rfl (fun s65 u65 w65 => ?_)
  replace hF := fx_P hF u65 (congrArg Int.toNat tl_4) rfl
  have m65 : s65 b1 (4 : Int32).toInt.toNat = .int v64 := by rw [u65]; exact q_up_same
  refine q_aload_n (pc := 66) hG dX12_feels_66 0 rfl ?_
  refine q_getV (pc := 67) (v := .ref b1) hG fl_X12_62 dX12_feels_67 tA0 (w65.same tA0 rfl f1) ?_
  refine q_iconst (pc := 70) hG dX12_feels_70 ki_5 ?_
  refine q_iload_n (pc := 71) hG dX12_feels_71 2 rfl ?_
  refine q_iast (pc := 72) hG dX12_feels_72 w65 ai_163 T1 (q_ix rl_5 (by decide)) (q_r_any x2) (by decide) rfl (fun s72 u72 w72 => ?_)
  replace hF := fx_P hF u72 (congrArg Int.toNat tl_5) rfl
  have m72 : s72 b1 (5 : Int32).toInt.toNat = .int x2 := by rw [u72]; exact q_up_same
  refine q_aload_n (pc := 73) hG dX12_feels_73 0 rfl ?_
  refine q_getV (pc := 74) (v := .ref b1) hG fl_X12_62 dX12_feels_74 tA0 (w72.same tA0 rfl f1) ?_
  refine q_bipush (pc := 77) hG dX12_feels_77 kb_6 ?_
  refine q_iload_n (pc := 79) hG dX12_feels_79 1 rfl ?_
  have J109 : ∀ (p109_s0 : Int32), (fx_eq Fv (kJ_X12_feels_109 (fx_N s72) b1 x3.toInt x4.toInt p109_s0.toInt)) → q_O X 0 0 τ s72 109 [(0, .ref a0), (3, .int x3), (4, .int x4)] [.int p109_s0, .int 6, .ref b1] := by
    intro p109_s0 hF
    unfold kJ_X12_feels_109 at hF
    refine q_iast (pc := 109) hG dX12_feels_109 w72 ai_163 T1 (q_ix rl_6 (by decide)) (q_r_any p109_s0) (by decide) rfl (fun s109 u109 w109 => ?_)
    replace hF := fx_P hF u109 (congrArg Int.toNat tl_6) rfl
    have m109 : s109 b1 (6 : Int32).toInt.toNat = .int p109_s0 := by rw [u109]; exact q_up_same
    refine q_aload_n (pc := 110) hG dX12_feels_110 0 rfl ?_
    refine q_getV (pc := 111) (v := .ref b1) hG fl_X12_62 dX12_feels_111 tA0 (w109.same tA0 rfl f1) ?_
    refine q_bipush (pc := 114) hG dX12_feels_114 kb_7 ?_
    refine q_iload_n (pc := 116) hG dX12_feels_116 1 rfl ?_
    refine q_iast (pc := 117) hG dX12_feels_117 w109 ai_163 T1 (q_ix rl_7 (by decide)) (q_r_any x3) (by decide) rfl (fun s117 u117 w117 => ?_)
    replace hF := fx_P hF u117 (congrArg Int.toNat tl_7) rfl
    have m117 : s117 b1 (7 : Int32).toInt.toNat = .int x3 := by rw [u117]; exact q_up_same
    refine q_aload_n (pc := 118) hG dX12_feels_118 0 rfl ?_
    refine q_getV (pc := 119) (v := .ref b1) hG fl_X12_62 dX12_feels_119 tA0 (w117.same tA0 rfl f1) ?_
    refine q_bipush (pc := 122) hG dX12_feels_122 kb_8 ?_
    refine q_iload (pc := 124) hG dX12_feels_124 2 rfl ?_
    have J134 : ∀ (p134_s0 : Int32), (q_r p134_s0 0 1) → (fx_eq Fv (kJ_X12_feels_134 (fx_N s117) b1 p134_s0.toInt)) → q_O X 0 0 τ s117 134 [] [.int p134_s0, .int 8, .ref b1] := by
      intro p134_s0 r134_s0 hF
      unfold kJ_X12_feels_134 at hF
      refine q_iast (pc := 134) hG dX12_feels_134 w117 ai_163 T1 (q_ix rl_8 (by decide)) r134_s0 (by decide) rfl (fun s134 u134 w134 => ?_)
      replace hF := fx_P hF u134 (congrArg Int.toNat tl_8) rfl
      have m134 : s134 b1 (8 : Int32).toInt.toNat = .int p134_s0 := by rw [u134]; exact q_up_same
      exact q_vrt hG hE dX12_feels_135 ⟨w134, (fx_end hF hF0)⟩
    refine q_if_eq (pc := 126) hG 133 dX12_feels_126 rfl ?_ ?_
    · intro c126
      replace hF := fx_eq1 hF rfl rfl c126
      refine q_iconst (pc := 133) hG dX12_feels_133 ki_0 ?_
      refine q_lv [] rfl ?_
      exact J134 0 (q_r.mono rl_0 (by decide)) (by rw [tl_0]; exact hF)
    intro c126
    replace hF := fx_eq2 hF rfl rfl c126
    refine q_iconst (pc := 129) hG dX12_feels_129 ki_1 ?_
    refine q_goto (pc := 130) 134 hG dX12_feels_130 rfl ?_
    refine q_lv [] rfl ?_
    exact J134 1 (q_r.mono rl_1 (by decide)) (by rw [tl_1]; exact hF)
  refine q_if_ne (pc := 80) hG 87 dX12_feels_80 rfl ?_ ?_
  · intro c80
    replace hF := fx_eq2 hF rfl rfl c80
    refine q_aload_n (pc := 87) hG dX12_feels_87 0 rfl ?_
    refine q_getV (pc := 88) (v := .ref b13) hG fl_X12_7 dX12_feels_88 tA0 (w72.same tA0 rfl f_1) ?_
    refine q_iconst (pc := 91) hG dX12_feels_91 ki_0 ?_
    refine q_iload_n (pc := 92) hG dX12_feels_92 1 rfl ?_
    refine q_iadd (pc := 93) hG dX12_feels_93 (fun v93 e93 => ?_)
    rw [e93.trans e32.symm]
    refine q_ialdV (pc := 94) (v := .int v33) hG dX12_feels_94 T13 (by decide) (by decide) (q_ix r_3 (by decide)) (w72.same T13 rfl f_4) ?_
    refine q_aload_n (pc := 95) hG dX12_feels_95 0 rfl ?_
    refine q_getV (pc := 96) (v := .ref b13) hG fl_X12_7 dX12_feels_96 tA0 (w72.same tA0 rfl f_1) ?_
    refine q_iconst (pc := 99) hG dX12_feels_99 ki_0 ?_
    refine q_iload_n (pc := 100) hG dX12_feels_100 1 rfl ?_
    refine q_iadd (pc := 101) hG dX12_feels_101 (fun v101 e101 => ?_)
    rw [e101.trans e32.symm]
    refine q_iconst (pc := 102) hG dX12_feels_102 ki_1 ?_
    refine q_isub (pc := 103) hG dX12_feels_103 (fun v103 e103 => ?_)
    replace hF := fx_sub hF rfl tl_1 (q_subN (lo := (-1)) (hi := 62) e103 r_3 rl_1 (by decide)).1
    have r_9 := (q_subN (lo := (-1)) (hi := 62) e103 r_3 rl_1 (by decide)).2
    have r_10 := q_neL (c := 1) rA1 c80 (by decide)
    refine q_nald (pc := 104) hG dX12_feels_104 w72.1 T13 (by have o0 := (q_subN (lo := (-1)) (hi := 62) e103 r_3 rl_1 (by decide)).1; have o1 := (q_addN (lo := 0) (hi := 63) e32 rl_0 rA1 (by decide)).1; have o2 := (q_addN (lo := 64) (hi := 127) e47 rl_64 rA1 (by decide)).1; have o3 := (q_addN (lo := 128) (hi := 191) e63 rl_128 rA1 (by decide)).1; have o4 := c80; have o5 := r_9; have o6 := r_3; have o7 := r_5; have o8 := r_7; have o9 := r_10; have l10 := tl_0; have l11 := tl_1; have l12 := tl_64; have l13 := tl_128; unfold q_r at o5 o6 o7 o8 o9; omega) (fun v104 f104 => ?_)
    replace hF := fx_I hF f104 rfl
    have f_11 := (w72.2 _ _ _ _ T13 rfl).symm.trans f104
    refine q_isub (pc := 105) hG dX12_feels_105 (fun v105 e105 => ?_)
    replace hF := fx_B_sub hF rfl rfl e105
    refine q_pS (pc := 106) [.int v105] [.int 6, .ref b1] hG (c_X12_size τ s72 v105 w72.1) my_X12_size w895 w894 dX12_feels_106 rfl rfl (Nat.le_of_ble_eq_true rfl) (by decide) (fun v106 p106 => ?_)
    replace hF := fx_E hF p106.2.1
    refine q_lv [0, 3, 4] rfl ?_
    exact J109 v106 hF
  intro c80
  replace hF := fx_eq1 hF rfl rfl c80
  refine q_iconst (pc := 83) hG dX12_feels_83 ki_0 ?_
  refine q_goto (pc := 84) 109 hG dX12_feels_84 rfl ?_
  refine q_lv [0, 3, 4] rfl ?_
  exact J109 0 (by rw [tl_0]; exact hF)
theorem dX12_paintsFor_0 : decode cX12_paintsFor 0 = .ok (.aload_n 0, 1) := by decide +kernel
theorem dX12_paintsFor_1 : decode cX12_paintsFor 1 = .ok (.iload_n 1, 1) := by decide +kernel
theorem dX12_paintsFor_2 : decode cX12_paintsFor 2 = .ok (.iload_n 2, 1) := by decide +kernel
theorem dX12_paintsFor_3 : decode cX12_paintsFor 3 = .ok (.iload_n 3, 1) := by decide +kernel
theorem dX12_paintsFor_4 : decode cX12_paintsFor 4 = .ok (.iconst 0, 1) := by decide +kernel
theorem dX12_paintsFor_5 : decode cX12_paintsFor 5 = .ok (.invokevirtual 244, 3) := by decide +kernel
theorem dX12_paintsFor_8 : decode cX12_paintsFor 8 = .ok (.aload_n 0, 1) := by decide +kernel
theorem dX12_paintsFor_9 : decode cX12_paintsFor 9 = .ok (.bipush 112, 2) := by decide +kernel
theorem dX12_paintsFor_11 : decode cX12_paintsFor 11 = .ok (.iconst 1, 1) := by decide +kernel
theorem dX12_paintsFor_12 : decode cX12_paintsFor 12 = .ok (.bipush 9, 2) := by decide +kernel
theorem dX12_paintsFor_14 : decode cX12_paintsFor 14 = .ok (.invokevirtual 248, 3) := by decide +kernel
theorem dX12_paintsFor_17 : decode cX12_paintsFor 17 = .ok (.ireturn, 1) := by decide +kernel
def md_X12_paintsFor : List (Nat × Nat) := [(162, 0), (163, 0)]
set_option maxRecDepth 100000 in
set_option maxHeartbeats 4000000 in
theorem c_X12_paintsFor {l : Launch} {D : q_D} (τ : q_T) (σ : q_V) (a0 : Nat) (x1 : Int32) (x2 : Int32) (x3 : Int32) (hI : q_I τ σ) (tA0 : τ a0 = some (10, 1)) (rA1 : q_r x1 0 63) (hW : q_wf σ a0) : q_Ci l D yX12_paintsFor cX12_paintsFor 4 (some .int) 3 74 τ σ [.ref a0, .int x1, .int x2, .int x3] (fun r σ1 => q_S md_X12_paintsFor τ σ σ1 ∧ (q_r r 1 9) ∧ ((r.toInt, fx_N σ1) = f_X12_paintsFor (fx_N σ) a0 x1.toInt x2.toInt x3.toInt)) := by
  refine q_meti rfl (Nat.le_of_ble_eq_true rfl) (fun X hG hE => ?_)
  show q_O X 0 0 τ σ 0 [(0, .ref a0), (1, .int x1), (2, .int x2), (3, .int x3)] []
  have hS0 : q_S md_X12_paintsFor τ σ σ := q_S.rf hI
  obtain ⟨Fv, hF⟩ : ∃ z, fx_eq z (f_X12_paintsFor (fx_N σ) a0 x1.toInt x2.toInt x3.toInt) := ⟨_, fx_rf⟩
  have hF0 := hF
  unfold f_X12_paintsFor at hF
  refine q_aload_n (pc := 0) hG dX12_paintsFor_0 0 rfl ?_
  refine q_iload_n (pc := 1) hG dX12_paintsFor_1 1 rfl ?_
  refine q_iload_n (pc := 2) hG dX12_paintsFor_2 2 rfl ?_
  refine q_iload_n (pc := 3) hG dX12_paintsFor_3 3 rfl ?_
  refine q_iconst (pc := 4) hG dX12_paintsFor_4 ki_0 ?_
  refine q_cVv (pc := 5) [.int x1, .int x2, .int x3, .int 0] [] hG (c_X12_feels τ σ a0 x1 x2 x3 0 hI tA0 rA1 (q_r.mono rl_0 (by decide))) my_X12_feels mv_X12_feels w981 dX12_paintsFor_5 tA0 (by decide) rfl rfl (Nat.le_of_ble_eq_true rfl) (by decide) (fun s5 p5 => ?_)
  have w5 := hS0.trans p5.1 rfl
  have fq5 := p5.2
  rewrite [tl_0] at fq5
  replace hF := fx_S hF fq5
  refine q_aload_n (pc := 8) hG dX12_paintsFor_8 0 rfl ?_
  refine q_bipush (pc := 9) hG dX12_paintsFor_9 kb_112 ?_
  refine q_iconst (pc := 11) hG dX12_paintsFor_11 ki_1 ?_
  refine q_bipush (pc := 12) hG dX12_paintsFor_12 kb_9 ?_
  refine q_cVi (pc := 14) [.int 112, .int 1, .int 9] [] hG (c_X12_byLaw τ s5 a0 112 1 9 w5.1 tA0 (q_wf.keep hI w5.2 tA0 rfl hW)) my_X12_byLaw mv_X12_byLaw w984 dX12_paintsFor_14 tA0 (by decide) rfl rfl (Nat.le_of_ble_eq_true rfl) (by decide) (fun v14 s14 p14 => ?_)
  have w14 := w5.trans p14.1 rfl
  have fq14 := p14.2.2.1
  rewrite [tl_1, tl_9, tl_112] at fq14
  replace hF := fx_C hF fq14
  have r_1 := q_blN p14.2.2.2 rl_1 rl_9 (by decide)
  exact q_irt hG hE dX12_paintsFor_17 ⟨w14, r_1, (fx_end hF hF0)⟩
theorem dX12_driesFor_0 : decode cX12_driesFor 0 = .ok (.aload_n 0, 1) := by decide +kernel
theorem dX12_driesFor_1 : decode cX12_driesFor 1 = .ok (.iload_n 1, 1) := by decide +kernel
theorem dX12_driesFor_2 : decode cX12_driesFor 2 = .ok (.iload_n 2, 1) := by decide +kernel
theorem dX12_driesFor_3 : decode cX12_driesFor 3 = .ok (.iload_n 3, 1) := by decide +kernel
theorem dX12_driesFor_4 : decode cX12_driesFor 4 = .ok (.iconst 0, 1) := by decide +kernel
theorem dX12_driesFor_5 : decode cX12_driesFor 5 = .ok (.invokevirtual 244, 3) := by decide +kernel
theorem dX12_driesFor_8 : decode cX12_driesFor 8 = .ok (.aload_n 0, 1) := by decide +kernel
theorem dX12_driesFor_9 : decode cX12_driesFor 9 = .ok (.bipush 100, 2) := by decide +kernel
theorem dX12_driesFor_11 : decode cX12_driesFor 11 = .ok (.iconst 0, 1) := by decide +kernel
theorem dX12_driesFor_12 : decode cX12_driesFor 12 = .ok (.bipush 99, 2) := by decide +kernel
theorem dX12_driesFor_14 : decode cX12_driesFor 14 = .ok (.invokevirtual 248, 3) := by decide +kernel
theorem dX12_driesFor_17 : decode cX12_driesFor 17 = .ok (.ireturn, 1) := by decide +kernel
def md_X12_driesFor : List (Nat × Nat) := [(162, 0), (163, 0)]
set_option maxRecDepth 100000 in
set_option maxHeartbeats 4000000 in
theorem c_X12_driesFor {l : Launch} {D : q_D} (τ : q_T) (σ : q_V) (a0 : Nat) (x1 : Int32) (x2 : Int32) (x3 : Int32) (hI : q_I τ σ) (tA0 : τ a0 = some (10, 1)) (rA1 : q_r x1 0 63) (hW : q_wf σ a0) : q_Ci l D yX12_driesFor cX12_driesFor 4 (some .int) 3 74 τ σ [.ref a0, .int x1, .int x2, .int x3] (fun r σ1 => q_S md_X12_driesFor τ σ σ1 ∧ (q_r r 0 99) ∧ ((r.toInt, fx_N σ1) = f_X12_driesFor (fx_N σ) a0 x1.toInt x2.toInt x3.toInt)) := by
  refine q_meti rfl (Nat.le_of_ble_eq_true rfl) (fun X hG hE => ?_)
  show q_O X 0 0 τ σ 0 [(0, .ref a0), (1, .int x1), (2, .int x2), (3, .int x3)] []
  have hS0 : q_S md_X12_driesFor τ σ σ := q_S.rf hI
  obtain ⟨Fv, hF⟩ : ∃ z, fx_eq z (f_X12_driesFor (fx_N σ) a0 x1.toInt x2.toInt x3.toInt) := ⟨_, fx_rf⟩
  have hF0 := hF
  unfold f_X12_driesFor at hF
  refine q_aload_n (pc := 0) hG dX12_driesFor_0 0 rfl ?_
  refine q_iload_n (pc := 1) hG dX12_driesFor_1 1 rfl ?_
  refine q_iload_n (pc := 2) hG dX12_driesFor_2 2 rfl ?_
  refine q_iload_n (pc := 3) hG dX12_driesFor_3 3 rfl ?_
  refine q_iconst (pc := 4) hG dX12_driesFor_4 ki_0 ?_
  refine q_cVv (pc := 5) [.int x1, .int x2, .int x3, .int 0] [] hG (c_X12_feels τ σ a0 x1 x2 x3 0 hI tA0 rA1 (q_r.mono rl_0 (by decide))) my_X12_feels mv_X12_feels w981 dX12_driesFor_5 tA0 (by decide) rfl rfl (Nat.le_of_ble_eq_true rfl) (by decide) (fun s5 p5 => ?_)
  have w5 := hS0.trans p5.1 rfl
  have fq5 := p5.2
  rewrite [tl_0] at fq5
  replace hF := fx_S hF fq5
  refine q_aload_n (pc := 8) hG dX12_driesFor_8 0 rfl ?_
  refine q_bipush (pc := 9) hG dX12_driesFor_9 kb_100 ?_
  refine q_iconst (pc := 11) hG dX12_driesFor_11 ki_0 ?_
  refine q_bipush (pc := 12) hG dX12_driesFor_12 kb_99 ?_
  refine q_cVi (pc := 14) [.int 100, .int 0, .int 99] [] hG (c_X12_byLaw τ s5 a0 100 0 99 w5.1 tA0 (q_wf.keep hI w5.2 tA0 rfl hW)) my_X12_byLaw mv_X12_byLaw w984 dX12_driesFor_14 tA0 (by decide) rfl rfl (Nat.le_of_ble_eq_true rfl) (by decide) (fun v14 s14 p14 => ?_)
  have w14 := w5.trans p14.1 rfl
  have fq14 := p14.2.2.1
  rewrite [tl_0, tl_99, tl_100] at fq14
  replace hF := fx_C hF fq14
  have r_1 := q_blN p14.2.2.2 rl_0 rl_99 (by decide)
  exact q_irt hG hE dX12_driesFor_17 ⟨w14, r_1, (fx_end hF hF0)⟩
theorem dX12_mustSee_0 : decode cX12_mustSee 0 = .ok (.aload_n 0, 1) := by decide +kernel
theorem dX12_mustSee_1 : decode cX12_mustSee 1 = .ok (.iload_n 1, 1) := by decide +kernel
theorem dX12_mustSee_2 : decode cX12_mustSee 2 = .ok (.aload_n 0, 1) := by decide +kernel
theorem dX12_mustSee_3 : decode cX12_mustSee 3 = .ok (.getfield 7, 3) := by decide +kernel
theorem dX12_mustSee_6 : decode cX12_mustSee 6 = .ok (.sipush 513, 3) := by decide +kernel
theorem dX12_mustSee_9 : decode cX12_mustSee 9 = .ok (.iaload, 1) := by decide +kernel
theorem dX12_mustSee_10 : decode cX12_mustSee 10 = .ok (.iconst 0, 1) := by decide +kernel
theorem dX12_mustSee_11 : decode cX12_mustSee 11 = .ok (.iconst 0, 1) := by decide +kernel
theorem dX12_mustSee_12 : decode cX12_mustSee 12 = .ok (.invokevirtual 244, 3) := by decide +kernel
theorem dX12_mustSee_15 : decode cX12_mustSee 15 = .ok (.aload_n 0, 1) := by decide +kernel
theorem dX12_mustSee_16 : decode cX12_mustSee 16 = .ok (.bipush 115, 2) := by decide +kernel
theorem dX12_mustSee_18 : decode cX12_mustSee 18 = .ok (.iconst 0, 1) := by decide +kernel
theorem dX12_mustSee_19 : decode cX12_mustSee 19 = .ok (.bipush 63, 2) := by decide +kernel
theorem dX12_mustSee_21 : decode cX12_mustSee 21 = .ok (.invokevirtual 248, 3) := by decide +kernel
theorem dX12_mustSee_24 : decode cX12_mustSee 24 = .ok (.ireturn, 1) := by decide +kernel
def md_X12_mustSee : List (Nat × Nat) := [(162, 0), (163, 0)]
set_option maxRecDepth 100000 in
set_option maxHeartbeats 4000000 in
theorem c_X12_mustSee {l : Launch} {D : q_D} (τ : q_T) (σ : q_V) (a0 : Nat) (x1 : Int32) (hI : q_I τ σ) (tA0 : τ a0 = some (10, 1)) (rA1 : q_r x1 0 63) (hW : q_wf σ a0) : q_Ci l D yX12_mustSee cX12_mustSee 2 (some .int) 3 74 τ σ [.ref a0, .int x1] (fun r σ1 => q_S md_X12_mustSee τ σ σ1 ∧ (q_r r 0 63)) := by
  refine q_meti rfl (Nat.le_of_ble_eq_true rfl) (fun X hG hE => ?_)
  show q_O X 0 0 τ σ 0 [(0, .ref a0), (1, .int x1)] []
  have hS0 : q_S md_X12_mustSee τ σ σ := q_S.rf hI
  refine q_aload_n (pc := 0) hG dX12_mustSee_0 0 rfl ?_
  refine q_iload_n (pc := 1) hG dX12_mustSee_1 1 rfl ?_
  refine q_aload_n (pc := 2) hG dX12_mustSee_2 0 rfl ?_
  refine q_getR (pc := 3) (k2 := 100) (n2 := 549) hG fl_X12_7 dX12_mustSee_3 hI tA0 ff_10_0 (fun b3 f3 T3 => ?_)
  refine q_sipush (pc := 6) hG dX12_mustSee_6 ks_513 ?_
  refine q_nald (pc := 9) hG dX12_mustSee_9 hI T3 (q_ix rl_513 (by decide)) (fun v9 f9 => ?_)
  refine q_iconst (pc := 10) hG dX12_mustSee_10 ki_0 ?_
  refine q_iconst (pc := 11) hG dX12_mustSee_11 ki_0 ?_
  refine q_cVv (pc := 12) [.int x1, .int v9, .int 0, .int 0] [] hG (c_X12_feels τ σ a0 x1 v9 0 0 hI tA0 rA1 (q_r.mono rl_0 (by decide))) my_X12_feels mv_X12_feels w981 dX12_mustSee_12 tA0 (by decide) rfl rfl (Nat.le_of_ble_eq_true rfl) (by decide) (fun s12 p12 => ?_)
  have w12 := hS0.trans p12.1 rfl
  refine q_aload_n (pc := 15) hG dX12_mustSee_15 0 rfl ?_
  refine q_bipush (pc := 16) hG dX12_mustSee_16 kb_115 ?_
  refine q_iconst (pc := 18) hG dX12_mustSee_18 ki_0 ?_
  refine q_bipush (pc := 19) hG dX12_mustSee_19 kb_63 ?_
  refine q_cVi (pc := 21) [.int 115, .int 0, .int 63] [] hG (c_X12_byLaw τ s12 a0 115 0 63 w12.1 tA0 (q_wf.keep hI w12.2 tA0 rfl hW)) my_X12_byLaw mv_X12_byLaw w984 dX12_mustSee_21 tA0 (by decide) rfl rfl (Nat.le_of_ble_eq_true rfl) (by decide) (fun v21 s21 p21 => ?_)
  have w21 := w12.trans p21.1 rfl
  have r_1 := q_blN p21.2.2.2 rl_0 rl_63 (by decide)
  exact q_irt hG hE dX12_mustSee_24 ⟨w21, r_1⟩
theorem dX12_plain_0 : decode cX12_plain 0 = .ok (.aload_n 0, 1) := by decide +kernel
theorem dX12_plain_1 : decode cX12_plain 1 = .ok (.iload_n 1, 1) := by decide +kernel
theorem dX12_plain_2 : decode cX12_plain 2 = .ok (.aload_n 0, 1) := by decide +kernel
theorem dX12_plain_3 : decode cX12_plain 3 = .ok (.getfield 7, 3) := by decide +kernel
theorem dX12_plain_6 : decode cX12_plain 6 = .ok (.sipush 513, 3) := by decide +kernel
theorem dX12_plain_9 : decode cX12_plain 9 = .ok (.iaload, 1) := by decide +kernel
theorem dX12_plain_10 : decode cX12_plain 10 = .ok (.iconst 0, 1) := by decide +kernel
theorem dX12_plain_11 : decode cX12_plain 11 = .ok (.iload_n 3, 1) := by decide +kernel
theorem dX12_plain_12 : decode cX12_plain 12 = .ok (.invokevirtual 244, 3) := by decide +kernel
theorem dX12_plain_15 : decode cX12_plain 15 = .ok (.aload_n 0, 1) := by decide +kernel
theorem dX12_plain_16 : decode cX12_plain 16 = .ok (.iload_n 2, 1) := by decide +kernel
theorem dX12_plain_17 : decode cX12_plain 17 = .ok (.iconst 0, 1) := by decide +kernel
theorem dX12_plain_18 : decode cX12_plain 18 = .ok (.bipush 99, 2) := by decide +kernel
theorem dX12_plain_20 : decode cX12_plain 20 = .ok (.invokevirtual 248, 3) := by decide +kernel
theorem dX12_plain_23 : decode cX12_plain 23 = .ok (.ireturn, 1) := by decide +kernel
def md_X12_plain : List (Nat × Nat) := [(162, 0), (163, 0)]
set_option maxRecDepth 100000 in
set_option maxHeartbeats 4000000 in
theorem c_X12_plain {l : Launch} {D : q_D} (τ : q_T) (σ : q_V) (a0 : Nat) (x1 : Int32) (x2 : Int32) (x3 : Int32) (hI : q_I τ σ) (tA0 : τ a0 = some (10, 1)) (rA1 : q_r x1 0 63) (rA3 : q_r x3 0 1) (hW : q_wf σ a0) : q_Ci l D yX12_plain cX12_plain 4 (some .int) 3 74 τ σ [.ref a0, .int x1, .int x2, .int x3] (fun r σ1 => q_S md_X12_plain τ σ σ1 ∧ (q_r r 0 99)) := by
  refine q_meti rfl (Nat.le_of_ble_eq_true rfl) (fun X hG hE => ?_)
  show q_O X 0 0 τ σ 0 [(0, .ref a0), (1, .int x1), (2, .int x2), (3, .int x3)] []
  have hS0 : q_S md_X12_plain τ σ σ := q_S.rf hI
  refine q_aload_n (pc := 0) hG dX12_plain_0 0 rfl ?_
  refine q_iload_n (pc := 1) hG dX12_plain_1 1 rfl ?_
  refine q_aload_n (pc := 2) hG dX12_plain_2 0 rfl ?_
  refine q_getR (pc := 3) (k2 := 100) (n2 := 549) hG fl_X12_7 dX12_plain_3 hI tA0 ff_10_0 (fun b3 f3 T3 => ?_)
  refine q_sipush (pc := 6) hG dX12_plain_6 ks_513 ?_
  refine q_nald (pc := 9) hG dX12_plain_9 hI T3 (q_ix rl_513 (by decide)) (fun v9 f9 => ?_)
  refine q_iconst (pc := 10) hG dX12_plain_10 ki_0 ?_
  refine q_iload_n (pc := 11) hG dX12_plain_11 3 rfl ?_
  refine q_cVv (pc := 12) [.int x1, .int v9, .int 0, .int x3] [] hG (c_X12_feels τ σ a0 x1 v9 0 x3 hI tA0 rA1 rA3) my_X12_feels mv_X12_feels w981 dX12_plain_12 tA0 (by decide) rfl rfl (Nat.le_of_ble_eq_true rfl) (by decide) (fun s12 p12 => ?_)
  have w12 := hS0.trans p12.1 rfl
  refine q_aload_n (pc := 15) hG dX12_plain_15 0 rfl ?_
  refine q_iload_n (pc := 16) hG dX12_plain_16 2 rfl ?_
  refine q_iconst (pc := 17) hG dX12_plain_17 ki_0 ?_
  refine q_bipush (pc := 18) hG dX12_plain_18 kb_99 ?_
  refine q_cVi (pc := 20) [.int x2, .int 0, .int 99] [] hG (c_X12_byLaw τ s12 a0 x2 0 99 w12.1 tA0 (q_wf.keep hI w12.2 tA0 rfl hW)) my_X12_byLaw mv_X12_byLaw w984 dX12_plain_20 tA0 (by decide) rfl rfl (Nat.le_of_ble_eq_true rfl) (by decide) (fun v20 s20 p20 => ?_)
  have w20 := w12.trans p20.1 rfl
  have r_1 := q_blN p20.2.2.2 rl_0 rl_99 (by decide)
  exact q_irt hG hE dX12_plain_23 ⟨w20, r_1⟩
theorem dX12_isWet_0 : decode cX12_isWet 0 = .ok (.aload_n 0, 1) := by decide +kernel
theorem dX12_isWet_1 : decode cX12_isWet 1 = .ok (.iload_n 1, 1) := by decide +kernel
theorem dX12_isWet_2 : decode cX12_isWet 2 = .ok (.invokevirtual 116, 3) := by decide +kernel
theorem dX12_isWet_5 : decode cX12_isWet 5 = .ok (.ifCond .eq 32, 3) := by decide +kernel
theorem dX12_isWet_8 : decode cX12_isWet 8 = .ok (.iload_n 2, 1) := by decide +kernel
theorem dX12_isWet_9 : decode cX12_isWet 9 = .ok (.aload_n 0, 1) := by decide +kernel
theorem dX12_isWet_10 : decode cX12_isWet 10 = .ok (.getfield 7, 3) := by decide +kernel
theorem dX12_isWet_13 : decode cX12_isWet 13 = .ok (.sipush 320, 3) := by decide +kernel
theorem dX12_isWet_16 : decode cX12_isWet 16 = .ok (.iload_n 1, 1) := by decide +kernel
theorem dX12_isWet_17 : decode cX12_isWet 17 = .ok (.iadd, 1) := by decide +kernel
theorem dX12_isWet_18 : decode cX12_isWet 18 = .ok (.iaload, 1) := by decide +kernel
theorem dX12_isWet_19 : decode cX12_isWet 19 = .ok (.aload_n 0, 1) := by decide +kernel
theorem dX12_isWet_20 : decode cX12_isWet 20 = .ok (.getfield 7, 3) := by decide +kernel
theorem dX12_isWet_23 : decode cX12_isWet 23 = .ok (.sipush 384, 3) := by decide +kernel
theorem dX12_isWet_26 : decode cX12_isWet 26 = .ok (.iload_n 1, 1) := by decide +kernel
theorem dX12_isWet_27 : decode cX12_isWet 27 = .ok (.iadd, 1) := by decide +kernel
theorem dX12_isWet_28 : decode cX12_isWet 28 = .ok (.iaload, 1) := by decide +kernel
theorem dX12_isWet_29 : decode cX12_isWet 29 = .ok (.iadd, 1) := by decide +kernel
theorem dX12_isWet_30 : decode cX12_isWet 30 = .ok (.if_icmp .ge 7, 3) := by decide +kernel
theorem dX12_isWet_33 : decode cX12_isWet 33 = .ok (.iconst 1, 1) := by decide +kernel
theorem dX12_isWet_34 : decode cX12_isWet 34 = .ok (.goto 4, 3) := by decide +kernel
theorem dX12_isWet_37 : decode cX12_isWet 37 = .ok (.iconst 0, 1) := by decide +kernel
theorem dX12_isWet_38 : decode cX12_isWet 38 = .ok (.ireturn, 1) := by decide +kernel
set_option maxRecDepth 100000 in
set_option maxHeartbeats 4000000 in
theorem c_X12_isWet {l : Launch} {D : q_D} (τ : q_T) (σ : q_V) (a0 : Nat) (x1 : Int32) (x2 : Int32) (hI : q_I τ σ) (tA0 : τ a0 = some (10, 1)) (rA1 : q_r x1 0 63) : q_Cp l D yX12_isWet cX12_isWet 3 (some .boolean) 1 21 τ σ [.ref a0, .int x1, .int x2] (fun r => (q_r r 0 1) ∧ (r.toInt = f_X12_isWet (fx_N σ) a0 x1.toInt x2.toInt)) := by
  refine q_meti rfl (Nat.le_of_ble_eq_true rfl) (fun X hG hE => ?_)
  show q_O X 0 0 τ σ 0 [(0, .ref a0), (1, .int x1), (2, .int x2)] []
  obtain ⟨Fv, hF⟩ : ∃ z, fx_eq z (f_X12_isWet (fx_N σ) a0 x1.toInt x2.toInt) := ⟨_, fx_rf⟩
  have hF0 := hF
  unfold f_X12_isWet at hF
  refine q_aload_n (pc := 0) hG dX12_isWet_0 0 rfl ?_
  refine q_iload_n (pc := 1) hG dX12_isWet_1 1 rfl ?_
  refine q_pV (pc := 2) [.int x1] [] hG (c_X12_isPainted τ σ a0 x1 hI tA0 rA1) my_X12_isPainted mv_X12_isPainted w862 dX12_isWet_2 tA0 (by decide) rfl rfl (Nat.le_of_ble_eq_true rfl) (by decide) (fun v2 p2 => ?_)
  replace hF := fx_E hF p2.2
  refine q_if_eq (pc := 5) hG 37 dX12_isWet_5 rfl ?_ ?_
  · intro c5
    replace hF := fx_eq1 hF rfl rfl c5
    refine q_iconst (pc := 37) hG dX12_isWet_37 ki_0 ?_
    exact q_zrt hG hE dX12_isWet_38 (q_r.mono rl_0 (by decide)) ⟨rfl, (q_r.mono rl_0 (by decide)), (by rw [tl_0]; exact fx_end hF hF0)⟩
  intro c5
  replace hF := fx_eq2 hF rfl rfl c5
  refine q_iload_n (pc := 8) hG dX12_isWet_8 2 rfl ?_
  refine q_aload_n (pc := 9) hG dX12_isWet_9 0 rfl ?_
  refine q_getR (pc := 10) (k2 := 100) (n2 := 549) hG fl_X12_7 dX12_isWet_10 hI tA0 ff_10_0 (fun b10 f10 T10 => ?_)
  replace hF := fx_R hF f10 rfl
  refine q_sipush (pc := 13) hG dX12_isWet_13 ks_320 ?_
  refine q_iload_n (pc := 16) hG dX12_isWet_16 1 rfl ?_
  refine q_iadd (pc := 17) hG dX12_isWet_17 (fun v17 e17 => ?_)
  replace hF := fx_add hF tl_320 rfl (q_addN (lo := 320) (hi := 383) e17 rl_320 rA1 (by decide)).1
  have r_1 := (q_addN (lo := 320) (hi := 383) e17 rl_320 rA1 (by decide)).2
  refine q_nald (pc := 18) hG dX12_isWet_18 hI T10 (q_ix r_1 (by decide)) (fun v18 f18 => ?_)
  replace hF := fx_I hF f18 rfl
  refine q_aload_n (pc := 19) hG dX12_isWet_19 0 rfl ?_
  refine q_getV (pc := 20) (v := .ref b10) hG fl_X12_7 dX12_isWet_20 tA0 f10 ?_
  refine q_sipush (pc := 23) hG dX12_isWet_23 ks_384 ?_
  refine q_iload_n (pc := 26) hG dX12_isWet_26 1 rfl ?_
  refine q_iadd (pc := 27) hG dX12_isWet_27 (fun v27 e27 => ?_)
  replace hF := fx_add hF tl_384 rfl (q_addN (lo := 384) (hi := 447) e27 rl_384 rA1 (by decide)).1
  have r_2 := (q_addN (lo := 384) (hi := 447) e27 rl_384 rA1 (by decide)).2
  refine q_nald (pc := 28) hG dX12_isWet_28 hI T10 (q_ix r_2 (by decide)) (fun v28 f28 => ?_)
  replace hF := fx_I hF f28 rfl
  refine q_iadd (pc := 29) hG dX12_isWet_29 (fun v29 e29 => ?_)
  replace hF := fx_B_add hF rfl rfl e29
  refine q_icmp_ge (pc := 30) hG 37 dX12_isWet_30 rfl ?_ ?_
  · intro c30
    replace hF := fx_lt2 hF rfl rfl c30
    refine q_iconst (pc := 37) hG dX12_isWet_37 ki_0 ?_
    exact q_zrt hG hE dX12_isWet_38 (q_r.mono rl_0 (by decide)) ⟨rfl, (q_r.mono rl_0 (by decide)), (by rw [tl_0]; exact fx_end hF hF0)⟩
  intro c30
  replace hF := fx_lt1 hF rfl rfl c30
  refine q_iconst (pc := 33) hG dX12_isWet_33 ki_1 ?_
  refine q_goto (pc := 34) 38 hG dX12_isWet_34 rfl ?_
  exact q_zrt hG hE dX12_isWet_38 (q_r.mono rl_1 (by decide)) ⟨rfl, (q_r.mono rl_1 (by decide)), (by rw [tl_1]; exact fx_end hF hF0)⟩
theorem dX12_isPainting_0 : decode cX12_isPainting 0 = .ok (.aload_n 0, 1) := by decide +kernel
theorem dX12_isPainting_1 : decode cX12_isPainting 1 = .ok (.getfield 7, 3) := by decide +kernel
theorem dX12_isPainting_4 : decode cX12_isPainting 4 = .ok (.sipush 520, 3) := by decide +kernel
theorem dX12_isPainting_7 : decode cX12_isPainting 7 = .ok (.iaload, 1) := by decide +kernel
theorem dX12_isPainting_8 : decode cX12_isPainting 8 = .ok (.iload_n 1, 1) := by decide +kernel
theorem dX12_isPainting_9 : decode cX12_isPainting 9 = .ok (.if_icmp .eq 15, 3) := by decide +kernel
theorem dX12_isPainting_12 : decode cX12_isPainting 12 = .ok (.aload_n 0, 1) := by decide +kernel
theorem dX12_isPainting_13 : decode cX12_isPainting 13 = .ok (.getfield 7, 3) := by decide +kernel
theorem dX12_isPainting_16 : decode cX12_isPainting 16 = .ok (.sipush 521, 3) := by decide +kernel
theorem dX12_isPainting_19 : decode cX12_isPainting 19 = .ok (.iaload, 1) := by decide +kernel
theorem dX12_isPainting_20 : decode cX12_isPainting 20 = .ok (.iload_n 1, 1) := by decide +kernel
theorem dX12_isPainting_21 : decode cX12_isPainting 21 = .ok (.if_icmp .ne 7, 3) := by decide +kernel
theorem dX12_isPainting_24 : decode cX12_isPainting 24 = .ok (.iconst 1, 1) := by decide +kernel
theorem dX12_isPainting_25 : decode cX12_isPainting 25 = .ok (.goto 4, 3) := by decide +kernel
theorem dX12_isPainting_28 : decode cX12_isPainting 28 = .ok (.iconst 0, 1) := by decide +kernel
theorem dX12_isPainting_29 : decode cX12_isPainting 29 = .ok (.ireturn, 1) := by decide +kernel
set_option maxRecDepth 100000 in
set_option maxHeartbeats 4000000 in
theorem c_X12_isPainting {l : Launch} {D : q_D} (τ : q_T) (σ : q_V) (a0 : Nat) (x1 : Int32) (hI : q_I τ σ) (tA0 : τ a0 = some (10, 1)) : q_Cp l D yX12_isPainting cX12_isPainting 2 (some .boolean) 0 0 τ σ [.ref a0, .int x1] (fun r => (q_r r 0 1) ∧ (r.toInt = f_X12_isPainting (fx_N σ) a0 x1.toInt)) := by
  refine q_meti rfl (Nat.le_of_ble_eq_true rfl) (fun X hG hE => ?_)
  show q_O X 0 0 τ σ 0 [(0, .ref a0), (1, .int x1)] []
  obtain ⟨Fv, hF⟩ : ∃ z, fx_eq z (f_X12_isPainting (fx_N σ) a0 x1.toInt) := ⟨_, fx_rf⟩
  have hF0 := hF
  unfold f_X12_isPainting at hF
  refine q_aload_n (pc := 0) hG dX12_isPainting_0 0 rfl ?_
  refine q_getR (pc := 1) (k2 := 100) (n2 := 549) hG fl_X12_7 dX12_isPainting_1 hI tA0 ff_10_0 (fun b1 f1 T1 => ?_)
  replace hF := fx_R hF f1 rfl
  refine q_sipush (pc := 4) hG dX12_isPainting_4 ks_520 ?_
  refine q_nald3 (pc := 7) (a1 := -2) (a2 := 63) hG dX12_isPainting_7 hI T1 (q_ix rl_520 (by decide)) rfl (fun v7 f7 g7 n7 => ?_)
  replace hF := fx_I hF f7 (congrArg Int.toNat tl_520)
  refine q_iload_n (pc := 8) hG dX12_isPainting_8 1 rfl ?_
  refine q_icmp_eq (pc := 9) hG 24 dX12_isPainting_9 rfl ?_ ?_
  · intro c9
    replace hF := fx_eq1 hF rfl rfl c9
    refine q_iconst (pc := 24) hG dX12_isPainting_24 ki_1 ?_
    refine q_goto (pc := 25) 29 hG dX12_isPainting_25 rfl ?_
    exact q_zrt hG hE dX12_isPainting_29 (q_r.mono rl_1 (by decide)) ⟨rfl, (q_r.mono rl_1 (by decide)), (by rw [tl_1]; exact fx_end hF hF0)⟩
  intro c9
  replace hF := fx_eq2 hF rfl rfl c9
  refine q_aload_n (pc := 12) hG dX12_isPainting_12 0 rfl ?_
  refine q_getV (pc := 13) (v := .ref b1) hG fl_X12_7 dX12_isPainting_13 tA0 f1 ?_
  refine q_sipush (pc := 16) hG dX12_isPainting_16 ks_521 ?_
  refine q_nald3 (pc := 19) (a1 := -2) (a2 := 63) hG dX12_isPainting_19 hI T1 (q_ix rl_521 (by decide)) rfl (fun v19 f19 g19 n19 => ?_)
  replace hF := fx_I hF f19 (congrArg Int.toNat tl_521)
  refine q_iload_n (pc := 20) hG dX12_isPainting_20 1 rfl ?_
  refine q_icmp_ne (pc := 21) hG 28 dX12_isPainting_21 rfl ?_ ?_
  · intro c21
    replace hF := fx_eq2 hF rfl rfl c21
    refine q_iconst (pc := 28) hG dX12_isPainting_28 ki_0 ?_
    exact q_zrt hG hE dX12_isPainting_29 (q_r.mono rl_0 (by decide)) ⟨rfl, (q_r.mono rl_0 (by decide)), (by rw [tl_0]; exact fx_end hF hF0)⟩
  intro c21
  replace hF := fx_eq1 hF rfl rfl c21
  refine q_iconst (pc := 24) hG dX12_isPainting_24 ki_1 ?_
  refine q_goto (pc := 25) 29 hG dX12_isPainting_25 rfl ?_
  exact q_zrt hG hE dX12_isPainting_29 (q_r.mono rl_1 (by decide)) ⟨rfl, (q_r.mono rl_1 (by decide)), (by rw [tl_1]; exact fx_end hF hF0)⟩
theorem dX12_nextOf_0 : decode cX12_nextOf 0 = .ok (.iload_n 1, 1) := by decide +kernel
theorem dX12_nextOf_1 : decode cX12_nextOf 1 = .ok (.ifCond .ne 44, 3) := by decide +kernel
theorem dX12_nextOf_4 : decode cX12_nextOf 4 = .ok (.iconst 0, 1) := by decide +kernel
theorem dX12_nextOf_5 : decode cX12_nextOf 5 = .ok (.istore_n 2, 1) := by decide +kernel
theorem dX12_nextOf_6 : decode cX12_nextOf 6 = .ok (.iload_n 2, 1) := by decide +kernel
theorem dX12_nextOf_7 : decode cX12_nextOf 7 = .ok (.aload_n 0, 1) := by decide +kernel
theorem dX12_nextOf_8 : decode cX12_nextOf 8 = .ok (.getfield 7, 3) := by decide +kernel
theorem dX12_nextOf_11 : decode cX12_nextOf 11 = .ok (.sipush 512, 3) := by decide +kernel
theorem dX12_nextOf_14 : decode cX12_nextOf 14 = .ok (.iaload, 1) := by decide +kernel
theorem dX12_nextOf_15 : decode cX12_nextOf 15 = .ok (.if_icmp .ge 27, 3) := by decide +kernel
theorem dX12_nextOf_18 : decode cX12_nextOf 18 = .ok (.aload_n 0, 1) := by decide +kernel
theorem dX12_nextOf_19 : decode cX12_nextOf 19 = .ok (.iload_n 2, 1) := by decide +kernel
theorem dX12_nextOf_20 : decode cX12_nextOf 20 = .ok (.invokevirtual 116, 3) := by decide +kernel
theorem dX12_nextOf_23 : decode cX12_nextOf 23 = .ok (.ifCond .ne 13, 3) := by decide +kernel
theorem dX12_nextOf_26 : decode cX12_nextOf 26 = .ok (.aload_n 0, 1) := by decide +kernel
theorem dX12_nextOf_27 : decode cX12_nextOf 27 = .ok (.iload_n 2, 1) := by decide +kernel
theorem dX12_nextOf_28 : decode cX12_nextOf 28 = .ok (.invokevirtual 251, 3) := by decide +kernel
theorem dX12_nextOf_31 : decode cX12_nextOf 31 = .ok (.ifCond .ne 5, 3) := by decide +kernel
theorem dX12_nextOf_34 : decode cX12_nextOf 34 = .ok (.iload_n 2, 1) := by decide +kernel
theorem dX12_nextOf_35 : decode cX12_nextOf 35 = .ok (.ireturn, 1) := by decide +kernel
theorem dX12_nextOf_36 : decode cX12_nextOf 36 = .ok (.iinc 2 1, 3) := by decide +kernel
theorem dX12_nextOf_39 : decode cX12_nextOf 39 = .ok (.goto (-33), 3) := by decide +kernel
theorem dX12_nextOf_42 : decode cX12_nextOf 42 = .ok (.goto 42, 3) := by decide +kernel
theorem dX12_nextOf_45 : decode cX12_nextOf 45 = .ok (.aload_n 0, 1) := by decide +kernel
theorem dX12_nextOf_46 : decode cX12_nextOf 46 = .ok (.getfield 7, 3) := by decide +kernel
theorem dX12_nextOf_49 : decode cX12_nextOf 49 = .ok (.sipush 512, 3) := by decide +kernel
theorem dX12_nextOf_52 : decode cX12_nextOf 52 = .ok (.iaload, 1) := by decide +kernel
theorem dX12_nextOf_53 : decode cX12_nextOf 53 = .ok (.iconst 1, 1) := by decide +kernel
theorem dX12_nextOf_54 : decode cX12_nextOf 54 = .ok (.isub, 1) := by decide +kernel
theorem dX12_nextOf_55 : decode cX12_nextOf 55 = .ok (.istore_n 2, 1) := by decide +kernel
theorem dX12_nextOf_56 : decode cX12_nextOf 56 = .ok (.iload_n 2, 1) := by decide +kernel
theorem dX12_nextOf_57 : decode cX12_nextOf 57 = .ok (.ifCond .lt 27, 3) := by decide +kernel
theorem dX12_nextOf_60 : decode cX12_nextOf 60 = .ok (.aload_n 0, 1) := by decide +kernel
theorem dX12_nextOf_61 : decode cX12_nextOf 61 = .ok (.iload_n 2, 1) := by decide +kernel
theorem dX12_nextOf_62 : decode cX12_nextOf 62 = .ok (.invokevirtual 116, 3) := by decide +kernel
theorem dX12_nextOf_65 : decode cX12_nextOf 65 = .ok (.ifCond .ne 13, 3) := by decide +kernel
theorem dX12_nextOf_68 : decode cX12_nextOf 68 = .ok (.aload_n 0, 1) := by decide +kernel
theorem dX12_nextOf_69 : decode cX12_nextOf 69 = .ok (.iload_n 2, 1) := by decide +kernel
theorem dX12_nextOf_70 : decode cX12_nextOf 70 = .ok (.invokevirtual 251, 3) := by decide +kernel
theorem dX12_nextOf_73 : decode cX12_nextOf 73 = .ok (.ifCond .ne 5, 3) := by decide +kernel
theorem dX12_nextOf_76 : decode cX12_nextOf 76 = .ok (.iload_n 2, 1) := by decide +kernel
theorem dX12_nextOf_77 : decode cX12_nextOf 77 = .ok (.ireturn, 1) := by decide +kernel
theorem dX12_nextOf_78 : decode cX12_nextOf 78 = .ok (.iinc 2 (-1), 3) := by decide +kernel
theorem dX12_nextOf_81 : decode cX12_nextOf 81 = .ok (.goto (-25), 3) := by decide +kernel
theorem dX12_nextOf_84 : decode cX12_nextOf 84 = .ok (.iconst (-1), 1) := by decide +kernel
theorem dX12_nextOf_85 : decode cX12_nextOf 85 = .ok (.ireturn, 1) := by decide +kernel
set_option maxRecDepth 100000 in
set_option maxHeartbeats 4000000 in
theorem c_X12_nextOf {l : Launch} {D : q_D} (τ : q_T) (σ : q_V) (a0 : Nat) (x1 : Int32) (hI : q_I τ σ) (tA0 : τ a0 = some (10, 1)) : q_Cp l D yX12_nextOf cX12_nextOf 3 (some .int) 1 21 τ σ [.ref a0, .int x1] (fun r => (q_r r (-1) 63) ∧ (r.toInt = f_X12_nextOf (fx_N σ) a0 x1.toInt)) := by
  refine q_meti rfl (Nat.le_of_ble_eq_true rfl) (fun X hG hE => ?_)
  show q_O X 0 0 τ σ 0 [(0, .ref a0), (1, .int x1)] []
  obtain ⟨Fv, hF⟩ : ∃ z, fx_eq z (f_X12_nextOf (fx_N σ) a0 x1.toInt) := ⟨_, fx_rf⟩
  have hF0 := hF
  unfold f_X12_nextOf at hF
  refine q_iload_n (pc := 0) hG dX12_nextOf_0 1 rfl ?_
  refine q_if_ne (pc := 1) hG 45 dX12_nextOf_1 rfl ?_ ?_
  · intro c1
    replace hF := fx_eq2 hF rfl rfl c1
    refine q_aload_n (pc := 45) hG dX12_nextOf_45 0 rfl ?_
    refine q_getR (pc := 46) (k2 := 100) (n2 := 549) hG fl_X12_7 dX12_nextOf_46 hI tA0 ff_10_0 (fun b46 f46 T46 => ?_)
    replace hF := fx_R hF f46 rfl
    refine q_sipush (pc := 49) hG dX12_nextOf_49 ks_512 ?_
    refine q_naldc (pc := 52) (a1 := 8) (a2 := 64) hG dX12_nextOf_52 hI T46 (q_ix rl_512 (by decide)) rfl (fun v52 f52 g52 => ?_)
    replace hF := fx_I hF f52 (congrArg Int.toNat tl_512)
    refine q_iconst (pc := 53) hG dX12_nextOf_53 ki_1 ?_
    refine q_isub (pc := 54) hG dX12_nextOf_54 (fun v54 e54 => ?_)
    replace hF := fx_sub hF rfl tl_1 (q_subN (lo := 7) (hi := 63) e54 g52 rl_1 (by decide)).1
    refine q_istore_n (pc := 55) [(2, .int v54), (0, .ref a0), (1, .int x1)] hG dX12_nextOf_55 (by decide) rfl ?_
    have J56 : ∀ (n56 : Nat) (p56_2 : Int32), (q_r p56_2 (-1) 63) → (fx_eq Fv (kL_X12_nextOf_56 (fx_N σ) a0 n56 p56_2.toInt)) → ((p56_2.toInt - (-1)).toNat < n56) → q_O X 0 0 τ σ 56 [(0, .ref a0), (2, .int p56_2)] [] := by
      intro n56
      induction n56 with
      | zero => intro p56_2 r56_2 hF hm56; exact absurd hm56 (Nat.not_lt_zero _)
      | succ n56 ih56 =>
        intro p56_2 r56_2 hF hm56
        replace hF := (show fx_eq Fv (kB_X12_nextOf_56 (kL_X12_nextOf_56 (fx_N σ) a0 n56) (fx_N σ) a0 p56_2.toInt) from hF)
        unfold kB_X12_nextOf_56 at hF
        refine q_iload_n (pc := 56) hG dX12_nextOf_56 1 rfl ?_
        refine q_if_lt (pc := 57) hG 84 dX12_nextOf_57 rfl ?_ ?_
        · intro c57
          replace hF := fx_lt1 hF rfl rfl c57
          refine q_iconst (pc := 84) hG dX12_nextOf_84 ki_m1 ?_
          exact q_irt hG hE dX12_nextOf_85 ⟨rfl, (q_r.mono rl_m1 (by decide)), (by rw [tl_m1]; exact fx_end hF hF0)⟩
        intro c57
        replace hF := fx_lt2 hF rfl rfl c57
        refine q_aload_n (pc := 60) hG dX12_nextOf_60 0 rfl ?_
        refine q_iload_n (pc := 61) hG dX12_nextOf_61 1 rfl ?_
        have r_1 := q_zge r56_2 c57
        refine q_pV (pc := 62) [.int p56_2] [] hG (c_X12_isPainted τ σ a0 p56_2 hI tA0 r_1) my_X12_isPainted mv_X12_isPainted w862 dX12_nextOf_62 tA0 (by decide) rfl rfl (Nat.le_of_ble_eq_true rfl) (by decide) (fun v62 p62 => ?_)
        replace hF := fx_E hF p62.2
        have J78 : (fx_eq Fv (kJ_X12_nextOf_78 p56_2.toInt (kL_X12_nextOf_56 (fx_N σ) a0 n56))) → q_O X 0 0 τ σ 78 [(0, .ref a0), (2, .int p56_2)] [] := by
          intro hF
          unfold kJ_X12_nextOf_78 at hF
          obtain ⟨v78, e78⟩ : ∃ z : Int32, z = p56_2 + Int32.ofInt (-1) := ⟨_, rfl⟩
          have h78 := q_incN (lo := (-1)) (hi := 62) r_1 (by decide) (by decide) e78
          replace hF := fx_add hF rfl rfl h78.1
          refine q_iinc (pc := 78) [(2, .int v78), (0, .ref a0)] hG dX12_nextOf_78 1 rfl e78 (by decide) rfl ?_
          refine q_goto (pc := 81) 56 hG dX12_nextOf_81 rfl ?_
          refine q_lv [1, 0] rfl ?_
          exact ih56 v78 (q_r.mono h78.2 (by decide)) hF (q_measD hm56 (by have o0 := c57; have o1 := h78.1; have o2 := r_1; have o3 := h78.2; unfold q_r at o2 o3; omega) (h78.2).1)
        refine q_if_ne (pc := 65) hG 78 dX12_nextOf_65 rfl ?_ ?_
        · intro c65
          replace hF := fx_eq2 hF rfl rfl c65
          refine q_lv [0, 1] rfl ?_
          exact J78 hF
        intro c65
        replace hF := fx_eq1 hF rfl rfl c65
        refine q_aload_n (pc := 68) hG dX12_nextOf_68 0 rfl ?_
        refine q_iload_n (pc := 69) hG dX12_nextOf_69 1 rfl ?_
        refine q_pV (pc := 70) [.int p56_2] [] hG (c_X12_isPainting τ σ a0 p56_2 hI tA0) my_X12_isPainting mv_X12_isPainting w969 dX12_nextOf_70 tA0 (by decide) rfl rfl (Nat.le_of_ble_eq_true rfl) (by decide) (fun v70 p70 => ?_)
        replace hF := fx_E hF p70.2
        refine q_if_ne (pc := 73) hG 78 dX12_nextOf_73 rfl ?_ ?_
        · intro c73
          replace hF := fx_eq2 hF rfl rfl c73
          refine q_lv [0, 1] rfl ?_
          exact J78 hF
        intro c73
        replace hF := fx_eq1 hF rfl rfl c73
        refine q_iload_n (pc := 76) hG dX12_nextOf_76 1 rfl ?_
        exact q_irt hG hE dX12_nextOf_77 ⟨rfl, (q_r.mono r_1 (by decide)), (fx_end hF hF0)⟩
    refine q_lv [1, 0] rfl ?_
    have r_2 := (q_subN (lo := 7) (hi := 63) e54 g52 rl_1 (by decide)).2
    exact J56 ((v54.toInt - (-1)).toNat + 1) v54 (q_r.mono r_2 (by decide)) hF (Nat.lt_succ_self _)
  intro c1
  replace hF := fx_eq1 hF rfl rfl c1
  refine q_iconst (pc := 4) hG dX12_nextOf_4 ki_0 ?_
  refine q_istore_n (pc := 5) [(2, .int 0), (0, .ref a0), (1, .int x1)] hG dX12_nextOf_5 (by decide) rfl ?_
  have J6 : ∀ (n6 : Nat) (p6_2 : Int32), (q_r p6_2 0 64) → (fx_eq Fv (kL_X12_nextOf_6 (fx_N σ) a0 n6 p6_2.toInt)) → ((64 - p6_2.toInt).toNat < n6) → q_O X 0 0 τ σ 6 [(0, .ref a0), (2, .int p6_2)] [] := by
    intro n6
    induction n6 with
    | zero => intro p6_2 r6_2 hF hm6; exact absurd hm6 (Nat.not_lt_zero _)
    | succ n6 ih6 =>
      intro p6_2 r6_2 hF hm6
      replace hF := (show fx_eq Fv (kB_X12_nextOf_6 (kL_X12_nextOf_6 (fx_N σ) a0 n6) (fx_N σ) a0 p6_2.toInt) from hF)
      unfold kB_X12_nextOf_6 at hF
      refine q_iload_n (pc := 6) hG dX12_nextOf_6 1 rfl ?_
      refine q_aload_n (pc := 7) hG dX12_nextOf_7 0 rfl ?_
      refine q_getR (pc := 8) (k2 := 100) (n2 := 549) hG fl_X12_7 dX12_nextOf_8 hI tA0 ff_10_0 (fun b8 f8 T8 => ?_)
      replace hF := fx_R hF f8 rfl
      refine q_sipush (pc := 11) hG dX12_nextOf_11 ks_512 ?_
      refine q_naldc (pc := 14) (a1 := 8) (a2 := 64) hG dX12_nextOf_14 hI T8 (q_ix rl_512 (by decide)) rfl (fun v14 f14 g14 => ?_)
      replace hF := fx_I hF f14 (congrArg Int.toNat tl_512)
      refine q_icmp_ge (pc := 15) hG 42 dX12_nextOf_15 rfl ?_ ?_
      · intro c15
        replace hF := fx_lt2 hF rfl rfl c15
        refine q_goto (pc := 42) 84 hG dX12_nextOf_42 rfl ?_
        refine q_iconst (pc := 84) hG dX12_nextOf_84 ki_m1 ?_
        exact q_irt hG hE dX12_nextOf_85 ⟨rfl, (q_r.mono rl_m1 (by decide)), (by rw [tl_m1]; exact fx_end hF hF0)⟩
      intro c15
      replace hF := fx_lt1 hF rfl rfl c15
      refine q_aload_n (pc := 18) hG dX12_nextOf_18 0 rfl ?_
      refine q_iload_n (pc := 19) hG dX12_nextOf_19 1 rfl ?_
      have r_3 := q_rlt r6_2 g14 c15 63 (by decide)
      refine q_pV (pc := 20) [.int p6_2] [] hG (c_X12_isPainted τ σ a0 p6_2 hI tA0 r_3) my_X12_isPainted mv_X12_isPainted w862 dX12_nextOf_20 tA0 (by decide) rfl rfl (Nat.le_of_ble_eq_true rfl) (by decide) (fun v20 p20 => ?_)
      replace hF := fx_E hF p20.2
      have J36 : (fx_eq Fv (kJ_X12_nextOf_36 p6_2.toInt (kL_X12_nextOf_6 (fx_N σ) a0 n6))) → q_O X 0 0 τ σ 36 [(0, .ref a0), (2, .int p6_2)] [] := by
        intro hF
        unfold kJ_X12_nextOf_36 at hF
        obtain ⟨v36, e36⟩ : ∃ z : Int32, z = p6_2 + Int32.ofInt 1 := ⟨_, rfl⟩
        have h36 := q_incN (lo := 1) (hi := 64) r_3 (by decide) (by decide) e36
        replace hF := fx_add hF rfl rfl h36.1
        refine q_iinc (pc := 36) [(2, .int v36), (0, .ref a0)] hG dX12_nextOf_36 1 rfl e36 (by decide) rfl ?_
        refine q_goto (pc := 39) 6 hG dX12_nextOf_39 rfl ?_
        refine q_lv [1, 0] rfl ?_
        exact ih6 v36 (q_r.mono h36.2 (by decide)) hF (q_measU hm6 (by have o0 := c15; have o1 := h36.1; have o2 := r_3; have o3 := g14; have o4 := h36.2; unfold q_r at o2 o3 o4; omega) (h36.2).2)
      refine q_if_ne (pc := 23) hG 36 dX12_nextOf_23 rfl ?_ ?_
      · intro c23
        replace hF := fx_eq2 hF rfl rfl c23
        refine q_lv [0, 1] rfl ?_
        exact J36 hF
      intro c23
      replace hF := fx_eq1 hF rfl rfl c23
      refine q_aload_n (pc := 26) hG dX12_nextOf_26 0 rfl ?_
      refine q_iload_n (pc := 27) hG dX12_nextOf_27 1 rfl ?_
      refine q_pV (pc := 28) [.int p6_2] [] hG (c_X12_isPainting τ σ a0 p6_2 hI tA0) my_X12_isPainting mv_X12_isPainting w969 dX12_nextOf_28 tA0 (by decide) rfl rfl (Nat.le_of_ble_eq_true rfl) (by decide) (fun v28 p28 => ?_)
      replace hF := fx_E hF p28.2
      refine q_if_ne (pc := 31) hG 36 dX12_nextOf_31 rfl ?_ ?_
      · intro c31
        replace hF := fx_eq2 hF rfl rfl c31
        refine q_lv [0, 1] rfl ?_
        exact J36 hF
      intro c31
      replace hF := fx_eq1 hF rfl rfl c31
      refine q_iload_n (pc := 34) hG dX12_nextOf_34 1 rfl ?_
      exact q_irt hG hE dX12_nextOf_35 ⟨rfl, (q_r.mono r_3 (by decide)), (fx_end hF hF0)⟩
  refine q_lv [1, 0] rfl ?_
  exact J6 ((64 - (0 : Int32).toInt).toNat + 1) 0 (q_r.mono rl_0 (by decide)) (by rw [tl_0]; exact hF) (Nat.lt_succ_self _)
theorem dX12_busy_0 : decode cX12_busy 0 = .ok (.iconst 0, 1) := by decide +kernel
theorem dX12_busy_1 : decode cX12_busy 1 = .ok (.istore_n 2, 1) := by decide +kernel
theorem dX12_busy_2 : decode cX12_busy 2 = .ok (.iconst 0, 1) := by decide +kernel
theorem dX12_busy_3 : decode cX12_busy 3 = .ok (.istore_n 3, 1) := by decide +kernel
theorem dX12_busy_4 : decode cX12_busy 4 = .ok (.iload_n 3, 1) := by decide +kernel
theorem dX12_busy_5 : decode cX12_busy 5 = .ok (.aload_n 0, 1) := by decide +kernel
theorem dX12_busy_6 : decode cX12_busy 6 = .ok (.getfield 7, 3) := by decide +kernel
theorem dX12_busy_9 : decode cX12_busy 9 = .ok (.sipush 512, 3) := by decide +kernel
theorem dX12_busy_12 : decode cX12_busy 12 = .ok (.iaload, 1) := by decide +kernel
theorem dX12_busy_13 : decode cX12_busy 13 = .ok (.if_icmp .ge 34, 3) := by decide +kernel
theorem dX12_busy_16 : decode cX12_busy 16 = .ok (.iload_n 2, 1) := by decide +kernel
theorem dX12_busy_17 : decode cX12_busy 17 = .ok (.aload_n 0, 1) := by decide +kernel
theorem dX12_busy_18 : decode cX12_busy 18 = .ok (.iload_n 3, 1) := by decide +kernel
theorem dX12_busy_19 : decode cX12_busy 19 = .ok (.invokevirtual 251, 3) := by decide +kernel
theorem dX12_busy_22 : decode cX12_busy 22 = .ok (.ifCond .ne 12, 3) := by decide +kernel
theorem dX12_busy_25 : decode cX12_busy 25 = .ok (.aload_n 0, 1) := by decide +kernel
theorem dX12_busy_26 : decode cX12_busy 26 = .ok (.iload_n 3, 1) := by decide +kernel
theorem dX12_busy_27 : decode cX12_busy 27 = .ok (.iload_n 1, 1) := by decide +kernel
theorem dX12_busy_28 : decode cX12_busy 28 = .ok (.invokevirtual 254, 3) := by decide +kernel
theorem dX12_busy_31 : decode cX12_busy 31 = .ok (.ifCond .eq 7, 3) := by decide +kernel
theorem dX12_busy_34 : decode cX12_busy 34 = .ok (.iconst 1, 1) := by decide +kernel
theorem dX12_busy_35 : decode cX12_busy 35 = .ok (.goto 4, 3) := by decide +kernel
theorem dX12_busy_38 : decode cX12_busy 38 = .ok (.iconst 0, 1) := by decide +kernel
theorem dX12_busy_39 : decode cX12_busy 39 = .ok (.iadd, 1) := by decide +kernel
theorem dX12_busy_40 : decode cX12_busy 40 = .ok (.istore_n 2, 1) := by decide +kernel
theorem dX12_busy_41 : decode cX12_busy 41 = .ok (.iinc 3 1, 3) := by decide +kernel
theorem dX12_busy_44 : decode cX12_busy 44 = .ok (.goto (-40), 3) := by decide +kernel
theorem dX12_busy_47 : decode cX12_busy 47 = .ok (.iload_n 2, 1) := by decide +kernel
theorem dX12_busy_48 : decode cX12_busy 48 = .ok (.ireturn, 1) := by decide +kernel
set_option maxRecDepth 100000 in
set_option maxHeartbeats 4000000 in
theorem c_X12_busy {l : Launch} {D : q_D} (τ : q_T) (σ : q_V) (a0 : Nat) (x1 : Int32) (hI : q_I τ σ) (tA0 : τ a0 = some (10, 1)) : q_Cp l D yX12_busy cX12_busy 4 (some .int) 2 43 τ σ [.ref a0, .int x1] (fun r => (q_r r (-2147483648) 2147483647) ∧ (r.toInt = f_X12_busy (fx_N σ) a0 x1.toInt)) := by
  refine q_meti rfl (Nat.le_of_ble_eq_true rfl) (fun X hG hE => ?_)
  show q_O X 0 0 τ σ 0 [(0, .ref a0), (1, .int x1)] []
  obtain ⟨Fv, hF⟩ : ∃ z, fx_eq z (f_X12_busy (fx_N σ) a0 x1.toInt) := ⟨_, fx_rf⟩
  have hF0 := hF
  unfold f_X12_busy at hF
  refine q_iconst (pc := 0) hG dX12_busy_0 ki_0 ?_
  refine q_istore_n (pc := 1) [(2, .int 0), (0, .ref a0), (1, .int x1)] hG dX12_busy_1 (by decide) rfl ?_
  refine q_iconst (pc := 2) hG dX12_busy_2 ki_0 ?_
  refine q_istore_n (pc := 3) [(3, .int 0), (2, .int 0), (0, .ref a0), (1, .int x1)] hG dX12_busy_3 (by decide) rfl ?_
  have J4 : ∀ (n4 : Nat) (p4_2 : Int32) (p4_3 : Int32), (q_r p4_3 0 64) → (fx_eq Fv (kL_X12_busy_4 (fx_N σ) a0 x1.toInt n4 p4_2.toInt p4_3.toInt)) → ((64 - p4_3.toInt).toNat < n4) → q_O X 0 0 τ σ 4 [(0, .ref a0), (1, .int x1), (2, .int p4_2), (3, .int p4_3)] [] := by
    intro n4
    induction n4 with
    | zero => intro p4_2 p4_3 r4_3 hF hm4; exact absurd hm4 (Nat.not_lt_zero _)
    | succ n4 ih4 =>
      intro p4_2 p4_3 r4_3 hF hm4
      replace hF := (show fx_eq Fv (kB_X12_busy_4 (kL_X12_busy_4 (fx_N σ) a0 x1.toInt n4) (fx_N σ) a0 x1.toInt p4_2.toInt p4_3.toInt) from hF)
      unfold kB_X12_busy_4 at hF
      refine q_iload_n (pc := 4) hG dX12_busy_4 3 rfl ?_
      refine q_aload_n (pc := 5) hG dX12_busy_5 0 rfl ?_
      refine q_getR (pc := 6) (k2 := 100) (n2 := 549) hG fl_X12_7 dX12_busy_6 hI tA0 ff_10_0 (fun b6 f6 T6 => ?_)
      replace hF := fx_R hF f6 rfl
      refine q_sipush (pc := 9) hG dX12_busy_9 ks_512 ?_
      refine q_naldc (pc := 12) (a1 := 8) (a2 := 64) hG dX12_busy_12 hI T6 (q_ix rl_512 (by decide)) rfl (fun v12 f12 g12 => ?_)
      replace hF := fx_I hF f12 (congrArg Int.toNat tl_512)
      refine q_icmp_ge (pc := 13) hG 47 dX12_busy_13 rfl ?_ ?_
      · intro c13
        replace hF := fx_lt2 hF rfl rfl c13
        refine q_iload_n (pc := 47) hG dX12_busy_47 2 rfl ?_
        exact q_irt hG hE dX12_busy_48 ⟨rfl, (q_r_any p4_2), (fx_end hF hF0)⟩
      intro c13
      replace hF := fx_lt1 hF rfl rfl c13
      refine q_iload_n (pc := 16) hG dX12_busy_16 2 rfl ?_
      refine q_aload_n (pc := 17) hG dX12_busy_17 0 rfl ?_
      refine q_iload_n (pc := 18) hG dX12_busy_18 3 rfl ?_
      refine q_pV (pc := 19) [.int p4_3] [.int p4_2] hG (c_X12_isPainting τ σ a0 p4_3 hI tA0) my_X12_isPainting mv_X12_isPainting w969 dX12_busy_19 tA0 (by decide) rfl rfl (Nat.le_of_ble_eq_true rfl) (by decide) (fun v19 p19 => ?_)
      replace hF := fx_E hF p19.2
      have J39 : ∀ (p39_s0 : Int32), (q_r p39_s0 0 1) → (fx_eq Fv (kJ_X12_busy_39 p4_2.toInt p4_3.toInt (kL_X12_busy_4 (fx_N σ) a0 x1.toInt n4) p39_s0.toInt)) → q_O X 0 0 τ σ 39 [(0, .ref a0), (1, .int x1), (3, .int p4_3)] [.int p39_s0, .int p4_2] := by
        intro p39_s0 r39_s0 hF
        unfold kJ_X12_busy_39 at hF
        refine q_iadd (pc := 39) hG dX12_busy_39 (fun v39 e39 => ?_)
        replace hF := fx_B_add hF rfl rfl e39
        refine q_istore_n (pc := 40) [(2, .int v39), (0, .ref a0), (1, .int x1), (3, .int p4_3)] hG dX12_busy_40 (by decide) rfl ?_
        obtain ⟨v41, e41⟩ : ∃ z : Int32, z = p4_3 + Int32.ofInt 1 := ⟨_, rfl⟩
        have r_1 := q_rlt r4_3 g12 c13 63 (by decide)
        have h41 := q_incN (lo := 1) (hi := 64) r_1 (by decide) (by decide) e41
        replace hF := fx_add hF rfl rfl h41.1
        refine q_iinc (pc := 41) [(3, .int v41), (2, .int v39), (0, .ref a0), (1, .int x1)] hG dX12_busy_41 3 rfl e41 (by decide) rfl ?_
        refine q_goto (pc := 44) 4 hG dX12_busy_44 rfl ?_
        refine q_lv [2, 3, 1, 0] rfl ?_
        exact ih4 v39 v41 (q_r.mono h41.2 (by decide)) hF (q_measU hm4 (by have o0 := c13; have o1 := h41.1; have o2 := r_1; have o3 := g12; have o4 := h41.2; unfold q_r at o2 o3 o4; omega) (h41.2).2)
      have J34 : (fx_eq Fv (kJ_X12_busy_34 p4_2.toInt p4_3.toInt (kL_X12_busy_4 (fx_N σ) a0 x1.toInt n4))) → q_O X 0 0 τ σ 34 [(0, .ref a0), (1, .int x1), (3, .int p4_3)] [.int p4_2] := by
        intro hF
        unfold kJ_X12_busy_34 at hF
        refine q_iconst (pc := 34) hG dX12_busy_34 ki_1 ?_
        refine q_goto (pc := 35) 39 hG dX12_busy_35 rfl ?_
        refine q_lv [0, 1, 2] rfl ?_
        exact J39 1 (q_r.mono rl_1 (by decide)) (by rw [tl_1]; exact hF)
      refine q_if_ne (pc := 22) hG 34 dX12_busy_22 rfl ?_ ?_
      · intro c22
        replace hF := fx_eq2 hF rfl rfl c22
        refine q_lv [0, 1, 3] rfl ?_
        exact J34 hF
      intro c22
      replace hF := fx_eq1 hF rfl rfl c22
      refine q_aload_n (pc := 25) hG dX12_busy_25 0 rfl ?_
      refine q_iload_n (pc := 26) hG dX12_busy_26 3 rfl ?_
      refine q_iload_n (pc := 27) hG dX12_busy_27 1 rfl ?_
      have r_2 := q_rlt r4_3 g12 c13 63 (by decide)
      refine q_pV (pc := 28) [.int p4_3, .int x1] [.int p4_2] hG (c_X12_isWet τ σ a0 p4_3 x1 hI tA0 r_2) my_X12_isWet mv_X12_isWet w975 dX12_busy_28 tA0 (by decide) rfl rfl (Nat.le_of_ble_eq_true rfl) (by decide) (fun v28 p28 => ?_)
      replace hF := fx_E hF p28.2
      refine q_if_eq (pc := 31) hG 38 dX12_busy_31 rfl ?_ ?_
      · intro c31
        replace hF := fx_eq1 hF rfl rfl c31
        refine q_iconst (pc := 38) hG dX12_busy_38 ki_0 ?_
        refine q_lv [0, 1, 3] rfl ?_
        exact J39 0 (q_r.mono rl_0 (by decide)) (by rw [tl_0]; exact hF)
      intro c31
      replace hF := fx_eq2 hF rfl rfl c31
      refine q_lv [0, 1, 3] rfl ?_
      exact J34 hF
  refine q_lv [2, 3, 1, 0] rfl ?_
  exact J4 ((64 - (0 : Int32).toInt).toNat + 1) 0 0 (q_r.mono rl_0 (by decide)) (by rw [tl_0]; exact hF) (Nat.lt_succ_self _)
theorem dX12_held_0 : decode cX12_held 0 = .ok (.bipush (-99), 2) := by decide +kernel
theorem dX12_held_2 : decode cX12_held 2 = .ok (.bipush 99, 2) := by decide +kernel
theorem dX12_held_4 : decode cX12_held 4 = .ok (.iload_n 0, 1) := by decide +kernel
theorem dX12_held_5 : decode cX12_held 5 = .ok (.invokestatic 257, 3) := by decide +kernel
theorem dX12_held_8 : decode cX12_held 8 = .ok (.invokestatic 260, 3) := by decide +kernel
theorem dX12_held_11 : decode cX12_held 11 = .ok (.ireturn, 1) := by decide +kernel
set_option maxRecDepth 100000 in
set_option maxHeartbeats 4000000 in
theorem c_X12_held {l : Launch} {D : q_D} (τ : q_T) (σ : q_V) (x0 : Int32) (hI : q_I τ σ) : q_Cp l D yX12_held cX12_held 1 (some .int) 1 21 τ σ [.int x0] (fun r => (q_r r (-99) 99) ∧ (r.toInt = f_X12_held (fx_N σ) x0.toInt)) := by
  refine q_meti rfl (Nat.le_of_ble_eq_true rfl) (fun X hG hE => ?_)
  show q_O X 0 0 τ σ 0 [(0, .int x0)] []
  obtain ⟨Fv, hF⟩ : ∃ z, fx_eq z (f_X12_held (fx_N σ) x0.toInt) := ⟨_, fx_rf⟩
  have hF0 := hF
  unfold f_X12_held at hF
  refine q_bipush (pc := 0) hG dX12_held_0 kb_m99 ?_
  refine q_bipush (pc := 2) hG dX12_held_2 kb_99 ?_
  refine q_iload_n (pc := 4) hG dX12_held_4 0 rfl ?_
  refine q_pS (pc := 5) [.int 99, .int x0] [.int (-99)] hG (c_X12_min τ σ 99 x0 hI) my_X12_min w1000 w999 dX12_held_5 rfl rfl (Nat.le_of_ble_eq_true rfl) (by decide) (fun v5 p5 => ?_)
  have fq5 := p5.2.1
  rewrite [tl_99] at fq5
  replace hF := fx_E hF fq5
  refine q_pS (pc := 8) [.int (-99), .int v5] [] hG (c_X12_max τ σ (-99) v5 hI) my_X12_max w1003 w1002 dX12_held_8 rfl rfl (Nat.le_of_ble_eq_true rfl) (by decide) (fun v8 p8 => ?_)
  have fq8 := p8.2.1
  rewrite [tl_m99] at fq8
  replace hF := fx_E hF fq8
  have r_1 := q_minN (lo := (-2147483648)) (hi := 99) p5.2.2 rl_99 (q_r_any x0) (by decide)
  have r_2 := q_maxN (lo := (-99)) (hi := 99) p8.2.2.1 rl_m99 r_1 (by decide)
  exact q_irt hG hE dX12_held_11 ⟨rfl, r_2, (fx_end hF hF0)⟩
theorem dX12_beginsWith_0 : decode cX12_beginsWith 0 = .ok (.aload_n 0, 1) := by decide +kernel
theorem dX12_beginsWith_1 : decode cX12_beginsWith 1 = .ok (.getfield 7, 3) := by decide +kernel
theorem dX12_beginsWith_4 : decode cX12_beginsWith 4 = .ok (.sipush 516, 3) := by decide +kernel
theorem dX12_beginsWith_7 : decode cX12_beginsWith 7 = .ok (.iload_n 1, 1) := by decide +kernel
theorem dX12_beginsWith_8 : decode cX12_beginsWith 8 = .ok (.iadd, 1) := by decide +kernel
theorem dX12_beginsWith_9 : decode cX12_beginsWith 9 = .ok (.iaload, 1) := by decide +kernel
theorem dX12_beginsWith_10 : decode cX12_beginsWith 10 = .ok (.ifCond .eq 18, 3) := by decide +kernel
theorem dX12_beginsWith_13 : decode cX12_beginsWith 13 = .ok (.aload_n 0, 1) := by decide +kernel
theorem dX12_beginsWith_14 : decode cX12_beginsWith 14 = .ok (.getfield 7, 3) := by decide +kernel
theorem dX12_beginsWith_17 : decode cX12_beginsWith 17 = .ok (.sipush 520, 3) := by decide +kernel
theorem dX12_beginsWith_20 : decode cX12_beginsWith 20 = .ok (.iload_n 1, 1) := by decide +kernel
theorem dX12_beginsWith_21 : decode cX12_beginsWith 21 = .ok (.iadd, 1) := by decide +kernel
theorem dX12_beginsWith_22 : decode cX12_beginsWith 22 = .ok (.iaload, 1) := by decide +kernel
theorem dX12_beginsWith_23 : decode cX12_beginsWith 23 = .ok (.bipush (-2), 2) := by decide +kernel
theorem dX12_beginsWith_25 : decode cX12_beginsWith 25 = .ok (.if_icmp .eq 4, 3) := by decide +kernel
theorem dX12_beginsWith_28 : decode cX12_beginsWith 28 = .ok (.return_, 1) := by decide +kernel
theorem dX12_beginsWith_29 : decode cX12_beginsWith 29 = .ok (.aload_n 0, 1) := by decide +kernel
theorem dX12_beginsWith_30 : decode cX12_beginsWith 30 = .ok (.iload_n 1, 1) := by decide +kernel
theorem dX12_beginsWith_31 : decode cX12_beginsWith 31 = .ok (.invokevirtual 263, 3) := by decide +kernel
theorem dX12_beginsWith_34 : decode cX12_beginsWith 34 = .ok (.istore_n 2, 1) := by decide +kernel
theorem dX12_beginsWith_35 : decode cX12_beginsWith 35 = .ok (.iload_n 2, 1) := by decide +kernel
theorem dX12_beginsWith_36 : decode cX12_beginsWith 36 = .ok (.iconst (-1), 1) := by decide +kernel
theorem dX12_beginsWith_37 : decode cX12_beginsWith 37 = .ok (.if_icmp .ne 15, 3) := by decide +kernel
theorem dX12_beginsWith_40 : decode cX12_beginsWith 40 = .ok (.aload_n 0, 1) := by decide +kernel
theorem dX12_beginsWith_41 : decode cX12_beginsWith 41 = .ok (.getfield 7, 3) := by decide +kernel
theorem dX12_beginsWith_44 : decode cX12_beginsWith 44 = .ok (.sipush 516, 3) := by decide +kernel
theorem dX12_beginsWith_47 : decode cX12_beginsWith 47 = .ok (.iload_n 1, 1) := by decide +kernel
theorem dX12_beginsWith_48 : decode cX12_beginsWith 48 = .ok (.iadd, 1) := by decide +kernel
theorem dX12_beginsWith_49 : decode cX12_beginsWith 49 = .ok (.iconst 0, 1) := by decide +kernel
theorem dX12_beginsWith_50 : decode cX12_beginsWith 50 = .ok (.iastore, 1) := by decide +kernel
theorem dX12_beginsWith_51 : decode cX12_beginsWith 51 = .ok (.return_, 1) := by decide +kernel
theorem dX12_beginsWith_52 : decode cX12_beginsWith 52 = .ok (.aload_n 0, 1) := by decide +kernel
theorem dX12_beginsWith_53 : decode cX12_beginsWith 53 = .ok (.aload_n 0, 1) := by decide +kernel
theorem dX12_beginsWith_54 : decode cX12_beginsWith 54 = .ok (.getfield 7, 3) := by decide +kernel
theorem dX12_beginsWith_57 : decode cX12_beginsWith 57 = .ok (.sipush 513, 3) := by decide +kernel
theorem dX12_beginsWith_60 : decode cX12_beginsWith 60 = .ok (.iaload, 1) := by decide +kernel
theorem dX12_beginsWith_61 : decode cX12_beginsWith 61 = .ok (.invokevirtual 266, 3) := by decide +kernel
theorem dX12_beginsWith_64 : decode cX12_beginsWith 64 = .ok (.aload_n 0, 1) := by decide +kernel
theorem dX12_beginsWith_65 : decode cX12_beginsWith 65 = .ok (.getfield 7, 3) := by decide +kernel
theorem dX12_beginsWith_68 : decode cX12_beginsWith 68 = .ok (.sipush 514, 3) := by decide +kernel
theorem dX12_beginsWith_71 : decode cX12_beginsWith 71 = .ok (.iaload, 1) := by decide +kernel
theorem dX12_beginsWith_72 : decode cX12_beginsWith 72 = .ok (.if_icmp .lt 4, 3) := by decide +kernel
theorem dX12_beginsWith_75 : decode cX12_beginsWith 75 = .ok (.return_, 1) := by decide +kernel
theorem dX12_beginsWith_76 : decode cX12_beginsWith 76 = .ok (.aload_n 0, 1) := by decide +kernel
theorem dX12_beginsWith_77 : decode cX12_beginsWith 77 = .ok (.getfield 7, 3) := by decide +kernel
theorem dX12_beginsWith_80 : decode cX12_beginsWith 80 = .ok (.sipush 520, 3) := by decide +kernel
theorem dX12_beginsWith_83 : decode cX12_beginsWith 83 = .ok (.iload_n 1, 1) := by decide +kernel
theorem dX12_beginsWith_84 : decode cX12_beginsWith 84 = .ok (.iadd, 1) := by decide +kernel
theorem dX12_beginsWith_85 : decode cX12_beginsWith 85 = .ok (.iload_n 2, 1) := by decide +kernel
theorem dX12_beginsWith_86 : decode cX12_beginsWith 86 = .ok (.iastore, 1) := by decide +kernel
theorem dX12_beginsWith_87 : decode cX12_beginsWith 87 = .ok (.aload_n 0, 1) := by decide +kernel
theorem dX12_beginsWith_88 : decode cX12_beginsWith 88 = .ok (.getfield 7, 3) := by decide +kernel
theorem dX12_beginsWith_91 : decode cX12_beginsWith 91 = .ok (.sipush 522, 3) := by decide +kernel
theorem dX12_beginsWith_94 : decode cX12_beginsWith 94 = .ok (.iload_n 1, 1) := by decide +kernel
theorem dX12_beginsWith_95 : decode cX12_beginsWith 95 = .ok (.iadd, 1) := by decide +kernel
theorem dX12_beginsWith_96 : decode cX12_beginsWith 96 = .ok (.aload_n 0, 1) := by decide +kernel
theorem dX12_beginsWith_97 : decode cX12_beginsWith 97 = .ok (.iload_n 2, 1) := by decide +kernel
theorem dX12_beginsWith_98 : decode cX12_beginsWith 98 = .ok (.aload_n 0, 1) := by decide +kernel
theorem dX12_beginsWith_99 : decode cX12_beginsWith 99 = .ok (.getfield 7, 3) := by decide +kernel
theorem dX12_beginsWith_102 : decode cX12_beginsWith 102 = .ok (.sipush 513, 3) := by decide +kernel
theorem dX12_beginsWith_105 : decode cX12_beginsWith 105 = .ok (.iaload, 1) := by decide +kernel
theorem dX12_beginsWith_106 : decode cX12_beginsWith 106 = .ok (.iload_n 1, 1) := by decide +kernel
theorem dX12_beginsWith_107 : decode cX12_beginsWith 107 = .ok (.invokevirtual 269, 3) := by decide +kernel
theorem dX12_beginsWith_110 : decode cX12_beginsWith 110 = .ok (.iastore, 1) := by decide +kernel
theorem dX12_beginsWith_111 : decode cX12_beginsWith 111 = .ok (.return_, 1) := by decide +kernel
def md_X12_beginsWith : List (Nat × Nat) := [(100, 0), (162, 0), (163, 0)]
set_option maxRecDepth 100000 in
set_option maxHeartbeats 4000000 in
theorem c_X12_beginsWith {l : Launch} {D : q_D} (τ : q_T) (σ : q_V) (a0 : Nat) (x1 : Int32) (hI : q_I τ σ) (tA0 : τ a0 = some (10, 1)) (rA1 : q_r x1 0 1) (hW : q_wf σ a0) : q_Cv l D yX12_beginsWith cX12_beginsWith 3 none 4 97 τ σ [.ref a0, .int x1] (fun σ1 => q_S md_X12_beginsWith τ σ σ1 ∧ (fx_N σ1 = f_X12_beginsWith (fx_N σ) a0 x1.toInt) ∧ (∀ bn : Nat, σ a0 0 = .ref bn → fx_kr σ σ1 bn)) := by
  refine q_metv rfl (Nat.le_of_ble_eq_true rfl) (fun X hG hE => ?_)
  show q_O X 0 0 τ σ 0 [(0, .ref a0), (1, .int x1)] []
  have hS0 : q_S md_X12_beginsWith τ σ σ := q_S.rf hI
  obtain ⟨Fv, hF⟩ : ∃ z, fx_eq z (f_X12_beginsWith (fx_N σ) a0 x1.toInt) := ⟨_, fx_rf⟩
  have hF0 := hF
  unfold f_X12_beginsWith at hF
  obtain ⟨q_1b, q_1f, q_1T⟩ := (hI a0 10 1 tA0 0 (by decide)).ref (k := 100) (n := 549) rfl
  replace hF := fx_R hF q_1f rfl
  refine q_aload_n (pc := 0) hG dX12_beginsWith_0 0 rfl ?_
  refine q_getV (pc := 1) (v := .ref q_1b) hG fl_X12_7 dX12_beginsWith_1 tA0 q_1f ?_
  refine q_sipush (pc := 4) hG dX12_beginsWith_4 ks_516 ?_
  refine q_iload_n (pc := 7) hG dX12_beginsWith_7 1 rfl ?_
  refine q_iadd (pc := 8) hG dX12_beginsWith_8 (fun v8 e8 => ?_)
  replace hF := fx_add hF tl_516 rfl (q_addN (lo := 516) (hi := 517) e8 rl_516 rA1 (by decide)).1
  have r_2 := (q_addN (lo := 516) (hi := 517) e8 rl_516 rA1 (by decide)).2
  refine q_nald (pc := 9) hG dX12_beginsWith_9 hI q_1T (q_ix r_2 (by decide)) (fun v9 f9 => ?_)
  replace hF := fx_I hF f9 rfl
  refine q_if_eq (pc := 10) hG 28 dX12_beginsWith_10 rfl ?_ ?_
  · intro c10
    replace hF := fx_eq1 hF rfl rfl c10
    exact q_vrt hG hE dX12_beginsWith_28 ⟨hS0, (fx_end hF hF0), (fun bn hbn => by cases hbn.symm.trans q_1f; exact fx_kr.rf)⟩
  intro c10
  replace hF := fx_eq2 hF rfl rfl c10
  refine q_aload_n (pc := 13) hG dX12_beginsWith_13 0 rfl ?_
  refine q_getV (pc := 14) (v := .ref q_1b) hG fl_X12_7 dX12_beginsWith_14 tA0 q_1f ?_
  refine q_sipush (pc := 17) hG dX12_beginsWith_17 ks_520 ?_
  refine q_iload_n (pc := 20) hG dX12_beginsWith_20 1 rfl ?_
  refine q_iadd (pc := 21) hG dX12_beginsWith_21 (fun v21 e21 => ?_)
  replace hF := fx_add hF tl_520 rfl (q_addN (lo := 520) (hi := 521) e21 rl_520 rA1 (by decide)).1
  have r_3 := (q_addN (lo := 520) (hi := 521) e21 rl_520 rA1 (by decide)).2
  refine q_nald3 (pc := 22) (a1 := -2) (a2 := 63) hG dX12_beginsWith_22 hI q_1T (q_ix r_3 (by decide)) (q_npaint r_3 (by decide)) (fun v22 f22 g22 n22 => ?_)
  replace hF := fx_I hF f22 rfl
  refine q_bipush (pc := 23) hG dX12_beginsWith_23 kb_m2 ?_
  refine q_icmp_eq (pc := 25) hG 29 dX12_beginsWith_25 rfl ?_ ?_
  · intro c25
    replace hF := fx_eq1 hF rfl tl_m2 c25
    refine q_aload_n (pc := 29) hG dX12_beginsWith_29 0 rfl ?_
    refine q_iload_n (pc := 30) hG dX12_beginsWith_30 1 rfl ?_
    refine q_pV (pc := 31) [.int x1] [] hG (c_X12_nextOf τ σ a0 x1 hI tA0) my_X12_nextOf mv_X12_nextOf w966 dX12_beginsWith_31 tA0 (by decide) rfl rfl (Nat.le_of_ble_eq_true rfl) (by decide) (fun v31 p31 => ?_)
    replace hF := fx_E hF p31.2
    refine q_istore_n (pc := 34) [(2, .int v31), (0, .ref a0), (1, .int x1)] hG dX12_beginsWith_34 (by decide) rfl ?_
    refine q_iload_n (pc := 35) hG dX12_beginsWith_35 0 rfl ?_
    refine q_iconst (pc := 36) hG dX12_beginsWith_36 ki_m1 ?_
    refine q_icmp_ne (pc := 37) hG 52 dX12_beginsWith_37 rfl ?_ ?_
    · intro c37
      replace hF := fx_eq2 hF rfl tl_m1 c37
      refine q_aload_n (pc := 52) hG dX12_beginsWith_52 1 rfl ?_
      refine q_aload_n (pc := 53) hG dX12_beginsWith_53 1 rfl ?_
      refine q_getV (pc := 54) (v := .ref q_1b) hG fl_X12_7 dX12_beginsWith_54 tA0 q_1f ?_
      refine q_sipush (pc := 57) hG dX12_beginsWith_57 ks_513 ?_
      refine q_nald (pc := 60) hG dX12_beginsWith_60 hI q_1T (q_ix rl_513 (by decide)) (fun v60 f60 => ?_)
      replace hF := fx_I hF f60 (congrArg Int.toNat tl_513)
      refine q_pV (pc := 61) [.int v60] [] hG (c_X12_busy τ σ a0 v60 hI tA0) my_X12_busy mv_X12_busy w972 dX12_beginsWith_61 tA0 (by decide) rfl rfl (Nat.le_of_ble_eq_true rfl) (by decide) (fun v61 p61 => ?_)
      replace hF := fx_E hF p61.2
      refine q_aload_n (pc := 64) hG dX12_beginsWith_64 1 rfl ?_
      refine q_getV (pc := 65) (v := .ref q_1b) hG fl_X12_7 dX12_beginsWith_65 tA0 q_1f ?_
      refine q_sipush (pc := 68) hG dX12_beginsWith_68 ks_514 ?_
      refine q_nald (pc := 71) hG dX12_beginsWith_71 hI q_1T (q_ix rl_514 (by decide)) (fun v71 f71 => ?_)
      replace hF := fx_I hF f71 (congrArg Int.toNat tl_514)
      refine q_icmp_lt (pc := 72) hG 76 dX12_beginsWith_72 rfl ?_ ?_
      · intro c72
        replace hF := fx_lt1 hF rfl rfl c72
        refine q_aload_n (pc := 76) hG dX12_beginsWith_76 1 rfl ?_
        refine q_getV (pc := 77) (v := .ref q_1b) hG fl_X12_7 dX12_beginsWith_77 tA0 q_1f ?_
        refine q_sipush (pc := 80) hG dX12_beginsWith_80 ks_520 ?_
        refine q_iload_n (pc := 83) hG dX12_beginsWith_83 2 rfl ?_
        refine q_iadd (pc := 84) hG dX12_beginsWith_84 (fun v84 e84 => ?_)
        rw [e84.trans e21.symm]
        refine q_iload_n (pc := 85) hG dX12_beginsWith_85 0 rfl ?_
        have r_4 := q_neL (c := 0) p31.1 (q_nel c37 tl_m1) (by decide)
        refine q_nast3 (pc := 86) hG dX12_beginsWith_86 hS0 q_1T (q_ix r_3 (by decide)) (q_npaint r_3 (by decide)) r_4 (by decide) (by have o0 := c37; have o1 := r_4; have l2 := tl_m1; unfold q_r at o1; omega) rfl (fun s86 u86 w86 => ?_)
        replace hF := fx_P hF u86 rfl rfl
        have m86 : s86 q_1b v21.toInt.toNat = .int v31 := by rw [u86]; exact q_up_same
        refine q_aload_n (pc := 87) hG dX12_beginsWith_87 1 rfl ?_
        refine q_getV (pc := 88) (v := .ref q_1b) hG fl_X12_7 dX12_beginsWith_88 tA0 (w86.same tA0 rfl q_1f) ?_
        refine q_sipush (pc := 91) hG dX12_beginsWith_91 ks_522 ?_
        refine q_iload_n (pc := 94) hG dX12_beginsWith_94 2 rfl ?_
        refine q_iadd (pc := 95) hG dX12_beginsWith_95 (fun v95 e95 => ?_)
        replace hF := fx_add hF tl_522 rfl (q_addN (lo := 522) (hi := 523) e95 rl_522 rA1 (by decide)).1
        refine q_aload_n (pc := 96) hG dX12_beginsWith_96 1 rfl ?_
        refine q_iload_n (pc := 97) hG dX12_beginsWith_97 0 rfl ?_
        refine q_aload_n (pc := 98) hG dX12_beginsWith_98 1 rfl ?_
        refine q_getV (pc := 99) (v := .ref q_1b) hG fl_X12_7 dX12_beginsWith_99 tA0 (w86.same tA0 rfl q_1f) ?_
        refine q_sipush (pc := 102) hG dX12_beginsWith_102 ks_513 ?_
        refine q_nald (pc := 105) hG dX12_beginsWith_105 w86.1 q_1T (q_ix rl_513 (by decide)) (fun v105 f105 => ?_)
        replace hF := fx_I hF f105 (congrArg Int.toNat tl_513)
        refine q_iload_n (pc := 106) hG dX12_beginsWith_106 2 rfl ?_
        refine q_cVi (pc := 107) [.int v31, .int v105, .int x1] [.int v95, .ref q_1b] hG (c_X12_paintsFor τ s86 a0 v31 v105 x1 w86.1 tA0 r_4 (q_wf.keep hI w86.2 tA0 rfl hW)) my_X12_paintsFor mv_X12_paintsFor w978 dX12_beginsWith_107 tA0 (by decide) rfl rfl (Nat.le_of_ble_eq_true rfl) (by decide) (fun v107 s107 p107 => ?_)
        have w107 := w86.trans p107.1 rfl
        replace hF := fx_C hF p107.2.2
        have r_5 := (q_addN (lo := 522) (hi := 523) e95 rl_522 rA1 (by decide)).2
        refine q_nast (pc := 110) hG dX12_beginsWith_110 w107 q_1T (q_ix r_5 (by decide)) (q_nfree (by have q := r_5; unfold q_r at q; omega)) p107.2.1 (by decide) rfl (fun s110 u110 w110 => ?_)
        replace hF := fx_P hF u110 rfl rfl
        have m110 : s110 q_1b v95.toInt.toNat = .int v107 := by rw [u110]; exact q_up_same
        have kr_6 : fx_kr σ s110 q_1b := (fx_kr.P (fx_kr.C (fx_kr.P fx_kr.rf u86 r_3 (by decide)) p107.1 q_1T rfl) u110 r_5 (by decide))
        exact q_vrt hG hE dX12_beginsWith_111 ⟨w110, (fx_end hF hF0), (fun bn hbn => by cases hbn.symm.trans q_1f; exact kr_6)⟩
      intro c72
      replace hF := fx_lt2 hF rfl rfl c72
      exact q_vrt hG hE dX12_beginsWith_75 ⟨hS0, (fx_end hF hF0), (fun bn hbn => by cases hbn.symm.trans q_1f; exact fx_kr.rf)⟩
    intro c37
    replace hF := fx_eq1 hF rfl tl_m1 c37
    refine q_aload_n (pc := 40) hG dX12_beginsWith_40 1 rfl ?_
    refine q_getV (pc := 41) (v := .ref q_1b) hG fl_X12_7 dX12_beginsWith_41 tA0 q_1f ?_
    refine q_sipush (pc := 44) hG dX12_beginsWith_44 ks_516 ?_
    refine q_iload_n (pc := 47) hG dX12_beginsWith_47 2 rfl ?_
    refine q_iadd (pc := 48) hG dX12_beginsWith_48 (fun v48 e48 => ?_)
    rw [e48.trans e8.symm]
    refine q_iconst (pc := 49) hG dX12_beginsWith_49 ki_0 ?_
    refine q_nast (pc := 50) hG dX12_beginsWith_50 hS0 q_1T (q_ix r_2 (by decide)) (q_nfree (by have q := r_2; unfold q_r at q; omega)) rl_0 (by decide) rfl (fun s50 u50 w50 => ?_)
    replace hF := fx_P hF u50 rfl tl_0
    have m50 : s50 q_1b v8.toInt.toNat = .int 0 := by rw [u50]; exact q_up_same
    have kr_7 : fx_kr σ s50 q_1b := (fx_kr.P fx_kr.rf u50 r_2 (by decide))
    exact q_vrt hG hE dX12_beginsWith_51 ⟨w50, (fx_end hF hF0), (fun bn hbn => by cases hbn.symm.trans q_1f; exact kr_7)⟩
  intro c25
  replace hF := fx_eq2 hF rfl tl_m2 c25
  exact q_vrt hG hE dX12_beginsWith_28 ⟨hS0, (fx_end hF hF0), (fun bn hbn => by cases hbn.symm.trans q_1f; exact fx_kr.rf)⟩
theorem dX12_paintsOn_0 : decode cX12_paintsOn 0 = .ok (.aload_n 0, 1) := by decide +kernel
theorem dX12_paintsOn_1 : decode cX12_paintsOn 1 = .ok (.getfield 7, 3) := by decide +kernel
theorem dX12_paintsOn_4 : decode cX12_paintsOn 4 = .ok (.sipush 520, 3) := by decide +kernel
theorem dX12_paintsOn_7 : decode cX12_paintsOn 7 = .ok (.iload_n 1, 1) := by decide +kernel
theorem dX12_paintsOn_8 : decode cX12_paintsOn 8 = .ok (.iadd, 1) := by decide +kernel
theorem dX12_paintsOn_9 : decode cX12_paintsOn 9 = .ok (.iaload, 1) := by decide +kernel
theorem dX12_paintsOn_10 : decode cX12_paintsOn 10 = .ok (.istore_n 2, 1) := by decide +kernel
theorem dX12_paintsOn_11 : decode cX12_paintsOn 11 = .ok (.iload_n 2, 1) := by decide +kernel
theorem dX12_paintsOn_12 : decode cX12_paintsOn 12 = .ok (.bipush (-2), 2) := by decide +kernel
theorem dX12_paintsOn_14 : decode cX12_paintsOn 14 = .ok (.if_icmp .ne 4, 3) := by decide +kernel
theorem dX12_paintsOn_17 : decode cX12_paintsOn 17 = .ok (.return_, 1) := by decide +kernel
theorem dX12_paintsOn_18 : decode cX12_paintsOn 18 = .ok (.aload_n 0, 1) := by decide +kernel
theorem dX12_paintsOn_19 : decode cX12_paintsOn 19 = .ok (.getfield 7, 3) := by decide +kernel
theorem dX12_paintsOn_22 : decode cX12_paintsOn 22 = .ok (.sipush 522, 3) := by decide +kernel
theorem dX12_paintsOn_25 : decode cX12_paintsOn 25 = .ok (.iload_n 1, 1) := by decide +kernel
theorem dX12_paintsOn_26 : decode cX12_paintsOn 26 = .ok (.iadd, 1) := by decide +kernel
theorem dX12_paintsOn_27 : decode cX12_paintsOn 27 = .ok (.aload_n 0, 1) := by decide +kernel
theorem dX12_paintsOn_28 : decode cX12_paintsOn 28 = .ok (.getfield 7, 3) := by decide +kernel
theorem dX12_paintsOn_31 : decode cX12_paintsOn 31 = .ok (.sipush 522, 3) := by decide +kernel
theorem dX12_paintsOn_34 : decode cX12_paintsOn 34 = .ok (.iload_n 1, 1) := by decide +kernel
theorem dX12_paintsOn_35 : decode cX12_paintsOn 35 = .ok (.iadd, 1) := by decide +kernel
theorem dX12_paintsOn_36 : decode cX12_paintsOn 36 = .ok (.iaload, 1) := by decide +kernel
theorem dX12_paintsOn_37 : decode cX12_paintsOn 37 = .ok (.iconst 1, 1) := by decide +kernel
theorem dX12_paintsOn_38 : decode cX12_paintsOn 38 = .ok (.isub, 1) := by decide +kernel
theorem dX12_paintsOn_39 : decode cX12_paintsOn 39 = .ok (.iastore, 1) := by decide +kernel
theorem dX12_paintsOn_40 : decode cX12_paintsOn 40 = .ok (.aload_n 0, 1) := by decide +kernel
theorem dX12_paintsOn_41 : decode cX12_paintsOn 41 = .ok (.getfield 7, 3) := by decide +kernel
theorem dX12_paintsOn_44 : decode cX12_paintsOn 44 = .ok (.sipush 522, 3) := by decide +kernel
theorem dX12_paintsOn_47 : decode cX12_paintsOn 47 = .ok (.iload_n 1, 1) := by decide +kernel
theorem dX12_paintsOn_48 : decode cX12_paintsOn 48 = .ok (.iadd, 1) := by decide +kernel
theorem dX12_paintsOn_49 : decode cX12_paintsOn 49 = .ok (.iaload, 1) := by decide +kernel
theorem dX12_paintsOn_50 : decode cX12_paintsOn 50 = .ok (.ifCond .le 4, 3) := by decide +kernel
theorem dX12_paintsOn_53 : decode cX12_paintsOn 53 = .ok (.return_, 1) := by decide +kernel
theorem dX12_paintsOn_54 : decode cX12_paintsOn 54 = .ok (.aload_n 0, 1) := by decide +kernel
theorem dX12_paintsOn_55 : decode cX12_paintsOn 55 = .ok (.getfield 7, 3) := by decide +kernel
theorem dX12_paintsOn_58 : decode cX12_paintsOn 58 = .ok (.sipush 256, 3) := by decide +kernel
theorem dX12_paintsOn_61 : decode cX12_paintsOn 61 = .ok (.iload_n 2, 1) := by decide +kernel
theorem dX12_paintsOn_62 : decode cX12_paintsOn 62 = .ok (.iadd, 1) := by decide +kernel
theorem dX12_paintsOn_63 : decode cX12_paintsOn 63 = .ok (.aload_n 0, 1) := by decide +kernel
theorem dX12_paintsOn_64 : decode cX12_paintsOn 64 = .ok (.getfield 7, 3) := by decide +kernel
theorem dX12_paintsOn_67 : decode cX12_paintsOn 67 = .ok (.iconst 0, 1) := by decide +kernel
theorem dX12_paintsOn_68 : decode cX12_paintsOn 68 = .ok (.iload_n 2, 1) := by decide +kernel
theorem dX12_paintsOn_69 : decode cX12_paintsOn 69 = .ok (.iadd, 1) := by decide +kernel
theorem dX12_paintsOn_70 : decode cX12_paintsOn 70 = .ok (.iaload, 1) := by decide +kernel
theorem dX12_paintsOn_71 : decode cX12_paintsOn 71 = .ok (.aload_n 0, 1) := by decide +kernel
theorem dX12_paintsOn_72 : decode cX12_paintsOn 72 = .ok (.getfield 7, 3) := by decide +kernel
theorem dX12_paintsOn_75 : decode cX12_paintsOn 75 = .ok (.sipush 518, 3) := by decide +kernel
theorem dX12_paintsOn_78 : decode cX12_paintsOn 78 = .ok (.iload_n 1, 1) := by decide +kernel
theorem dX12_paintsOn_79 : decode cX12_paintsOn 79 = .ok (.iadd, 1) := by decide +kernel
theorem dX12_paintsOn_80 : decode cX12_paintsOn 80 = .ok (.iaload, 1) := by decide +kernel
theorem dX12_paintsOn_81 : decode cX12_paintsOn 81 = .ok (.iadd, 1) := by decide +kernel
theorem dX12_paintsOn_82 : decode cX12_paintsOn 82 = .ok (.invokestatic 272, 3) := by decide +kernel
theorem dX12_paintsOn_85 : decode cX12_paintsOn 85 = .ok (.iastore, 1) := by decide +kernel
theorem dX12_paintsOn_86 : decode cX12_paintsOn 86 = .ok (.aload_n 0, 1) := by decide +kernel
theorem dX12_paintsOn_87 : decode cX12_paintsOn 87 = .ok (.getfield 7, 3) := by decide +kernel
theorem dX12_paintsOn_90 : decode cX12_paintsOn 90 = .ok (.sipush 320, 3) := by decide +kernel
theorem dX12_paintsOn_93 : decode cX12_paintsOn 93 = .ok (.iload_n 2, 1) := by decide +kernel
theorem dX12_paintsOn_94 : decode cX12_paintsOn 94 = .ok (.iadd, 1) := by decide +kernel
theorem dX12_paintsOn_95 : decode cX12_paintsOn 95 = .ok (.aload_n 0, 1) := by decide +kernel
theorem dX12_paintsOn_96 : decode cX12_paintsOn 96 = .ok (.getfield 7, 3) := by decide +kernel
theorem dX12_paintsOn_99 : decode cX12_paintsOn 99 = .ok (.sipush 513, 3) := by decide +kernel
theorem dX12_paintsOn_102 : decode cX12_paintsOn 102 = .ok (.iaload, 1) := by decide +kernel
theorem dX12_paintsOn_103 : decode cX12_paintsOn 103 = .ok (.iconst 1, 1) := by decide +kernel
theorem dX12_paintsOn_104 : decode cX12_paintsOn 104 = .ok (.iadd, 1) := by decide +kernel
theorem dX12_paintsOn_105 : decode cX12_paintsOn 105 = .ok (.iastore, 1) := by decide +kernel
theorem dX12_paintsOn_106 : decode cX12_paintsOn 106 = .ok (.aload_n 0, 1) := by decide +kernel
theorem dX12_paintsOn_107 : decode cX12_paintsOn 107 = .ok (.getfield 7, 3) := by decide +kernel
theorem dX12_paintsOn_110 : decode cX12_paintsOn 110 = .ok (.sipush 384, 3) := by decide +kernel
theorem dX12_paintsOn_113 : decode cX12_paintsOn 113 = .ok (.iload_n 2, 1) := by decide +kernel
theorem dX12_paintsOn_114 : decode cX12_paintsOn 114 = .ok (.iadd, 1) := by decide +kernel
theorem dX12_paintsOn_115 : decode cX12_paintsOn 115 = .ok (.aload_n 0, 1) := by decide +kernel
theorem dX12_paintsOn_116 : decode cX12_paintsOn 116 = .ok (.iload_n 2, 1) := by decide +kernel
theorem dX12_paintsOn_117 : decode cX12_paintsOn 117 = .ok (.aload_n 0, 1) := by decide +kernel
theorem dX12_paintsOn_118 : decode cX12_paintsOn 118 = .ok (.getfield 7, 3) := by decide +kernel
theorem dX12_paintsOn_121 : decode cX12_paintsOn 121 = .ok (.sipush 513, 3) := by decide +kernel
theorem dX12_paintsOn_124 : decode cX12_paintsOn 124 = .ok (.iaload, 1) := by decide +kernel
theorem dX12_paintsOn_125 : decode cX12_paintsOn 125 = .ok (.iconst 1, 1) := by decide +kernel
theorem dX12_paintsOn_126 : decode cX12_paintsOn 126 = .ok (.iadd, 1) := by decide +kernel
theorem dX12_paintsOn_127 : decode cX12_paintsOn 127 = .ok (.iload_n 1, 1) := by decide +kernel
theorem dX12_paintsOn_128 : decode cX12_paintsOn 128 = .ok (.invokevirtual 275, 3) := by decide +kernel
theorem dX12_paintsOn_131 : decode cX12_paintsOn 131 = .ok (.iastore, 1) := by decide +kernel
theorem dX12_paintsOn_132 : decode cX12_paintsOn 132 = .ok (.aload_n 0, 1) := by decide +kernel
theorem dX12_paintsOn_133 : decode cX12_paintsOn 133 = .ok (.getfield 7, 3) := by decide +kernel
theorem dX12_paintsOn_136 : decode cX12_paintsOn 136 = .ok (.sipush 520, 3) := by decide +kernel
theorem dX12_paintsOn_139 : decode cX12_paintsOn 139 = .ok (.iload_n 1, 1) := by decide +kernel
theorem dX12_paintsOn_140 : decode cX12_paintsOn 140 = .ok (.iadd, 1) := by decide +kernel
theorem dX12_paintsOn_141 : decode cX12_paintsOn 141 = .ok (.bipush (-2), 2) := by decide +kernel
theorem dX12_paintsOn_143 : decode cX12_paintsOn 143 = .ok (.iastore, 1) := by decide +kernel
theorem dX12_paintsOn_144 : decode cX12_paintsOn 144 = .ok (.aload_n 0, 1) := by decide +kernel
theorem dX12_paintsOn_145 : decode cX12_paintsOn 145 = .ok (.aload_n 0, 1) := by decide +kernel
theorem dX12_paintsOn_146 : decode cX12_paintsOn 146 = .ok (.getfield 278, 3) := by decide +kernel
theorem dX12_paintsOn_149 : decode cX12_paintsOn 149 = .ok (.iconst 1, 1) := by decide +kernel
theorem dX12_paintsOn_150 : decode cX12_paintsOn 150 = .ok (.iadd, 1) := by decide +kernel
theorem dX12_paintsOn_151 : decode cX12_paintsOn 151 = .ok (.putfield 278, 3) := by decide +kernel
theorem dX12_paintsOn_154 : decode cX12_paintsOn 154 = .ok (.return_, 1) := by decide +kernel
def md_X12_paintsOn : List (Nat × Nat) := [(10, 29), (100, 0), (162, 0), (163, 0)]
set_option maxRecDepth 100000 in
set_option maxHeartbeats 4000000 in
theorem c_X12_paintsOn {l : Launch} {D : q_D} (τ : q_T) (σ : q_V) (a0 : Nat) (x1 : Int32) (hI : q_I τ σ) (tA0 : τ a0 = some (10, 1)) (rA1 : q_r x1 0 1) (hW : q_wf σ a0) : q_Cv l D yX12_paintsOn cX12_paintsOn 3 none 4 97 τ σ [.ref a0, .int x1] (fun σ1 => q_S md_X12_paintsOn τ σ σ1 ∧ (fx_N σ1 = f_X12_paintsOn (fx_N σ) a0 x1.toInt) ∧ (∀ bn : Nat, σ a0 0 = .ref bn → fx_kr σ σ1 bn)) := by
  refine q_metv rfl (Nat.le_of_ble_eq_true rfl) (fun X hG hE => ?_)
  show q_O X 0 0 τ σ 0 [(0, .ref a0), (1, .int x1)] []
  have hS0 : q_S md_X12_paintsOn τ σ σ := q_S.rf hI
  obtain ⟨Fv, hF⟩ : ∃ z, fx_eq z (f_X12_paintsOn (fx_N σ) a0 x1.toInt) := ⟨_, fx_rf⟩
  have hF0 := hF
  unfold f_X12_paintsOn at hF
  obtain ⟨q_1b, q_1f, q_1T⟩ := (hI a0 10 1 tA0 0 (by decide)).ref (k := 100) (n := 549) rfl
  replace hF := fx_R hF q_1f rfl
  refine q_aload_n (pc := 0) hG dX12_paintsOn_0 0 rfl ?_
  refine q_getV (pc := 1) (v := .ref q_1b) hG fl_X12_7 dX12_paintsOn_1 tA0 q_1f ?_
  refine q_sipush (pc := 4) hG dX12_paintsOn_4 ks_520 ?_
  refine q_iload_n (pc := 7) hG dX12_paintsOn_7 1 rfl ?_
  refine q_iadd (pc := 8) hG dX12_paintsOn_8 (fun v8 e8 => ?_)
  replace hF := fx_add hF tl_520 rfl (q_addN (lo := 520) (hi := 521) e8 rl_520 rA1 (by decide)).1
  have r_2 := (q_addN (lo := 520) (hi := 521) e8 rl_520 rA1 (by decide)).2
  refine q_nald3 (pc := 9) (a1 := -2) (a2 := 63) hG dX12_paintsOn_9 hI q_1T (q_ix r_2 (by decide)) (q_npaint r_2 (by decide)) (fun v9 f9 g9 n9 => ?_)
  replace hF := fx_I hF f9 rfl
  refine q_istore_n (pc := 10) [(2, .int v9), (0, .ref a0), (1, .int x1)] hG dX12_paintsOn_10 (by decide) rfl ?_
  refine q_iload_n (pc := 11) hG dX12_paintsOn_11 0 rfl ?_
  refine q_bipush (pc := 12) hG dX12_paintsOn_12 kb_m2 ?_
  refine q_icmp_ne (pc := 14) hG 18 dX12_paintsOn_14 rfl ?_ ?_
  · intro c14
    replace hF := fx_eq2 hF rfl tl_m2 c14
    refine q_aload_n (pc := 18) hG dX12_paintsOn_18 1 rfl ?_
    refine q_getV (pc := 19) (v := .ref q_1b) hG fl_X12_7 dX12_paintsOn_19 tA0 q_1f ?_
    refine q_sipush (pc := 22) hG dX12_paintsOn_22 ks_522 ?_
    refine q_iload_n (pc := 25) hG dX12_paintsOn_25 2 rfl ?_
    refine q_iadd (pc := 26) hG dX12_paintsOn_26 (fun v26 e26 => ?_)
    replace hF := fx_add hF tl_522 rfl (q_addN (lo := 522) (hi := 523) e26 rl_522 rA1 (by decide)).1
    refine q_aload_n (pc := 27) hG dX12_paintsOn_27 1 rfl ?_
    refine q_getV (pc := 28) (v := .ref q_1b) hG fl_X12_7 dX12_paintsOn_28 tA0 q_1f ?_
    refine q_sipush (pc := 31) hG dX12_paintsOn_31 ks_522 ?_
    refine q_iload_n (pc := 34) hG dX12_paintsOn_34 2 rfl ?_
    refine q_iadd (pc := 35) hG dX12_paintsOn_35 (fun v35 e35 => ?_)
    rw [e35.trans e26.symm]
    have r_3 := (q_addN (lo := 522) (hi := 523) e26 rl_522 rA1 (by decide)).2
    refine q_nald (pc := 36) hG dX12_paintsOn_36 hI q_1T (q_ix r_3 (by decide)) (fun v36 f36 => ?_)
    replace hF := fx_I hF f36 rfl
    refine q_iconst (pc := 37) hG dX12_paintsOn_37 ki_1 ?_
    refine q_isub (pc := 38) hG dX12_paintsOn_38 (fun v38 e38 => ?_)
    replace hF := fx_B_sub hF rfl tl_1 e38
    refine q_nast (pc := 39) hG dX12_paintsOn_39 hS0 q_1T (q_ix r_3 (by decide)) (q_nfree (by have q := r_3; unfold q_r at q; omega)) (q_r_any v38) (by decide) rfl (fun s39 u39 w39 => ?_)
    replace hF := fx_P hF u39 rfl rfl
    have m39 : s39 q_1b v26.toInt.toNat = .int v38 := by rw [u39]; exact q_up_same
    refine q_aload_n (pc := 40) hG dX12_paintsOn_40 1 rfl ?_
    refine q_getV (pc := 41) (v := .ref q_1b) hG fl_X12_7 dX12_paintsOn_41 tA0 (w39.same tA0 rfl q_1f) ?_
    refine q_sipush (pc := 44) hG dX12_paintsOn_44 ks_522 ?_
    refine q_iload_n (pc := 47) hG dX12_paintsOn_47 2 rfl ?_
    refine q_iadd (pc := 48) hG dX12_paintsOn_48 (fun v48 e48 => ?_)
    rw [e48.trans e26.symm]
    refine q_ialdV (pc := 49) (v := .int v38) hG dX12_paintsOn_49 q_1T (by decide) (by decide) (q_ix r_3 (by decide)) m39 ?_
    refine q_if_le (pc := 50) hG 54 dX12_paintsOn_50 rfl ?_ ?_
    · intro c50
      replace hF := fx_lt2 hF rfl rfl c50
      refine q_aload_n (pc := 54) hG dX12_paintsOn_54 1 rfl ?_
      refine q_getV (pc := 55) (v := .ref q_1b) hG fl_X12_7 dX12_paintsOn_55 tA0 (w39.same tA0 rfl q_1f) ?_
      refine q_sipush (pc := 58) hG dX12_paintsOn_58 ks_256 ?_
      refine q_iload_n (pc := 61) hG dX12_paintsOn_61 0 rfl ?_
      refine q_iadd (pc := 62) hG dX12_paintsOn_62 (fun v62 e62 => ?_)
      have r_4 := q_neL (c := (-1)) g9 (q_nel c14 tl_m2) (by decide)
      replace hF := fx_add hF tl_256 rfl (q_addN (lo := 255) (hi := 319) e62 rl_256 r_4 (by decide)).1
      refine q_aload_n (pc := 63) hG dX12_paintsOn_63 1 rfl ?_
      refine q_getV (pc := 64) (v := .ref q_1b) hG fl_X12_7 dX12_paintsOn_64 tA0 (w39.same tA0 rfl q_1f) ?_
      refine q_iconst (pc := 67) hG dX12_paintsOn_67 ki_0 ?_
      refine q_iload_n (pc := 68) hG dX12_paintsOn_68 0 rfl ?_
      refine q_iadd (pc := 69) hG dX12_paintsOn_69 (fun v69 e69 => ?_)
      replace hF := fx_add hF tl_0 rfl (q_addN (lo := (-1)) (hi := 63) e69 rl_0 r_4 (by decide)).1
      have r_5 := (q_addN (lo := 255) (hi := 319) e62 rl_256 r_4 (by decide)).2
      have r_6 := (q_addN (lo := (-1)) (hi := 63) e69 rl_0 r_4 (by decide)).2
      refine q_nald (pc := 70) hG dX12_paintsOn_70 w39.1 q_1T (by have o0 := (q_addN (lo := (-1)) (hi := 63) e69 rl_0 r_4 (by decide)).1; have o1 := n9; have o2 := c14; have o3 := (q_addN (lo := 255) (hi := 319) e62 rl_256 r_4 (by decide)).1; have o4 := r_5; have o5 := r_6; have o6 := r_4; have l7 := tl_m2; have l8 := tl_0; have l9 := tl_256; unfold q_r at o4 o5 o6; omega) (fun v70 f70 => ?_)
      replace hF := fx_I hF f70 rfl
      refine q_aload_n (pc := 71) hG dX12_paintsOn_71 1 rfl ?_
      refine q_getV (pc := 72) (v := .ref q_1b) hG fl_X12_7 dX12_paintsOn_72 tA0 (w39.same tA0 rfl q_1f) ?_
      refine q_sipush (pc := 75) hG dX12_paintsOn_75 ks_518 ?_
      refine q_iload_n (pc := 78) hG dX12_paintsOn_78 2 rfl ?_
      refine q_iadd (pc := 79) hG dX12_paintsOn_79 (fun v79 e79 => ?_)
      replace hF := fx_add hF tl_518 rfl (q_addN (lo := 518) (hi := 519) e79 rl_518 rA1 (by decide)).1
      have r_7 := (q_addN (lo := 518) (hi := 519) e79 rl_518 rA1 (by decide)).2
      refine q_nald (pc := 80) hG dX12_paintsOn_80 w39.1 q_1T (q_ix r_7 (by decide)) (fun v80 f80 => ?_)
      replace hF := fx_I hF f80 rfl
      refine q_iadd (pc := 81) hG dX12_paintsOn_81 (fun v81 e81 => ?_)
      replace hF := fx_B_add hF rfl rfl e81
      refine q_pS (pc := 82) [.int v81] [.int v62, .ref q_1b] hG (c_X12_held τ s39 v81 w39.1) my_X12_held w997 w996 dX12_paintsOn_82 rfl rfl (Nat.le_of_ble_eq_true rfl) (by decide) (fun v82 p82 => ?_)
      replace hF := fx_E hF p82.2
      refine q_nast (pc := 85) hG dX12_paintsOn_85 w39 q_1T (q_ix r_5 (by decide)) (q_nfree (by have q := r_5; unfold q_r at q; omega)) p82.1 (by decide) rfl (fun s85 u85 w85 => ?_)
      replace hF := fx_P hF u85 rfl rfl
      have m85 : s85 q_1b v62.toInt.toNat = .int v82 := by rw [u85]; exact q_up_same
      refine q_aload_n (pc := 86) hG dX12_paintsOn_86 1 rfl ?_
      refine q_getV (pc := 87) (v := .ref q_1b) hG fl_X12_7 dX12_paintsOn_87 tA0 (w85.same tA0 rfl q_1f) ?_
      refine q_sipush (pc := 90) hG dX12_paintsOn_90 ks_320 ?_
      refine q_iload_n (pc := 93) hG dX12_paintsOn_93 0 rfl ?_
      refine q_iadd (pc := 94) hG dX12_paintsOn_94 (fun v94 e94 => ?_)
      replace hF := fx_add hF tl_320 rfl (q_addN (lo := 319) (hi := 383) e94 rl_320 r_4 (by decide)).1
      refine q_aload_n (pc := 95) hG dX12_paintsOn_95 1 rfl ?_
      refine q_getV (pc := 96) (v := .ref q_1b) hG fl_X12_7 dX12_paintsOn_96 tA0 (w85.same tA0 rfl q_1f) ?_
      refine q_sipush (pc := 99) hG dX12_paintsOn_99 ks_513 ?_
      refine q_nald (pc := 102) hG dX12_paintsOn_102 w85.1 q_1T (q_ix rl_513 (by decide)) (fun v102 f102 => ?_)
      replace hF := fx_I hF f102 (congrArg Int.toNat tl_513)
      refine q_iconst (pc := 103) hG dX12_paintsOn_103 ki_1 ?_
      refine q_iadd (pc := 104) hG dX12_paintsOn_104 (fun v104 e104 => ?_)
      replace hF := fx_B_add hF rfl tl_1 e104
      have r_8 := (q_addN (lo := 319) (hi := 383) e94 rl_320 r_4 (by decide)).2
      refine q_nast (pc := 105) hG dX12_paintsOn_105 w85 q_1T (q_ix r_8 (by decide)) (q_nfree (by have q := r_8; unfold q_r at q; omega)) (q_r_any v104) (by decide) rfl (fun s105 u105 w105 => ?_)
      replace hF := fx_P hF u105 rfl rfl
      have m105 : s105 q_1b v94.toInt.toNat = .int v104 := by rw [u105]; exact q_up_same
      refine q_aload_n (pc := 106) hG dX12_paintsOn_106 1 rfl ?_
      refine q_getV (pc := 107) (v := .ref q_1b) hG fl_X12_7 dX12_paintsOn_107 tA0 (w105.same tA0 rfl q_1f) ?_
      refine q_sipush (pc := 110) hG dX12_paintsOn_110 ks_384 ?_
      refine q_iload_n (pc := 113) hG dX12_paintsOn_113 0 rfl ?_
      refine q_iadd (pc := 114) hG dX12_paintsOn_114 (fun v114 e114 => ?_)
      replace hF := fx_add hF tl_384 rfl (q_addN (lo := 383) (hi := 447) e114 rl_384 r_4 (by decide)).1
      refine q_aload_n (pc := 115) hG dX12_paintsOn_115 1 rfl ?_
      refine q_iload_n (pc := 116) hG dX12_paintsOn_116 0 rfl ?_
      refine q_aload_n (pc := 117) hG dX12_paintsOn_117 1 rfl ?_
      refine q_getV (pc := 118) (v := .ref q_1b) hG fl_X12_7 dX12_paintsOn_118 tA0 (w105.same tA0 rfl q_1f) ?_
      refine q_sipush (pc := 121) hG dX12_paintsOn_121 ks_513 ?_
      refine q_nald (pc := 124) hG dX12_paintsOn_124 w105.1 q_1T (q_ix rl_513 (by decide)) (fun v124 f124 => ?_)
      replace hF := fx_I hF f124 (congrArg Int.toNat tl_513)
      refine q_iconst (pc := 125) hG dX12_paintsOn_125 ki_1 ?_
      refine q_iadd (pc := 126) hG dX12_paintsOn_126 (fun v126 e126 => ?_)
      replace hF := fx_B_add hF rfl tl_1 e126
      refine q_iload_n (pc := 127) hG dX12_paintsOn_127 2 rfl ?_
      have r_9 := (q_addN (lo := 383) (hi := 447) e114 rl_384 r_4 (by decide)).2
      refine q_cVi (pc := 128) [.int v9, .int v126, .int x1] [.int v114, .ref q_1b] hG (c_X12_driesFor τ s105 a0 v9 v126 x1 w105.1 tA0 (show q_r v9 0 63 from ⟨(by have o0 := n9; have o1 := c14; have o2 := (q_addN (lo := 255) (hi := 319) e62 rl_256 r_4 (by decide)).1; have o3 := (q_addN (lo := (-1)) (hi := 63) e69 rl_0 r_4 (by decide)).1; have o4 := (q_addN (lo := 319) (hi := 383) e94 rl_320 r_4 (by decide)).1; have o5 := (q_addN (lo := 383) (hi := 447) e114 rl_384 r_4 (by decide)).1; have o6 := r_9; have o7 := r_5; have o8 := r_6; have o9 := r_4; have o10 := r_8; have l11 := tl_m2; have l12 := tl_0; have l13 := tl_256; have l14 := tl_320; have l15 := tl_384; unfold q_r at o6 o7 o8 o9 o10; omega), (by have o0 := n9; have o1 := c14; have o2 := (q_addN (lo := 255) (hi := 319) e62 rl_256 r_4 (by decide)).1; have o3 := (q_addN (lo := (-1)) (hi := 63) e69 rl_0 r_4 (by decide)).1; have o4 := (q_addN (lo := 319) (hi := 383) e94 rl_320 r_4 (by decide)).1; have o5 := (q_addN (lo := 383) (hi := 447) e114 rl_384 r_4 (by decide)).1; have o6 := r_9; have o7 := r_5; have o8 := r_6; have o9 := r_4; have o10 := r_8; have l11 := tl_m2; have l12 := tl_0; have l13 := tl_256; have l14 := tl_320; have l15 := tl_384; unfold q_r at o6 o7 o8 o9 o10; omega)⟩) (q_wf.keep hI w105.2 tA0 rfl hW)) my_X12_driesFor mv_X12_driesFor w1005 dX12_paintsOn_128 tA0 (by decide) rfl rfl (Nat.le_of_ble_eq_true rfl) (by decide) (fun v128 s128 p128 => ?_)
      have w128 := w105.trans p128.1 rfl
      replace hF := fx_C hF p128.2.2
      refine q_nast (pc := 131) hG dX12_paintsOn_131 w128 q_1T (q_ix r_9 (by decide)) (q_nfree (by have q := r_9; unfold q_r at q; omega)) p128.2.1 (by decide) rfl (fun s131 u131 w131 => ?_)
      replace hF := fx_P hF u131 rfl rfl
      have m131 : s131 q_1b v114.toInt.toNat = .int v128 := by rw [u131]; exact q_up_same
      refine q_aload_n (pc := 132) hG dX12_paintsOn_132 1 rfl ?_
      refine q_getV (pc := 133) (v := .ref q_1b) hG fl_X12_7 dX12_paintsOn_133 tA0 (w131.same tA0 rfl q_1f) ?_
      refine q_sipush (pc := 136) hG dX12_paintsOn_136 ks_520 ?_
      refine q_iload_n (pc := 139) hG dX12_paintsOn_139 2 rfl ?_
      refine q_iadd (pc := 140) hG dX12_paintsOn_140 (fun v140 e140 => ?_)
      rw [e140.trans e8.symm]
      refine q_bipush (pc := 141) hG dX12_paintsOn_141 kb_m2 ?_
      refine q_nast3 (pc := 143) hG dX12_paintsOn_143 w131 q_1T (q_ix r_2 (by decide)) (q_npaint r_2 (by decide)) rl_m2 (by decide) (by have l0 := tl_m2; omega) rfl (fun s143 u143 w143 => ?_)
      replace hF := fx_P hF u143 rfl tl_m2
      have m143 : s143 q_1b v8.toInt.toNat = .int (-2) := by rw [u143]; exact q_up_same
      refine q_aload_n (pc := 144) hG dX12_paintsOn_144 1 rfl ?_
      refine q_aload_n (pc := 145) hG dX12_paintsOn_145 1 rfl ?_
      refine q_getI (pc := 146) hG fl_X12_278 dX12_paintsOn_146 w143.1 tA0 ff_10_29 (fun v146 f146 g146 => ?_)
      replace hF := fx_I hF f146 rfl
      refine q_iconst (pc := 149) hG dX12_paintsOn_149 ki_1 ?_
      refine q_iadd (pc := 150) hG dX12_paintsOn_150 (fun v150 e150 => ?_)
      replace hF := fx_B_add hF rfl tl_1 e150
      refine q_putI (pc := 151) hG fl_X12_278 dX12_paintsOn_151 w143 tA0 ff_10_29 (q_r_any v150) (by decide) rfl (fun s151 u151 w151 => ?_)
      replace hF := fx_P hF u151 rfl rfl
      have m151 : s151 a0 29 = .int v150 := by rw [u151]; exact q_up_same
      have kr_10 : fx_kr σ s151 q_1b := (fx_kr.K (fx_kr.P (fx_kr.P (fx_kr.C (fx_kr.P (fx_kr.P (fx_kr.P fx_kr.rf u39 r_3 (by decide)) u85 r_5 (by decide)) u105 r_8 (by decide)) p128.1 q_1T rfl) u131 r_9 (by decide)) u143 r_2 (by decide)) u151 q_1T tA0 (by decide))
      exact q_vrt hG hE dX12_paintsOn_154 ⟨w151, (fx_end hF hF0), (fun bn hbn => by cases hbn.symm.trans q_1f; exact kr_10)⟩
    intro c50
    replace hF := fx_lt1 hF rfl rfl c50
    have kr_11 : fx_kr σ s39 q_1b := (fx_kr.P fx_kr.rf u39 r_3 (by decide))
    exact q_vrt hG hE dX12_paintsOn_53 ⟨w39, (fx_end hF hF0), (fun bn hbn => by cases hbn.symm.trans q_1f; exact kr_11)⟩
  intro c14
  replace hF := fx_eq1 hF rfl tl_m2 c14
  exact q_vrt hG hE dX12_paintsOn_17 ⟨hS0, (fx_end hF hF0), (fun bn hbn => by cases hbn.symm.trans q_1f; exact fx_kr.rf)⟩
theorem dX12_drives_0 : decode cX12_drives 0 = .ok (.aload_n 0, 1) := by decide +kernel
theorem dX12_drives_1 : decode cX12_drives 1 = .ok (.getfield 7, 3) := by decide +kernel
theorem dX12_drives_4 : decode cX12_drives 4 = .ok (.sipush 513, 3) := by decide +kernel
theorem dX12_drives_7 : decode cX12_drives 7 = .ok (.iaload, 1) := by decide +kernel
theorem dX12_drives_8 : decode cX12_drives 8 = .ok (.aload_n 0, 1) := by decide +kernel
theorem dX12_drives_9 : decode cX12_drives 9 = .ok (.getfield 7, 3) := by decide +kernel
theorem dX12_drives_12 : decode cX12_drives 12 = .ok (.sipush 537, 3) := by decide +kernel
theorem dX12_drives_15 : decode cX12_drives 15 = .ok (.iload_n 1, 1) := by decide +kernel
theorem dX12_drives_16 : decode cX12_drives 16 = .ok (.iadd, 1) := by decide +kernel
theorem dX12_drives_17 : decode cX12_drives 17 = .ok (.iaload, 1) := by decide +kernel
theorem dX12_drives_18 : decode cX12_drives 18 = .ok (.isub, 1) := by decide +kernel
theorem dX12_drives_19 : decode cX12_drives 19 = .ok (.istore_n 2, 1) := by decide +kernel
theorem dX12_drives_20 : decode cX12_drives 20 = .ok (.aload_n 0, 1) := by decide +kernel
theorem dX12_drives_21 : decode cX12_drives 21 = .ok (.getfield 7, 3) := by decide +kernel
theorem dX12_drives_24 : decode cX12_drives 24 = .ok (.sipush 524, 3) := by decide +kernel
theorem dX12_drives_27 : decode cX12_drives 27 = .ok (.iaload, 1) := by decide +kernel
theorem dX12_drives_28 : decode cX12_drives 28 = .ok (.iload_n 1, 1) := by decide +kernel
theorem dX12_drives_29 : decode cX12_drives 29 = .ok (.invokestatic 281, 3) := by decide +kernel
theorem dX12_drives_32 : decode cX12_drives 32 = .ok (.ifCond .eq 11, 3) := by decide +kernel
theorem dX12_drives_35 : decode cX12_drives 35 = .ok (.aload_n 0, 1) := by decide +kernel
theorem dX12_drives_36 : decode cX12_drives 36 = .ok (.iload_n 2, 1) := by decide +kernel
theorem dX12_drives_37 : decode cX12_drives 37 = .ok (.invokevirtual 110, 3) := by decide +kernel
theorem dX12_drives_40 : decode cX12_drives 40 = .ok (.ifCond .ne 4, 3) := by decide +kernel
theorem dX12_drives_43 : decode cX12_drives 43 = .ok (.return_, 1) := by decide +kernel
theorem dX12_drives_44 : decode cX12_drives 44 = .ok (.aload_n 0, 1) := by decide +kernel
theorem dX12_drives_45 : decode cX12_drives 45 = .ok (.getfield 7, 3) := by decide +kernel
theorem dX12_drives_48 : decode cX12_drives 48 = .ok (.sipush 525, 3) := by decide +kernel
theorem dX12_drives_51 : decode cX12_drives 51 = .ok (.iload_n 1, 1) := by decide +kernel
theorem dX12_drives_52 : decode cX12_drives 52 = .ok (.iadd, 1) := by decide +kernel
theorem dX12_drives_53 : decode cX12_drives 53 = .ok (.iaload, 1) := by decide +kernel
theorem dX12_drives_54 : decode cX12_drives 54 = .ok (.ifCond .ne 7, 3) := by decide +kernel
theorem dX12_drives_57 : decode cX12_drives 57 = .ok (.iload_n 2, 1) := by decide +kernel
theorem dX12_drives_58 : decode cX12_drives 58 = .ok (.goto 15, 3) := by decide +kernel
theorem dX12_drives_61 : decode cX12_drives 61 = .ok (.aload_n 0, 1) := by decide +kernel
theorem dX12_drives_62 : decode cX12_drives 62 = .ok (.getfield 7, 3) := by decide +kernel
theorem dX12_drives_65 : decode cX12_drives 65 = .ok (.sipush 512, 3) := by decide +kernel
theorem dX12_drives_68 : decode cX12_drives 68 = .ok (.iaload, 1) := by decide +kernel
theorem dX12_drives_69 : decode cX12_drives 69 = .ok (.iconst 1, 1) := by decide +kernel
theorem dX12_drives_70 : decode cX12_drives 70 = .ok (.isub, 1) := by decide +kernel
theorem dX12_drives_71 : decode cX12_drives 71 = .ok (.iload_n 2, 1) := by decide +kernel
theorem dX12_drives_72 : decode cX12_drives 72 = .ok (.isub, 1) := by decide +kernel
theorem dX12_drives_73 : decode cX12_drives 73 = .ok (.istore_n 3, 1) := by decide +kernel
theorem dX12_drives_74 : decode cX12_drives 74 = .ok (.aload_n 0, 1) := by decide +kernel
theorem dX12_drives_75 : decode cX12_drives 75 = .ok (.getfield 7, 3) := by decide +kernel
theorem dX12_drives_78 : decode cX12_drives 78 = .ok (.sipush 448, 3) := by decide +kernel
theorem dX12_drives_81 : decode cX12_drives 81 = .ok (.iload_n 3, 1) := by decide +kernel
theorem dX12_drives_82 : decode cX12_drives 82 = .ok (.iadd, 1) := by decide +kernel
theorem dX12_drives_83 : decode cX12_drives 83 = .ok (.iaload, 1) := by decide +kernel
theorem dX12_drives_84 : decode cX12_drives 84 = .ok (.bipush (-2), 2) := by decide +kernel
theorem dX12_drives_86 : decode cX12_drives 86 = .ok (.if_icmp .ne 38, 3) := by decide +kernel
theorem dX12_drives_89 : decode cX12_drives 89 = .ok (.aload_n 0, 1) := by decide +kernel
theorem dX12_drives_90 : decode cX12_drives 90 = .ok (.iload_n 3, 1) := by decide +kernel
theorem dX12_drives_91 : decode cX12_drives 91 = .ok (.invokevirtual 251, 3) := by decide +kernel
theorem dX12_drives_94 : decode cX12_drives 94 = .ok (.ifCond .ne 19, 3) := by decide +kernel
theorem dX12_drives_97 : decode cX12_drives 97 = .ok (.aload_n 0, 1) := by decide +kernel
theorem dX12_drives_98 : decode cX12_drives 98 = .ok (.iload_n 3, 1) := by decide +kernel
theorem dX12_drives_99 : decode cX12_drives 99 = .ok (.aload_n 0, 1) := by decide +kernel
theorem dX12_drives_100 : decode cX12_drives 100 = .ok (.getfield 7, 3) := by decide +kernel
theorem dX12_drives_103 : decode cX12_drives 103 = .ok (.sipush 513, 3) := by decide +kernel
theorem dX12_drives_106 : decode cX12_drives 106 = .ok (.iaload, 1) := by decide +kernel
theorem dX12_drives_107 : decode cX12_drives 107 = .ok (.invokevirtual 254, 3) := by decide +kernel
theorem dX12_drives_110 : decode cX12_drives 110 = .ok (.ifCond .eq 14, 3) := by decide +kernel
theorem dX12_drives_113 : decode cX12_drives 113 = .ok (.aload_n 0, 1) := by decide +kernel
theorem dX12_drives_114 : decode cX12_drives 114 = .ok (.getfield 7, 3) := by decide +kernel
theorem dX12_drives_117 : decode cX12_drives 117 = .ok (.sipush 448, 3) := by decide +kernel
theorem dX12_drives_120 : decode cX12_drives 120 = .ok (.iload_n 3, 1) := by decide +kernel
theorem dX12_drives_121 : decode cX12_drives 121 = .ok (.iadd, 1) := by decide +kernel
theorem dX12_drives_122 : decode cX12_drives 122 = .ok (.iload_n 1, 1) := by decide +kernel
theorem dX12_drives_123 : decode cX12_drives 123 = .ok (.iastore, 1) := by decide +kernel
theorem dX12_drives_124 : decode cX12_drives 124 = .ok (.return_, 1) := by decide +kernel
def md_X12_drives : List (Nat × Nat) := [(100, 0)]
set_option maxRecDepth 100000 in
set_option maxHeartbeats 4000000 in
theorem c_X12_drives {l : Launch} {D : q_D} (τ : q_T) (σ : q_V) (a0 : Nat) (x1 : Int32) (hI : q_I τ σ) (tA0 : τ a0 = some (10, 1)) (rA1 : q_r x1 0 11) : q_Cv l D yX12_drives cX12_drives 4 none 2 43 τ σ [.ref a0, .int x1] (fun σ1 => q_S md_X12_drives τ σ σ1 ∧ (fx_N σ1 = f_X12_drives (fx_N σ) a0 x1.toInt) ∧ (∀ bn : Nat, σ a0 0 = .ref bn → fx_kr σ σ1 bn)) := by
  refine q_metv rfl (Nat.le_of_ble_eq_true rfl) (fun X hG hE => ?_)
  show q_O X 0 0 τ σ 0 [(0, .ref a0), (1, .int x1)] []
  have hS0 : q_S md_X12_drives τ σ σ := q_S.rf hI
  obtain ⟨Fv, hF⟩ : ∃ z, fx_eq z (f_X12_drives (fx_N σ) a0 x1.toInt) := ⟨_, fx_rf⟩
  have hF0 := hF
  unfold f_X12_drives at hF
  obtain ⟨q_1b, q_1f, q_1T⟩ := (hI a0 10 1 tA0 0 (by decide)).ref (k := 100) (n := 549) rfl
  replace hF := fx_R hF q_1f rfl
  refine q_aload_n (pc := 0) hG dX12_drives_0 0 rfl ?_
  refine q_getV (pc := 1) (v := .ref q_1b) hG fl_X12_7 dX12_drives_1 tA0 q_1f ?_
  refine q_sipush (pc := 4) hG dX12_drives_4 ks_513 ?_
  refine q_nald (pc := 7) hG dX12_drives_7 hI q_1T (q_ix rl_513 (by decide)) (fun v7 f7 => ?_)
  replace hF := fx_I hF f7 (congrArg Int.toNat tl_513)
  refine q_aload_n (pc := 8) hG dX12_drives_8 0 rfl ?_
  refine q_getV (pc := 9) (v := .ref q_1b) hG fl_X12_7 dX12_drives_9 tA0 q_1f ?_
  refine q_sipush (pc := 12) hG dX12_drives_12 ks_537 ?_
  refine q_iload_n (pc := 15) hG dX12_drives_15 1 rfl ?_
  refine q_iadd (pc := 16) hG dX12_drives_16 (fun v16 e16 => ?_)
  replace hF := fx_add hF tl_537 rfl (q_addN (lo := 537) (hi := 548) e16 rl_537 rA1 (by decide)).1
  have r_2 := (q_addN (lo := 537) (hi := 548) e16 rl_537 rA1 (by decide)).2
  refine q_nald (pc := 17) hG dX12_drives_17 hI q_1T (q_ix r_2 (by decide)) (fun v17 f17 => ?_)
  replace hF := fx_I hF f17 rfl
  refine q_isub (pc := 18) hG dX12_drives_18 (fun v18 e18 => ?_)
  replace hF := fx_B_sub hF rfl rfl e18
  refine q_istore_n (pc := 19) [(2, .int v18), (0, .ref a0), (1, .int x1)] hG dX12_drives_19 (by decide) rfl ?_
  refine q_aload_n (pc := 20) hG dX12_drives_20 1 rfl ?_
  refine q_getV (pc := 21) (v := .ref q_1b) hG fl_X12_7 dX12_drives_21 tA0 q_1f ?_
  refine q_sipush (pc := 24) hG dX12_drives_24 ks_524 ?_
  refine q_nald (pc := 27) hG dX12_drives_27 hI q_1T (q_ix rl_524 (by decide)) (fun v27 f27 => ?_)
  replace hF := fx_I hF f27 (congrArg Int.toNat tl_524)
  refine q_iload_n (pc := 28) hG dX12_drives_28 2 rfl ?_
  refine q_pS (pc := 29) [.int v27, .int x1] [] hG (c_X12_has τ σ v27 x1 hI) my_X12_has w1012 w1011 dX12_drives_29 rfl rfl (Nat.le_of_ble_eq_true rfl) (by decide) (fun v29 p29 => ?_)
  replace hF := fx_E hF p29.2
  refine q_if_eq (pc := 32) hG 43 dX12_drives_32 rfl ?_ ?_
  · intro c32
    replace hF := fx_eq1 hF rfl rfl c32
    exact q_vrt hG hE dX12_drives_43 ⟨hS0, (fx_end hF hF0), (fun bn hbn => by cases hbn.symm.trans q_1f; exact fx_kr.rf)⟩
  intro c32
  replace hF := fx_eq2 hF rfl rfl c32
  refine q_aload_n (pc := 35) hG dX12_drives_35 1 rfl ?_
  refine q_iload_n (pc := 36) hG dX12_drives_36 0 rfl ?_
  refine q_pV (pc := 37) [.int v18] [] hG (c_X12_isDot τ σ a0 v18 hI tA0) my_X12_isDot mv_X12_isDot w836 dX12_drives_37 tA0 (by decide) rfl rfl (Nat.le_of_ble_eq_true rfl) (by decide) (fun v37 p37 => ?_)
  replace hF := fx_E hF p37.2.1
  obtain ⟨q_3v, q_3f, q_3r⟩ := (hI q_1b 100 549 q_1T 512 (by decide)).int (lo := 8) (hi := 64) rfl
  have q_3g : σ q_1b (512 : Int32).toInt.toNat = .int q_3v := q_3f
  replace hF := fx_I hF q_3g (congrArg Int.toNat tl_512)
  refine q_if_ne (pc := 40) hG 44 dX12_drives_40 rfl ?_ ?_
  · intro c40
    have g_4 := p37.2.2.1 (q_one p37.1 c40)
    have r_5 := q_rge (q_r_any v18) rl_0 (show (0 : Int32).toInt ≤ _ from g_4.1)
    have r_6 := q_rle r_5 rl_63 (show _ ≤ (63 : Int32).toInt from g_4.2.1)
    replace hF := fx_eq2 hF rfl rfl c40
    refine q_aload_n (pc := 44) hG dX12_drives_44 1 rfl ?_
    refine q_getV (pc := 45) (v := .ref q_1b) hG fl_X12_7 dX12_drives_45 tA0 q_1f ?_
    refine q_sipush (pc := 48) hG dX12_drives_48 ks_525 ?_
    refine q_iload_n (pc := 51) hG dX12_drives_51 2 rfl ?_
    refine q_iadd (pc := 52) hG dX12_drives_52 (fun v52 e52 => ?_)
    replace hF := fx_add hF tl_525 rfl (q_addN (lo := 525) (hi := 536) e52 rl_525 rA1 (by decide)).1
    have r_7 := (q_addN (lo := 525) (hi := 536) e52 rl_525 rA1 (by decide)).2
    refine q_nald (pc := 53) hG dX12_drives_53 hI q_1T (q_ix r_7 (by decide)) (fun v53 f53 => ?_)
    replace hF := fx_I hF f53 rfl
    have J73 : ∀ (p73_s0 : Int32), (q_r p73_s0 0 63) → (fx_eq Fv (kJ_X12_drives_73 (fx_N σ) q_1b a0 v7.toInt x1.toInt p73_s0.toInt)) → q_O X 0 0 τ σ 73 [(0, .ref a0), (1, .int x1)] [.int p73_s0] := by
      intro p73_s0 r73_s0 hF
      unfold kJ_X12_drives_73 at hF
      refine q_istore_n (pc := 73) [(3, .int p73_s0), (0, .ref a0), (1, .int x1)] hG dX12_drives_73 (by decide) rfl ?_
      refine q_aload_n (pc := 74) hG dX12_drives_74 1 rfl ?_
      refine q_getV (pc := 75) (v := .ref q_1b) hG fl_X12_7 dX12_drives_75 tA0 q_1f ?_
      refine q_sipush (pc := 78) hG dX12_drives_78 ks_448 ?_
      refine q_iload_n (pc := 81) hG dX12_drives_81 0 rfl ?_
      refine q_iadd (pc := 82) hG dX12_drives_82 (fun v82 e82 => ?_)
      replace hF := fx_add hF tl_448 rfl (q_addN (lo := 448) (hi := 511) e82 rl_448 r73_s0 (by decide)).1
      have r_8 := (q_addN (lo := 448) (hi := 511) e82 rl_448 r73_s0 (by decide)).2
      refine q_nald (pc := 83) hG dX12_drives_83 hI q_1T (q_ix r_8 (by decide)) (fun v83 f83 => ?_)
      replace hF := fx_I hF f83 rfl
      refine q_bipush (pc := 84) hG dX12_drives_84 kb_m2 ?_
      refine q_icmp_ne (pc := 86) hG 124 dX12_drives_86 rfl ?_ ?_
      · intro c86
        replace hF := fx_eq2 hF rfl tl_m2 c86
        exact q_vrt hG hE dX12_drives_124 ⟨hS0, (fx_end hF hF0), (fun bn hbn => by cases hbn.symm.trans q_1f; exact fx_kr.rf)⟩
      intro c86
      replace hF := fx_eq1 hF rfl tl_m2 c86
      refine q_aload_n (pc := 89) hG dX12_drives_89 1 rfl ?_
      refine q_iload_n (pc := 90) hG dX12_drives_90 0 rfl ?_
      refine q_pV (pc := 91) [.int p73_s0] [] hG (c_X12_isPainting τ σ a0 p73_s0 hI tA0) my_X12_isPainting mv_X12_isPainting w969 dX12_drives_91 tA0 (by decide) rfl rfl (Nat.le_of_ble_eq_true rfl) (by decide) (fun v91 p91 => ?_)
      replace hF := fx_E hF p91.2
      have J113 : (fx_eq Fv (kJ_X12_drives_113 (fx_N σ) q_1b v82.toInt x1.toInt)) → q_O X 0 0 τ σ 113 [(0, .ref a0), (1, .int x1), (3, .int p73_s0)] [] := by
        intro hF
        unfold kJ_X12_drives_113 at hF
        refine q_aload_n (pc := 113) hG dX12_drives_113 0 rfl ?_
        refine q_getV (pc := 114) (v := .ref q_1b) hG fl_X12_7 dX12_drives_114 tA0 q_1f ?_
        refine q_sipush (pc := 117) hG dX12_drives_117 ks_448 ?_
        refine q_iload_n (pc := 120) hG dX12_drives_120 2 rfl ?_
        refine q_iadd (pc := 121) hG dX12_drives_121 (fun v121 e121 => ?_)
        rw [e121.trans e82.symm]
        refine q_iload_n (pc := 122) hG dX12_drives_122 1 rfl ?_
        refine q_nast (pc := 123) hG dX12_drives_123 hS0 q_1T (q_ix r_8 (by decide)) (q_nfree (by have q := r_8; unfold q_r at q; omega)) rA1 (by decide) rfl (fun s123 u123 w123 => ?_)
        replace hF := fx_P hF u123 rfl rfl
        have m123 : s123 q_1b v82.toInt.toNat = .int x1 := by rw [u123]; exact q_up_same
        have kr_9 : fx_kr σ s123 q_1b := (fx_kr.P fx_kr.rf u123 r_8 (by decide))
        exact q_vrt hG hE dX12_drives_124 ⟨w123, (fx_end hF hF0), (fun bn hbn => by cases hbn.symm.trans q_1f; exact kr_9)⟩
      refine q_if_ne (pc := 94) hG 113 dX12_drives_94 rfl ?_ ?_
      · intro c94
        replace hF := fx_eq2 hF rfl rfl c94
        refine q_lv [1, 2, 0] rfl ?_
        exact J113 hF
      intro c94
      replace hF := fx_eq1 hF rfl rfl c94
      refine q_aload_n (pc := 97) hG dX12_drives_97 1 rfl ?_
      refine q_iload_n (pc := 98) hG dX12_drives_98 0 rfl ?_
      refine q_aload_n (pc := 99) hG dX12_drives_99 1 rfl ?_
      refine q_getV (pc := 100) (v := .ref q_1b) hG fl_X12_7 dX12_drives_100 tA0 q_1f ?_
      refine q_sipush (pc := 103) hG dX12_drives_103 ks_513 ?_
      refine q_ialdV (pc := 106) (v := .int v7) hG dX12_drives_106 q_1T (by decide) (by decide) (q_ix rl_513 (by decide)) f7 ?_
      refine q_pV (pc := 107) [.int p73_s0, .int v7] [] hG (c_X12_isWet τ σ a0 p73_s0 v7 hI tA0 r73_s0) my_X12_isWet mv_X12_isWet w975 dX12_drives_107 tA0 (by decide) rfl rfl (Nat.le_of_ble_eq_true rfl) (by decide) (fun v107 p107 => ?_)
      replace hF := fx_E hF p107.2
      refine q_if_eq (pc := 110) hG 124 dX12_drives_110 rfl ?_ ?_
      · intro c110
        replace hF := fx_eq1 hF rfl rfl c110
        exact q_vrt hG hE dX12_drives_124 ⟨hS0, (fx_end hF hF0), (fun bn hbn => by cases hbn.symm.trans q_1f; exact fx_kr.rf)⟩
      intro c110
      replace hF := fx_eq2 hF rfl rfl c110
      refine q_lv [1, 2, 0] rfl ?_
      exact J113 hF
    refine q_if_ne (pc := 54) hG 61 dX12_drives_54 rfl ?_ ?_
    · intro c54
      replace hF := fx_eq2 hF rfl rfl c54
      refine q_aload_n (pc := 61) hG dX12_drives_61 1 rfl ?_
      refine q_getV (pc := 62) (v := .ref q_1b) hG fl_X12_7 dX12_drives_62 tA0 q_1f ?_
      refine q_sipush (pc := 65) hG dX12_drives_65 ks_512 ?_
      refine q_ialdV (pc := 68) (v := .int q_3v) hG dX12_drives_68 q_1T (by decide) (by decide) (q_ix rl_512 (by decide)) q_3g ?_
      refine q_iconst (pc := 69) hG dX12_drives_69 ki_1 ?_
      refine q_isub (pc := 70) hG dX12_drives_70 (fun v70 e70 => ?_)
      replace hF := fx_sub hF rfl tl_1 (q_subN (lo := 7) (hi := 63) e70 q_3r rl_1 (by decide)).1
      refine q_iload_n (pc := 71) hG dX12_drives_71 0 rfl ?_
      refine q_isub (pc := 72) hG dX12_drives_72 (fun v72 e72 => ?_)
      have r_10 := (q_subN (lo := 7) (hi := 63) e70 q_3r rl_1 (by decide)).2
      replace hF := fx_sub hF rfl rfl (q_subN (lo := (-56)) (hi := 63) e72 r_10 r_6 (by decide)).1
      refine q_lv [1, 2] rfl ?_
      have r_11 := (q_subN (lo := (-56)) (hi := 63) e72 r_10 r_6 (by decide)).2
      exact J73 v72 (show q_r v72 0 63 from ⟨(by have o0 := (q_subN (lo := (-56)) (hi := 63) e72 r_10 r_6 (by decide)).1; have o1 := (show (0 : Int32).toInt ≤ _ from g_4.1); have o2 := (show _ ≤ (63 : Int32).toInt from g_4.2.1); have o3 := (g_4.2.2 q_1b q_3v q_1f (show σ q_1b 512 = _ from q_3g)); have o4 := (q_subN (lo := 7) (hi := 63) e70 q_3r rl_1 (by decide)).1; have o5 := q_3r; have o6 := r_6; have o7 := r_10; have o8 := r_11; have l9 := tl_0; have l10 := tl_1; have l11 := tl_63; unfold q_r at o5 o6 o7 o8; omega), (by have o0 := (q_subN (lo := (-56)) (hi := 63) e72 r_10 r_6 (by decide)).1; have o1 := (show (0 : Int32).toInt ≤ _ from g_4.1); have o2 := (show _ ≤ (63 : Int32).toInt from g_4.2.1); have o3 := (g_4.2.2 q_1b q_3v q_1f (show σ q_1b 512 = _ from q_3g)); have o4 := (q_subN (lo := 7) (hi := 63) e70 q_3r rl_1 (by decide)).1; have o5 := q_3r; have o6 := r_6; have o7 := r_10; have o8 := r_11; have l9 := tl_0; have l10 := tl_1; have l11 := tl_63; unfold q_r at o5 o6 o7 o8; omega)⟩) hF
    intro c54
    replace hF := fx_eq1 hF rfl rfl c54
    refine q_iload_n (pc := 57) hG dX12_drives_57 0 rfl ?_
    refine q_goto (pc := 58) 73 hG dX12_drives_58 rfl ?_
    refine q_lv [1, 2] rfl ?_
    exact J73 v18 r_6 hF
  intro c40
  replace hF := fx_eq1 hF rfl rfl c40
  exact q_vrt hG hE dX12_drives_43 ⟨hS0, (fx_end hF hF0), (fun bn hbn => by cases hbn.symm.trans q_1f; exact fx_kr.rf)⟩
theorem dX12_minuteGoes_0 : decode cX12_minuteGoes 0 = .ok (.aload_n 0, 1) := by decide +kernel
theorem dX12_minuteGoes_1 : decode cX12_minuteGoes 1 = .ok (.iconst 0, 1) := by decide +kernel
theorem dX12_minuteGoes_2 : decode cX12_minuteGoes 2 = .ok (.invokevirtual 284, 3) := by decide +kernel
theorem dX12_minuteGoes_5 : decode cX12_minuteGoes 5 = .ok (.aload_n 0, 1) := by decide +kernel
theorem dX12_minuteGoes_6 : decode cX12_minuteGoes 6 = .ok (.iconst 1, 1) := by decide +kernel
theorem dX12_minuteGoes_7 : decode cX12_minuteGoes 7 = .ok (.invokevirtual 284, 3) := by decide +kernel
theorem dX12_minuteGoes_10 : decode cX12_minuteGoes 10 = .ok (.aload_n 0, 1) := by decide +kernel
theorem dX12_minuteGoes_11 : decode cX12_minuteGoes 11 = .ok (.iconst 0, 1) := by decide +kernel
theorem dX12_minuteGoes_12 : decode cX12_minuteGoes 12 = .ok (.invokevirtual 287, 3) := by decide +kernel
theorem dX12_minuteGoes_15 : decode cX12_minuteGoes 15 = .ok (.aload_n 0, 1) := by decide +kernel
theorem dX12_minuteGoes_16 : decode cX12_minuteGoes 16 = .ok (.iconst 1, 1) := by decide +kernel
theorem dX12_minuteGoes_17 : decode cX12_minuteGoes 17 = .ok (.invokevirtual 287, 3) := by decide +kernel
theorem dX12_minuteGoes_20 : decode cX12_minuteGoes 20 = .ok (.iconst 0, 1) := by decide +kernel
theorem dX12_minuteGoes_21 : decode cX12_minuteGoes 21 = .ok (.istore_n 1, 1) := by decide +kernel
theorem dX12_minuteGoes_22 : decode cX12_minuteGoes 22 = .ok (.iload_n 1, 1) := by decide +kernel
theorem dX12_minuteGoes_23 : decode cX12_minuteGoes 23 = .ok (.bipush 12, 2) := by decide +kernel
theorem dX12_minuteGoes_25 : decode cX12_minuteGoes 25 = .ok (.if_icmp .ge 14, 3) := by decide +kernel
theorem dX12_minuteGoes_28 : decode cX12_minuteGoes 28 = .ok (.aload_n 0, 1) := by decide +kernel
theorem dX12_minuteGoes_29 : decode cX12_minuteGoes 29 = .ok (.iload_n 1, 1) := by decide +kernel
theorem dX12_minuteGoes_30 : decode cX12_minuteGoes 30 = .ok (.invokevirtual 290, 3) := by decide +kernel
theorem dX12_minuteGoes_33 : decode cX12_minuteGoes 33 = .ok (.iinc 1 1, 3) := by decide +kernel
theorem dX12_minuteGoes_36 : decode cX12_minuteGoes 36 = .ok (.goto (-14), 3) := by decide +kernel
theorem dX12_minuteGoes_39 : decode cX12_minuteGoes 39 = .ok (.aload_n 0, 1) := by decide +kernel
theorem dX12_minuteGoes_40 : decode cX12_minuteGoes 40 = .ok (.getfield 7, 3) := by decide +kernel
theorem dX12_minuteGoes_43 : decode cX12_minuteGoes 43 = .ok (.sipush 515, 3) := by decide +kernel
theorem dX12_minuteGoes_46 : decode cX12_minuteGoes 46 = .ok (.iaload, 1) := by decide +kernel
theorem dX12_minuteGoes_47 : decode cX12_minuteGoes 47 = .ok (.aload_n 0, 1) := by decide +kernel
theorem dX12_minuteGoes_48 : decode cX12_minuteGoes 48 = .ok (.getfield 7, 3) := by decide +kernel
theorem dX12_minuteGoes_51 : decode cX12_minuteGoes 51 = .ok (.sipush 513, 3) := by decide +kernel
theorem dX12_minuteGoes_54 : decode cX12_minuteGoes 54 = .ok (.iaload, 1) := by decide +kernel
theorem dX12_minuteGoes_55 : decode cX12_minuteGoes 55 = .ok (.if_icmp .ne 66, 3) := by decide +kernel
theorem dX12_minuteGoes_58 : decode cX12_minuteGoes 58 = .ok (.iconst 0, 1) := by decide +kernel
theorem dX12_minuteGoes_59 : decode cX12_minuteGoes 59 = .ok (.istore_n 1, 1) := by decide +kernel
theorem dX12_minuteGoes_60 : decode cX12_minuteGoes 60 = .ok (.iload_n 1, 1) := by decide +kernel
theorem dX12_minuteGoes_61 : decode cX12_minuteGoes 61 = .ok (.aload_n 0, 1) := by decide +kernel
theorem dX12_minuteGoes_62 : decode cX12_minuteGoes 62 = .ok (.getfield 7, 3) := by decide +kernel
theorem dX12_minuteGoes_65 : decode cX12_minuteGoes 65 = .ok (.sipush 512, 3) := by decide +kernel
theorem dX12_minuteGoes_68 : decode cX12_minuteGoes 68 = .ok (.iaload, 1) := by decide +kernel
theorem dX12_minuteGoes_69 : decode cX12_minuteGoes 69 = .ok (.if_icmp .ge 52, 3) := by decide +kernel
theorem dX12_minuteGoes_72 : decode cX12_minuteGoes 72 = .ok (.aload_n 0, 1) := by decide +kernel
theorem dX12_minuteGoes_73 : decode cX12_minuteGoes 73 = .ok (.getfield 7, 3) := by decide +kernel
theorem dX12_minuteGoes_76 : decode cX12_minuteGoes 76 = .ok (.sipush 448, 3) := by decide +kernel
theorem dX12_minuteGoes_79 : decode cX12_minuteGoes 79 = .ok (.iload_n 1, 1) := by decide +kernel
theorem dX12_minuteGoes_80 : decode cX12_minuteGoes 80 = .ok (.iadd, 1) := by decide +kernel
theorem dX12_minuteGoes_81 : decode cX12_minuteGoes 81 = .ok (.iaload, 1) := by decide +kernel
theorem dX12_minuteGoes_82 : decode cX12_minuteGoes 82 = .ok (.bipush (-2), 2) := by decide +kernel
theorem dX12_minuteGoes_84 : decode cX12_minuteGoes 84 = .ok (.if_icmp .ne 31, 3) := by decide +kernel
theorem dX12_minuteGoes_87 : decode cX12_minuteGoes 87 = .ok (.aload_n 0, 1) := by decide +kernel
theorem dX12_minuteGoes_88 : decode cX12_minuteGoes 88 = .ok (.iload_n 1, 1) := by decide +kernel
theorem dX12_minuteGoes_89 : decode cX12_minuteGoes 89 = .ok (.aload_n 0, 1) := by decide +kernel
theorem dX12_minuteGoes_90 : decode cX12_minuteGoes 90 = .ok (.getfield 7, 3) := by decide +kernel
theorem dX12_minuteGoes_93 : decode cX12_minuteGoes 93 = .ok (.sipush 513, 3) := by decide +kernel
theorem dX12_minuteGoes_96 : decode cX12_minuteGoes 96 = .ok (.iaload, 1) := by decide +kernel
theorem dX12_minuteGoes_97 : decode cX12_minuteGoes 97 = .ok (.invokevirtual 254, 3) := by decide +kernel
theorem dX12_minuteGoes_100 : decode cX12_minuteGoes 100 = .ok (.ifCond .eq 15, 3) := by decide +kernel
theorem dX12_minuteGoes_103 : decode cX12_minuteGoes 103 = .ok (.aload_n 0, 1) := by decide +kernel
theorem dX12_minuteGoes_104 : decode cX12_minuteGoes 104 = .ok (.getfield 7, 3) := by decide +kernel
theorem dX12_minuteGoes_107 : decode cX12_minuteGoes 107 = .ok (.sipush 448, 3) := by decide +kernel
theorem dX12_minuteGoes_110 : decode cX12_minuteGoes 110 = .ok (.iload_n 1, 1) := by decide +kernel
theorem dX12_minuteGoes_111 : decode cX12_minuteGoes 111 = .ok (.iadd, 1) := by decide +kernel
theorem dX12_minuteGoes_112 : decode cX12_minuteGoes 112 = .ok (.bipush 12, 2) := by decide +kernel
theorem dX12_minuteGoes_114 : decode cX12_minuteGoes 114 = .ok (.iastore, 1) := by decide +kernel
theorem dX12_minuteGoes_115 : decode cX12_minuteGoes 115 = .ok (.iinc 1 1, 3) := by decide +kernel
theorem dX12_minuteGoes_118 : decode cX12_minuteGoes 118 = .ok (.goto (-58), 3) := by decide +kernel
theorem dX12_minuteGoes_121 : decode cX12_minuteGoes 121 = .ok (.aload_n 0, 1) := by decide +kernel
theorem dX12_minuteGoes_122 : decode cX12_minuteGoes 122 = .ok (.getfield 7, 3) := by decide +kernel
theorem dX12_minuteGoes_125 : decode cX12_minuteGoes 125 = .ok (.sipush 513, 3) := by decide +kernel
theorem dX12_minuteGoes_128 : decode cX12_minuteGoes 128 = .ok (.aload_n 0, 1) := by decide +kernel
theorem dX12_minuteGoes_129 : decode cX12_minuteGoes 129 = .ok (.getfield 7, 3) := by decide +kernel
theorem dX12_minuteGoes_132 : decode cX12_minuteGoes 132 = .ok (.sipush 513, 3) := by decide +kernel
theorem dX12_minuteGoes_135 : decode cX12_minuteGoes 135 = .ok (.iaload, 1) := by decide +kernel
theorem dX12_minuteGoes_136 : decode cX12_minuteGoes 136 = .ok (.iconst 1, 1) := by decide +kernel
theorem dX12_minuteGoes_137 : decode cX12_minuteGoes 137 = .ok (.iadd, 1) := by decide +kernel
theorem dX12_minuteGoes_138 : decode cX12_minuteGoes 138 = .ok (.iastore, 1) := by decide +kernel
theorem dX12_minuteGoes_139 : decode cX12_minuteGoes 139 = .ok (.return_, 1) := by decide +kernel
def md_X12_minuteGoes : List (Nat × Nat) := [(10, 29), (100, 0), (162, 0), (163, 0)]
set_option maxRecDepth 100000 in
set_option maxHeartbeats 4000000 in
theorem c_X12_minuteGoes {l : Launch} {D : q_D} (τ : q_T) (σ : q_V) (a0 : Nat) (hI : q_I τ σ) (tA0 : τ a0 = some (10, 1)) (hW : q_wf σ a0) : q_Cv l D yX12_minuteGoes cX12_minuteGoes 2 none 5 119 τ σ [.ref a0] (fun σ1 => q_S md_X12_minuteGoes τ σ σ1 ∧ (fx_N σ1 = f_X12_minuteGoes (fx_N σ) a0) ∧ (∀ bn : Nat, σ a0 0 = .ref bn → fx_kr σ σ1 bn)) := by
  refine q_metv rfl (Nat.le_of_ble_eq_true rfl) (fun X hG hE => ?_)
  show q_O X 0 0 τ σ 0 [(0, .ref a0)] []
  have hS0 : q_S md_X12_minuteGoes τ σ σ := q_S.rf hI
  obtain ⟨Fv, hF⟩ : ∃ z, fx_eq z (f_X12_minuteGoes (fx_N σ) a0) := ⟨_, fx_rf⟩
  have hF0 := hF
  unfold f_X12_minuteGoes at hF
  obtain ⟨q_1b, q_1f, q_1T⟩ := (hI a0 10 1 tA0 0 (by decide)).ref (k := 100) (n := 549) rfl
  replace hF := fx_R hF q_1f rfl
  refine q_aload_n (pc := 0) hG dX12_minuteGoes_0 0 rfl ?_
  refine q_iconst (pc := 1) hG dX12_minuteGoes_1 ki_0 ?_
  refine q_cVv (pc := 2) [.int 0] [] hG (c_X12_beginsWith τ σ a0 0 hI tA0 (q_r.mono rl_0 (by decide)) hW) my_X12_beginsWith mv_X12_beginsWith w963 dX12_minuteGoes_2 tA0 (by decide) rfl rfl (Nat.le_of_ble_eq_true rfl) (by decide) (fun s2 p2 => ?_)
  have w2 := hS0.trans p2.1 rfl
  have fq2 := p2.2.1
  rewrite [tl_0] at fq2
  replace hF := fx_S hF fq2
  refine q_aload_n (pc := 5) hG dX12_minuteGoes_5 0 rfl ?_
  refine q_iconst (pc := 6) hG dX12_minuteGoes_6 ki_1 ?_
  refine q_cVv (pc := 7) [.int 1] [] hG (c_X12_beginsWith τ s2 a0 1 w2.1 tA0 (q_r.mono rl_1 (by decide)) (q_wf.keep hI w2.2 tA0 rfl hW)) my_X12_beginsWith mv_X12_beginsWith w963 dX12_minuteGoes_7 tA0 (by decide) rfl rfl (Nat.le_of_ble_eq_true rfl) (by decide) (fun s7 p7 => ?_)
  have w7 := w2.trans p7.1 rfl
  have fq7 := p7.2.1
  rewrite [tl_1] at fq7
  replace hF := fx_S hF fq7
  refine q_aload_n (pc := 10) hG dX12_minuteGoes_10 0 rfl ?_
  refine q_iconst (pc := 11) hG dX12_minuteGoes_11 ki_0 ?_
  refine q_cVv (pc := 12) [.int 0] [] hG (c_X12_paintsOn τ s7 a0 0 w7.1 tA0 (q_r.mono rl_0 (by decide)) (q_wf.keep hI w7.2 tA0 rfl hW)) my_X12_paintsOn mv_X12_paintsOn w993 dX12_minuteGoes_12 tA0 (by decide) rfl rfl (Nat.le_of_ble_eq_true rfl) (by decide) (fun s12 p12 => ?_)
  have w12 := w7.trans p12.1 rfl
  have fq12 := p12.2.1
  rewrite [tl_0] at fq12
  replace hF := fx_S hF fq12
  refine q_aload_n (pc := 15) hG dX12_minuteGoes_15 0 rfl ?_
  refine q_iconst (pc := 16) hG dX12_minuteGoes_16 ki_1 ?_
  refine q_cVv (pc := 17) [.int 1] [] hG (c_X12_paintsOn τ s12 a0 1 w12.1 tA0 (q_r.mono rl_1 (by decide)) (q_wf.keep hI w12.2 tA0 rfl hW)) my_X12_paintsOn mv_X12_paintsOn w993 dX12_minuteGoes_17 tA0 (by decide) rfl rfl (Nat.le_of_ble_eq_true rfl) (by decide) (fun s17 p17 => ?_)
  have w17 := w12.trans p17.1 rfl
  have fq17 := p17.2.1
  rewrite [tl_1] at fq17
  replace hF := fx_S hF fq17
  refine q_iconst (pc := 20) hG dX12_minuteGoes_20 ki_0 ?_
  refine q_istore_n (pc := 21) [(1, .int 0), (0, .ref a0)] hG dX12_minuteGoes_21 (by decide) rfl ?_
  have J22 : ∀ (n22 : Nat) (p22_1 : Int32) (σ22 : q_V), (q_r p22_1 0 12) → (q_S md_X12_minuteGoes τ σ σ22) → (fx_kr σ σ22 q_1b) → (fx_eq Fv (kL_X12_minuteGoes_22 a0 q_1b n22 p22_1.toInt (fx_N σ22))) → ((12 - p22_1.toInt).toNat < n22) → q_O X 0 0 τ σ22 22 [(0, .ref a0), (1, .int p22_1)] [] := by
    intro n22
    induction n22 with
    | zero => intro p22_1 σ22 r22_1 hS22 iKR22 hF hm22; exact absurd hm22 (Nat.not_lt_zero _)
    | succ n22 ih22 =>
      intro p22_1 σ22 r22_1 hS22 iKR22 hF hm22
      replace hF := (show fx_eq Fv (kB_X12_minuteGoes_22 (kL_X12_minuteGoes_22 a0 q_1b n22) a0 q_1b p22_1.toInt (fx_N σ22)) from hF)
      unfold kB_X12_minuteGoes_22 at hF
      refine q_iload_n (pc := 22) hG dX12_minuteGoes_22 1 rfl ?_
      refine q_bipush (pc := 23) hG dX12_minuteGoes_23 kb_12 ?_
      refine q_icmp_ge (pc := 25) hG 39 dX12_minuteGoes_25 rfl ?_ ?_
      · intro c25
        replace hF := fx_lt2 hF rfl tl_12 c25
        refine q_aload_n (pc := 39) hG dX12_minuteGoes_39 0 rfl ?_
        refine q_getV (pc := 40) (v := .ref q_1b) hG fl_X12_7 dX12_minuteGoes_40 tA0 (hS22.same tA0 rfl q_1f) ?_
        refine q_sipush (pc := 43) hG dX12_minuteGoes_43 ks_515 ?_
        refine q_nald (pc := 46) hG dX12_minuteGoes_46 hS22.1 q_1T (q_ix rl_515 (by decide)) (fun v46 f46 => ?_)
        replace hF := fx_I hF f46 (congrArg Int.toNat tl_515)
        refine q_aload_n (pc := 47) hG dX12_minuteGoes_47 0 rfl ?_
        refine q_getV (pc := 48) (v := .ref q_1b) hG fl_X12_7 dX12_minuteGoes_48 tA0 (hS22.same tA0 rfl q_1f) ?_
        refine q_sipush (pc := 51) hG dX12_minuteGoes_51 ks_513 ?_
        refine q_nald (pc := 54) hG dX12_minuteGoes_54 hS22.1 q_1T (q_ix rl_513 (by decide)) (fun v54 f54 => ?_)
        replace hF := fx_I hF f54 (congrArg Int.toNat tl_513)
        have J121 : ∀ (σ121 : q_V), (q_S md_X12_minuteGoes τ σ σ121) → (fx_kr σ σ121 q_1b) → (fx_eq Fv (kJ_X12_minuteGoes_121 q_1b (fx_N σ121))) → q_O X 0 0 τ σ121 121 [(0, .ref a0)] [] := by
          intro σ121 hS121 iKR121 hF
          unfold kJ_X12_minuteGoes_121 at hF
          refine q_aload_n (pc := 121) hG dX12_minuteGoes_121 0 rfl ?_
          refine q_getV (pc := 122) (v := .ref q_1b) hG fl_X12_7 dX12_minuteGoes_122 tA0 (hS121.same tA0 rfl q_1f) ?_
          refine q_sipush (pc := 125) hG dX12_minuteGoes_125 ks_513 ?_
          refine q_aload_n (pc := 128) hG dX12_minuteGoes_128 0 rfl ?_
          refine q_getV (pc := 129) (v := .ref q_1b) hG fl_X12_7 dX12_minuteGoes_129 tA0 (hS121.same tA0 rfl q_1f) ?_
          refine q_sipush (pc := 132) hG dX12_minuteGoes_132 ks_513 ?_
          refine q_nald (pc := 135) hG dX12_minuteGoes_135 hS121.1 q_1T (q_ix rl_513 (by decide)) (fun v135 f135 => ?_)
          replace hF := fx_I hF f135 (congrArg Int.toNat tl_513)
          refine q_iconst (pc := 136) hG dX12_minuteGoes_136 ki_1 ?_
          refine q_iadd (pc := 137) hG dX12_minuteGoes_137 (fun v137 e137 => ?_)
          replace hF := fx_B_add hF rfl tl_1 e137
          refine q_nast (pc := 138) hG dX12_minuteGoes_138 hS121 q_1T (q_ix rl_513 (by decide)) (q_nfree (by have q := rl_513; unfold q_r at q; omega)) (q_r_any v137) (by decide) rfl (fun s138 u138 w138 => ?_)
          replace hF := fx_P hF u138 (congrArg Int.toNat tl_513) rfl
          have m138 : s138 q_1b (513 : Int32).toInt.toNat = .int v137 := by rw [u138]; exact q_up_same
          have kr_2 : fx_kr σ s138 q_1b := (fx_kr.P iKR121 u138 rl_513 (by decide))
          exact q_vrt hG hE dX12_minuteGoes_139 ⟨w138, (fx_end hF hF0), (fun bn hbn => by cases hbn.symm.trans q_1f; exact kr_2)⟩
        refine q_icmp_ne (pc := 55) hG 121 dX12_minuteGoes_55 rfl ?_ ?_
        · intro c55
          replace hF := fx_eq2 hF rfl rfl c55
          refine q_lv [0] rfl ?_
          exact J121 σ22 hS22 iKR22 hF
        intro c55
        replace hF := fx_eq1 hF rfl rfl c55
        refine q_iconst (pc := 58) hG dX12_minuteGoes_58 ki_0 ?_
        refine q_istore_n (pc := 59) [(1, .int 0), (0, .ref a0)] hG dX12_minuteGoes_59 (by decide) rfl ?_
        have J60 : ∀ (n60 : Nat) (p60_1 : Int32) (σ60 : q_V), (q_r p60_1 0 64) → (q_S md_X12_minuteGoes τ σ σ60) → (fx_kr σ σ60 q_1b) → (fx_eq Fv (kL_X12_minuteGoes_60 q_1b a0 n60 p60_1.toInt (fx_N σ60))) → ((64 - p60_1.toInt).toNat < n60) → q_O X 0 0 τ σ60 60 [(0, .ref a0), (1, .int p60_1)] [] := by
          intro n60
          induction n60 with
          | zero => intro p60_1 σ60 r60_1 hS60 iKR60 hF hm60; exact absurd hm60 (Nat.not_lt_zero _)
          | succ n60 ih60 =>
            intro p60_1 σ60 r60_1 hS60 iKR60 hF hm60
            replace hF := (show fx_eq Fv (kB_X12_minuteGoes_60 (kL_X12_minuteGoes_60 q_1b a0 n60) q_1b a0 p60_1.toInt (fx_N σ60)) from hF)
            unfold kB_X12_minuteGoes_60 at hF
            refine q_iload_n (pc := 60) hG dX12_minuteGoes_60 1 rfl ?_
            refine q_aload_n (pc := 61) hG dX12_minuteGoes_61 0 rfl ?_
            refine q_getV (pc := 62) (v := .ref q_1b) hG fl_X12_7 dX12_minuteGoes_62 tA0 (hS60.same tA0 rfl q_1f) ?_
            refine q_sipush (pc := 65) hG dX12_minuteGoes_65 ks_512 ?_
            refine q_naldc (pc := 68) (a1 := 8) (a2 := 64) hG dX12_minuteGoes_68 hS60.1 q_1T (q_ix rl_512 (by decide)) rfl (fun v68 f68 g68 => ?_)
            replace hF := fx_I hF f68 (congrArg Int.toNat tl_512)
            refine q_icmp_ge (pc := 69) hG 121 dX12_minuteGoes_69 rfl ?_ ?_
            · intro c69
              replace hF := fx_lt2 hF rfl rfl c69
              refine q_lv [0] rfl ?_
              exact J121 σ60 hS60 iKR60 hF
            intro c69
            replace hF := fx_lt1 hF rfl rfl c69
            refine q_aload_n (pc := 72) hG dX12_minuteGoes_72 0 rfl ?_
            refine q_getV (pc := 73) (v := .ref q_1b) hG fl_X12_7 dX12_minuteGoes_73 tA0 (hS60.same tA0 rfl q_1f) ?_
            refine q_sipush (pc := 76) hG dX12_minuteGoes_76 ks_448 ?_
            refine q_iload_n (pc := 79) hG dX12_minuteGoes_79 1 rfl ?_
            refine q_iadd (pc := 80) hG dX12_minuteGoes_80 (fun v80 e80 => ?_)
            have r_3 := q_rlt r60_1 g68 c69 63 (by decide)
            replace hF := fx_add hF tl_448 rfl (q_addN (lo := 448) (hi := 511) e80 rl_448 r_3 (by decide)).1
            have r_4 := (q_addN (lo := 448) (hi := 511) e80 rl_448 r_3 (by decide)).2
            refine q_nald (pc := 81) hG dX12_minuteGoes_81 hS60.1 q_1T (q_ix r_4 (by decide)) (fun v81 f81 => ?_)
            replace hF := fx_I hF f81 rfl
            refine q_bipush (pc := 82) hG dX12_minuteGoes_82 kb_m2 ?_
            have J115 : ∀ (σ115 : q_V), (q_S md_X12_minuteGoes τ σ σ115) → (fx_kr σ σ115 q_1b) → (fx_eq Fv (kJ_X12_minuteGoes_115 p60_1.toInt (kL_X12_minuteGoes_60 q_1b a0 n60) (fx_N σ115))) → q_O X 0 0 τ σ115 115 [(0, .ref a0), (1, .int p60_1)] [] := by
              intro σ115 hS115 iKR115 hF
              unfold kJ_X12_minuteGoes_115 at hF
              obtain ⟨v115, e115⟩ : ∃ z : Int32, z = p60_1 + Int32.ofInt 1 := ⟨_, rfl⟩
              have h115 := q_incN (lo := 1) (hi := 64) r_3 (by decide) (by decide) e115
              replace hF := fx_add hF rfl rfl h115.1
              refine q_iinc (pc := 115) [(1, .int v115), (0, .ref a0)] hG dX12_minuteGoes_115 1 rfl e115 (by decide) rfl ?_
              refine q_goto (pc := 118) 60 hG dX12_minuteGoes_118 rfl ?_
              refine q_lv [1, 0] rfl ?_
              exact ih60 v115 σ115 (q_r.mono h115.2 (by decide)) hS115 iKR115 hF (q_measU hm60 (by have o0 := c69; have o1 := (q_addN (lo := 448) (hi := 511) e80 rl_448 r_3 (by decide)).1; have o2 := h115.1; have o3 := r_3; have o4 := h115.2; have o5 := g68; have o6 := r_4; have l7 := tl_448; unfold q_r at o3 o4 o5 o6; omega) (h115.2).2)
            refine q_icmp_ne (pc := 84) hG 115 dX12_minuteGoes_84 rfl ?_ ?_
            · intro c84
              replace hF := fx_eq2 hF rfl tl_m2 c84
              refine q_lv [0, 1] rfl ?_
              exact J115 σ60 hS60 iKR60 hF
            intro c84
            replace hF := fx_eq1 hF rfl tl_m2 c84
            refine q_aload_n (pc := 87) hG dX12_minuteGoes_87 0 rfl ?_
            refine q_iload_n (pc := 88) hG dX12_minuteGoes_88 1 rfl ?_
            refine q_aload_n (pc := 89) hG dX12_minuteGoes_89 0 rfl ?_
            refine q_getV (pc := 90) (v := .ref q_1b) hG fl_X12_7 dX12_minuteGoes_90 tA0 (hS60.same tA0 rfl q_1f) ?_
            refine q_sipush (pc := 93) hG dX12_minuteGoes_93 ks_513 ?_
            refine q_nald (pc := 96) hG dX12_minuteGoes_96 hS60.1 q_1T (q_ix rl_513 (by decide)) (fun v96 f96 => ?_)
            replace hF := fx_I hF f96 (congrArg Int.toNat tl_513)
            refine q_pV (pc := 97) [.int p60_1, .int v96] [] hG (c_X12_isWet τ σ60 a0 p60_1 v96 hS60.1 tA0 r_3) my_X12_isWet mv_X12_isWet w975 dX12_minuteGoes_97 tA0 (by decide) rfl rfl (Nat.le_of_ble_eq_true rfl) (by decide) (fun v97 p97 => ?_)
            replace hF := fx_E hF p97.2
            refine q_if_eq (pc := 100) hG 115 dX12_minuteGoes_100 rfl ?_ ?_
            · intro c100
              replace hF := fx_eq1 hF rfl rfl c100
              refine q_lv [0, 1] rfl ?_
              exact J115 σ60 hS60 iKR60 hF
            intro c100
            replace hF := fx_eq2 hF rfl rfl c100
            refine q_aload_n (pc := 103) hG dX12_minuteGoes_103 0 rfl ?_
            refine q_getV (pc := 104) (v := .ref q_1b) hG fl_X12_7 dX12_minuteGoes_104 tA0 (hS60.same tA0 rfl q_1f) ?_
            refine q_sipush (pc := 107) hG dX12_minuteGoes_107 ks_448 ?_
            refine q_iload_n (pc := 110) hG dX12_minuteGoes_110 1 rfl ?_
            refine q_iadd (pc := 111) hG dX12_minuteGoes_111 (fun v111 e111 => ?_)
            rw [e111.trans e80.symm]
            refine q_bipush (pc := 112) hG dX12_minuteGoes_112 kb_12 ?_
            refine q_nast (pc := 114) hG dX12_minuteGoes_114 hS60 q_1T (q_ix r_4 (by decide)) (q_nfree (by have q := r_4; unfold q_r at q; omega)) rl_12 (by decide) rfl (fun s114 u114 w114 => ?_)
            replace hF := fx_P hF u114 rfl tl_12
            have m114 : s114 q_1b v80.toInt.toNat = .int 12 := by rw [u114]; exact q_up_same
            refine q_lv [0, 1] rfl ?_
            have kr_5 : fx_kr σ s114 q_1b := (fx_kr.P iKR60 u114 r_4 (by decide))
            exact J115 s114 w114 kr_5 hF
        refine q_lv [1, 0] rfl ?_
        exact J60 ((64 - (0 : Int32).toInt).toNat + 1) 0 σ22 (q_r.mono rl_0 (by decide)) hS22 iKR22 (by rw [tl_0]; exact hF) (Nat.lt_succ_self _)
      intro c25
      replace hF := fx_lt1 hF rfl tl_12 c25
      refine q_aload_n (pc := 28) hG dX12_minuteGoes_28 0 rfl ?_
      refine q_iload_n (pc := 29) hG dX12_minuteGoes_29 1 rfl ?_
      have r_6 := q_rlt r22_1 rl_12 c25 11 (by decide)
      refine q_cVv (pc := 30) [.int p22_1] [] hG (c_X12_drives τ σ22 a0 p22_1 hS22.1 tA0 r_6) my_X12_drives mv_X12_drives w1008 dX12_minuteGoes_30 tA0 (by decide) rfl rfl (Nat.le_of_ble_eq_true rfl) (by decide) (fun s30 p30 => ?_)
      have w30 := hS22.trans p30.1 rfl
      replace hF := fx_S hF p30.2.1
      obtain ⟨v33, e33⟩ : ∃ z : Int32, z = p22_1 + Int32.ofInt 1 := ⟨_, rfl⟩
      have h33 := q_incN (lo := 1) (hi := 12) r_6 (by decide) (by decide) e33
      replace hF := fx_add hF rfl rfl h33.1
      refine q_iinc (pc := 33) [(1, .int v33), (0, .ref a0)] hG dX12_minuteGoes_33 1 rfl e33 (by decide) rfl ?_
      refine q_goto (pc := 36) 22 hG dX12_minuteGoes_36 rfl ?_
      refine q_lv [1, 0] rfl ?_
      have kr_7 : fx_kr σ s30 q_1b := (fx_kr.T iKR22 (p30.2.2 q_1b (hS22.same tA0 rfl q_1f)))
      exact ih22 v33 s30 (q_r.mono h33.2 (by decide)) w30 kr_7 hF (q_measU hm22 (by have o0 := c25; have o1 := h33.1; have o2 := r_6; have o3 := h33.2; have l4 := tl_12; unfold q_r at o2 o3; omega) (h33.2).2)
  refine q_lv [1, 0] rfl ?_
  have kr_8 : fx_kr σ s17 q_1b := (fx_kr.T (fx_kr.T (fx_kr.T (fx_kr.T fx_kr.rf (p2.2.2 q_1b q_1f)) (p7.2.2 q_1b (w2.same tA0 rfl q_1f))) (p12.2.2 q_1b (w7.same tA0 rfl q_1f))) (p17.2.2 q_1b (w12.same tA0 rfl q_1f)))
  exact J22 ((12 - (0 : Int32).toInt).toNat + 1) 0 s17 (q_r.mono rl_0 (by decide)) w17 kr_8 (by rw [tl_0]; exact hF) (Nat.lt_succ_self _)
theorem dX12_minutesGo_0 : decode cX12_minutesGo 0 = .ok (.aload_n 0, 1) := by decide +kernel
theorem dX12_minutesGo_1 : decode cX12_minutesGo 1 = .ok (.iconst 0, 1) := by decide +kernel
theorem dX12_minutesGo_2 : decode cX12_minutesGo 2 = .ok (.putfield 278, 3) := by decide +kernel
theorem dX12_minutesGo_5 : decode cX12_minutesGo 5 = .ok (.iconst 0, 1) := by decide +kernel
theorem dX12_minutesGo_6 : decode cX12_minutesGo 6 = .ok (.istore_n 2, 1) := by decide +kernel
theorem dX12_minutesGo_7 : decode cX12_minutesGo 7 = .ok (.iload_n 2, 1) := by decide +kernel
theorem dX12_minutesGo_8 : decode cX12_minutesGo 8 = .ok (.iload_n 1, 1) := by decide +kernel
theorem dX12_minutesGo_9 : decode cX12_minutesGo 9 = .ok (.if_icmp .ge 27, 3) := by decide +kernel
theorem dX12_minutesGo_12 : decode cX12_minutesGo 12 = .ok (.aload_n 0, 1) := by decide +kernel
theorem dX12_minutesGo_13 : decode cX12_minutesGo 13 = .ok (.getfield 7, 3) := by decide +kernel
theorem dX12_minutesGo_16 : decode cX12_minutesGo 16 = .ok (.sipush 513, 3) := by decide +kernel
theorem dX12_minutesGo_19 : decode cX12_minutesGo 19 = .ok (.iaload, 1) := by decide +kernel
theorem dX12_minutesGo_20 : decode cX12_minutesGo 20 = .ok (.sipush 9999, 3) := by decide +kernel
theorem dX12_minutesGo_23 : decode cX12_minutesGo 23 = .ok (.if_icmp .ge 13, 3) := by decide +kernel
theorem dX12_minutesGo_26 : decode cX12_minutesGo 26 = .ok (.aload_n 0, 1) := by decide +kernel
theorem dX12_minutesGo_27 : decode cX12_minutesGo 27 = .ok (.invokevirtual 293, 3) := by decide +kernel
theorem dX12_minutesGo_30 : decode cX12_minutesGo 30 = .ok (.iinc 2 1, 3) := by decide +kernel
theorem dX12_minutesGo_33 : decode cX12_minutesGo 33 = .ok (.goto (-26), 3) := by decide +kernel
theorem dX12_minutesGo_36 : decode cX12_minutesGo 36 = .ok (.return_, 1) := by decide +kernel
def md_X12_minutesGo : List (Nat × Nat) := [(10, 29), (100, 0), (162, 0), (163, 0)]
set_option maxRecDepth 100000 in
set_option maxHeartbeats 4000000 in
theorem c_X12_minutesGo {l : Launch} {D : q_D} (τ : q_T) (σ : q_V) (a0 : Nat) (x1 : Int32) (hI : q_I τ σ) (tA0 : τ a0 = some (10, 1)) (rA1 : q_r x1 1 600) (hW : q_wf σ a0) : q_Cv l D yX12_minutesGo cX12_minutesGo 3 none 6 140 τ σ [.ref a0, .int x1] (fun σ1 => q_S md_X12_minutesGo τ σ σ1 ∧ (fx_N σ1 = f_X12_minutesGo (fx_N σ) a0 x1.toInt) ∧ (∀ bn : Nat, σ a0 0 = .ref bn → fx_kr σ σ1 bn)) := by
  refine q_metv rfl (Nat.le_of_ble_eq_true rfl) (fun X hG hE => ?_)
  show q_O X 0 0 τ σ 0 [(0, .ref a0), (1, .int x1)] []
  have hS0 : q_S md_X12_minutesGo τ σ σ := q_S.rf hI
  obtain ⟨Fv, hF⟩ : ∃ z, fx_eq z (f_X12_minutesGo (fx_N σ) a0 x1.toInt) := ⟨_, fx_rf⟩
  have hF0 := hF
  unfold f_X12_minutesGo at hF
  obtain ⟨q_1b, q_1f, q_1T⟩ := (hI a0 10 1 tA0 0 (by decide)).ref (k := 100) (n := 549) rfl
  replace hF := fx_R hF q_1f rfl
  refine q_aload_n (pc := 0) hG dX12_minutesGo_0 0 rfl ?_
  refine q_iconst (pc := 1) hG dX12_minutesGo_1 ki_0 ?_
  refine q_putI (pc := 2) hG fl_X12_278 dX12_minutesGo_2 hS0 tA0 ff_10_29 rl_0 (by decide) rfl (fun s2 u2 w2 => ?_)
  replace hF := fx_P hF u2 rfl tl_0
  have m2 : s2 a0 29 = .int 0 := by rw [u2]; exact q_up_same
  refine q_iconst (pc := 5) hG dX12_minutesGo_5 ki_0 ?_
  refine q_istore_n (pc := 6) [(2, .int 0), (0, .ref a0), (1, .int x1)] hG dX12_minutesGo_6 (by decide) rfl ?_
  have J7 : ∀ (n7 : Nat) (p7_2 : Int32) (σ7 : q_V), (q_r p7_2 0 600) → (q_S md_X12_minutesGo τ σ σ7) → (fx_kr σ σ7 q_1b) → (fx_eq Fv (kL_X12_minutesGo_7 x1.toInt q_1b a0 n7 p7_2.toInt (fx_N σ7))) → ((600 - p7_2.toInt).toNat < n7) → q_O X 0 0 τ σ7 7 [(0, .ref a0), (1, .int x1), (2, .int p7_2)] [] := by
    intro n7
    induction n7 with
    | zero => intro p7_2 σ7 r7_2 hS7 iKR7 hF hm7; exact absurd hm7 (Nat.not_lt_zero _)
    | succ n7 ih7 =>
      intro p7_2 σ7 r7_2 hS7 iKR7 hF hm7
      replace hF := (show fx_eq Fv (kB_X12_minutesGo_7 (kL_X12_minutesGo_7 x1.toInt q_1b a0 n7) x1.toInt q_1b a0 p7_2.toInt (fx_N σ7)) from hF)
      unfold kB_X12_minutesGo_7 at hF
      refine q_iload_n (pc := 7) hG dX12_minutesGo_7 2 rfl ?_
      refine q_iload_n (pc := 8) hG dX12_minutesGo_8 1 rfl ?_
      refine q_icmp_ge (pc := 9) hG 36 dX12_minutesGo_9 rfl ?_ ?_
      · intro c9
        replace hF := fx_lt2 hF rfl rfl c9
        exact q_vrt hG hE dX12_minutesGo_36 ⟨hS7, (fx_end hF hF0), (fun bn hbn => by cases hbn.symm.trans q_1f; exact iKR7)⟩
      intro c9
      replace hF := fx_lt1 hF rfl rfl c9
      refine q_aload_n (pc := 12) hG dX12_minutesGo_12 0 rfl ?_
      refine q_getV (pc := 13) (v := .ref q_1b) hG fl_X12_7 dX12_minutesGo_13 tA0 (hS7.same tA0 rfl q_1f) ?_
      refine q_sipush (pc := 16) hG dX12_minutesGo_16 ks_513 ?_
      refine q_nald (pc := 19) hG dX12_minutesGo_19 hS7.1 q_1T (q_ix rl_513 (by decide)) (fun v19 f19 => ?_)
      replace hF := fx_I hF f19 (congrArg Int.toNat tl_513)
      refine q_sipush (pc := 20) hG dX12_minutesGo_20 ks_9999 ?_
      refine q_icmp_ge (pc := 23) hG 36 dX12_minutesGo_23 rfl ?_ ?_
      · intro c23
        replace hF := fx_lt2 hF rfl tl_9999 c23
        exact q_vrt hG hE dX12_minutesGo_36 ⟨hS7, (fx_end hF hF0), (fun bn hbn => by cases hbn.symm.trans q_1f; exact iKR7)⟩
      intro c23
      replace hF := fx_lt1 hF rfl tl_9999 c23
      refine q_aload_n (pc := 26) hG dX12_minutesGo_26 0 rfl ?_
      refine q_cVv (pc := 27) [] [] hG (c_X12_minuteGoes τ σ7 a0 hS7.1 tA0 (q_wf.keep hI hS7.2 tA0 rfl hW)) my_X12_minuteGoes mv_X12_minuteGoes w960 dX12_minutesGo_27 tA0 (by decide) rfl rfl (Nat.le_of_ble_eq_true rfl) (by decide) (fun s27 p27 => ?_)
      have w27 := hS7.trans p27.1 rfl
      replace hF := fx_S hF p27.2.1
      obtain ⟨v30, e30⟩ : ∃ z : Int32, z = p7_2 + Int32.ofInt 1 := ⟨_, rfl⟩
      have r_2 := q_rlt r7_2 rA1 c9 599 (by decide)
      have h30 := q_incN (lo := 1) (hi := 600) r_2 (by decide) (by decide) e30
      replace hF := fx_add hF rfl rfl h30.1
      refine q_iinc (pc := 30) [(2, .int v30), (0, .ref a0), (1, .int x1)] hG dX12_minutesGo_30 2 rfl e30 (by decide) rfl ?_
      refine q_goto (pc := 33) 7 hG dX12_minutesGo_33 rfl ?_
      refine q_lv [1, 2, 0] rfl ?_
      have kr_3 : fx_kr σ s27 q_1b := (fx_kr.T iKR7 (p27.2.2 q_1b (hS7.same tA0 rfl q_1f)))
      exact ih7 v30 s27 (q_r.mono h30.2 (by decide)) w27 kr_3 hF (q_measU hm7 (by have o0 := c9; have o1 := h30.1; have o2 := r_2; have o3 := h30.2; have o4 := rA1; unfold q_r at o2 o3 o4; omega) (h30.2).2)
  refine q_lv [1, 2, 0] rfl ?_
  have kr_4 : fx_kr σ s2 q_1b := (fx_kr.K fx_kr.rf u2 q_1T tA0 (by decide))
  exact J7 ((600 - (0 : Int32).toInt).toNat + 1) 0 s2 (q_r.mono rl_0 (by decide)) w2 kr_4 (by rw [tl_0]; exact hF) (Nat.lt_succ_self _)
theorem dX12_minutes_0 : decode cX12_minutes 0 = .ok (.iload_n 1, 1) := by decide +kernel
theorem dX12_minutes_1 : decode cX12_minutes 1 = .ok (.iconst 1, 1) := by decide +kernel
theorem dX12_minutes_2 : decode cX12_minutes 2 = .ok (.sipush 600, 3) := by decide +kernel
theorem dX12_minutes_5 : decode cX12_minutes 5 = .ok (.invokestatic 102, 3) := by decide +kernel
theorem dX12_minutes_8 : decode cX12_minutes 8 = .ok (.ifCond .ne 5, 3) := by decide +kernel
theorem dX12_minutes_11 : decode cX12_minutes 11 = .ok (.iconst (-1), 1) := by decide +kernel
theorem dX12_minutes_12 : decode cX12_minutes 12 = .ok (.ireturn, 1) := by decide +kernel
theorem dX12_minutes_13 : decode cX12_minutes 13 = .ok (.aload_n 0, 1) := by decide +kernel
theorem dX12_minutes_14 : decode cX12_minutes 14 = .ok (.iload_n 1, 1) := by decide +kernel
theorem dX12_minutes_15 : decode cX12_minutes 15 = .ok (.invokevirtual 296, 3) := by decide +kernel
theorem dX12_minutes_18 : decode cX12_minutes 18 = .ok (.aload_n 0, 1) := by decide +kernel
theorem dX12_minutes_19 : decode cX12_minutes 19 = .ok (.getfield 278, 3) := by decide +kernel
theorem dX12_minutes_22 : decode cX12_minutes 22 = .ok (.ireturn, 1) := by decide +kernel
def md_X12_minutes : List (Nat × Nat) := [(10, 29), (100, 0), (162, 0), (163, 0)]
set_option maxRecDepth 100000 in
set_option maxHeartbeats 4000000 in
theorem c_X12_minutes {l : Launch} {D : q_D} (τ : q_T) (σ : q_V) (a0 : Nat) (x1 : Int32) (hI : q_I τ σ) (tA0 : τ a0 = some (10, 1)) (hW : q_wf σ a0) : q_Ci l D yX12_minutes cX12_minutes 2 (some .int) 7 162 τ σ [.ref a0, .int x1] (fun r σ1 => q_S md_X12_minutes τ σ σ1 ∧ (q_r r (-2147483648) 2147483647) ∧ ((r.toInt, fx_N σ1) = f_X12_minutes (fx_N σ) a0 x1.toInt) ∧ (∀ bn : Nat, σ a0 0 = .ref bn → fx_kr σ σ1 bn)) := by
  refine q_meti rfl (Nat.le_of_ble_eq_true rfl) (fun X hG hE => ?_)
  show q_O X 0 0 τ σ 0 [(0, .ref a0), (1, .int x1)] []
  have hS0 : q_S md_X12_minutes τ σ σ := q_S.rf hI
  obtain ⟨Fv, hF⟩ : ∃ z, fx_eq z (f_X12_minutes (fx_N σ) a0 x1.toInt) := ⟨_, fx_rf⟩
  have hF0 := hF
  unfold f_X12_minutes at hF
  obtain ⟨q_1b, q_1f, q_1T⟩ := (hI a0 10 1 tA0 0 (by decide)).ref (k := 100) (n := 549) rfl
  replace hF := fx_R hF q_1f rfl
  refine q_iload_n (pc := 0) hG dX12_minutes_0 1 rfl ?_
  refine q_iconst (pc := 1) hG dX12_minutes_1 ki_1 ?_
  refine q_sipush (pc := 2) hG dX12_minutes_2 ks_600 ?_
  refine q_pS (pc := 5) [.int x1, .int 1, .int 600] [] hG (c_X12_in τ σ x1 1 600 hI) my_X12_in w778 w777 dX12_minutes_5 rfl rfl (Nat.le_of_ble_eq_true rfl) (by decide) (fun v5 p5 => ?_)
  have fq5 := p5.2.1
  rewrite [tl_1, tl_600] at fq5
  replace hF := fx_E hF fq5
  refine q_if_ne (pc := 8) hG 13 dX12_minutes_8 rfl ?_ ?_
  · intro c8
    have g_2 := p5.2.2.mp (q_one p5.1 c8)
    have r_3 := q_rge (q_r_any x1) rl_1 g_2.1
    replace hF := fx_eq2 hF rfl rfl c8
    refine q_aload_n (pc := 13) hG dX12_minutes_13 0 rfl ?_
    refine q_iload_n (pc := 14) hG dX12_minutes_14 1 rfl ?_
    have r_4 := q_rle r_3 rl_600 g_2.2
    refine q_cVv (pc := 15) [.int x1] [] hG (c_X12_minutesGo τ σ a0 x1 hI tA0 r_4 hW) my_X12_minutesGo mv_X12_minutesGo w957 dX12_minutes_15 tA0 (by decide) rfl rfl (Nat.le_of_ble_eq_true rfl) (by decide) (fun s15 p15 => ?_)
    have w15 := hS0.trans p15.1 rfl
    replace hF := fx_S hF p15.2.1
    refine q_aload_n (pc := 18) hG dX12_minutes_18 0 rfl ?_
    refine q_getI (pc := 19) hG fl_X12_278 dX12_minutes_19 w15.1 tA0 ff_10_29 (fun v19 f19 g19 => ?_)
    replace hF := fx_I hF f19 rfl
    have kr_5 : fx_kr σ s15 q_1b := (fx_kr.T fx_kr.rf (p15.2.2 q_1b q_1f))
    exact q_irt hG hE dX12_minutes_22 ⟨w15, g19, (fx_end hF hF0), (fun bn hbn => by cases hbn.symm.trans q_1f; exact kr_5)⟩
  intro c8
  replace hF := fx_eq1 hF rfl rfl c8
  refine q_iconst (pc := 11) hG dX12_minutes_11 ki_m1 ?_
  exact q_irt hG hE dX12_minutes_12 ⟨hS0, (q_r.mono rl_m1 (by decide)), (by rw [tl_m1]; exact fx_end hF hF0), (fun bn hbn => by cases hbn.symm.trans q_1f; exact fx_kr.rf)⟩
theorem dX12_paintedAll_0 : decode cX12_paintedAll 0 = .ok (.iconst 0, 1) := by decide +kernel
theorem dX12_paintedAll_1 : decode cX12_paintedAll 1 = .ok (.istore_n 1, 1) := by decide +kernel
theorem dX12_paintedAll_2 : decode cX12_paintedAll 2 = .ok (.iconst 0, 1) := by decide +kernel
theorem dX12_paintedAll_3 : decode cX12_paintedAll 3 = .ok (.istore_n 2, 1) := by decide +kernel
theorem dX12_paintedAll_4 : decode cX12_paintedAll 4 = .ok (.iload_n 2, 1) := by decide +kernel
theorem dX12_paintedAll_5 : decode cX12_paintedAll 5 = .ok (.aload_n 0, 1) := by decide +kernel
theorem dX12_paintedAll_6 : decode cX12_paintedAll 6 = .ok (.getfield 7, 3) := by decide +kernel
theorem dX12_paintedAll_9 : decode cX12_paintedAll 9 = .ok (.sipush 512, 3) := by decide +kernel
theorem dX12_paintedAll_12 : decode cX12_paintedAll 12 = .ok (.iaload, 1) := by decide +kernel
theorem dX12_paintedAll_13 : decode cX12_paintedAll 13 = .ok (.if_icmp .ge 25, 3) := by decide +kernel
theorem dX12_paintedAll_16 : decode cX12_paintedAll 16 = .ok (.iload_n 1, 1) := by decide +kernel
theorem dX12_paintedAll_17 : decode cX12_paintedAll 17 = .ok (.aload_n 0, 1) := by decide +kernel
theorem dX12_paintedAll_18 : decode cX12_paintedAll 18 = .ok (.iload_n 2, 1) := by decide +kernel
theorem dX12_paintedAll_19 : decode cX12_paintedAll 19 = .ok (.invokevirtual 116, 3) := by decide +kernel
theorem dX12_paintedAll_22 : decode cX12_paintedAll 22 = .ok (.ifCond .eq 7, 3) := by decide +kernel
theorem dX12_paintedAll_25 : decode cX12_paintedAll 25 = .ok (.iconst 1, 1) := by decide +kernel
theorem dX12_paintedAll_26 : decode cX12_paintedAll 26 = .ok (.goto 4, 3) := by decide +kernel
theorem dX12_paintedAll_29 : decode cX12_paintedAll 29 = .ok (.iconst 0, 1) := by decide +kernel
theorem dX12_paintedAll_30 : decode cX12_paintedAll 30 = .ok (.iadd, 1) := by decide +kernel
theorem dX12_paintedAll_31 : decode cX12_paintedAll 31 = .ok (.istore_n 1, 1) := by decide +kernel
theorem dX12_paintedAll_32 : decode cX12_paintedAll 32 = .ok (.iinc 2 1, 3) := by decide +kernel
theorem dX12_paintedAll_35 : decode cX12_paintedAll 35 = .ok (.goto (-31), 3) := by decide +kernel
theorem dX12_paintedAll_38 : decode cX12_paintedAll 38 = .ok (.iload_n 1, 1) := by decide +kernel
theorem dX12_paintedAll_39 : decode cX12_paintedAll 39 = .ok (.ireturn, 1) := by decide +kernel
set_option maxRecDepth 100000 in
set_option maxHeartbeats 4000000 in
theorem c_X12_paintedAll {l : Launch} {D : q_D} (τ : q_T) (σ : q_V) (a0 : Nat) (hI : q_I τ σ) (tA0 : τ a0 = some (10, 1)) : q_Cp l D yX12_paintedAll cX12_paintedAll 3 (some .int) 1 21 τ σ [.ref a0] (fun r => (q_r r (-2147483648) 2147483647) ∧ (r.toInt = f_X12_paintedAll (fx_N σ) a0)) := by
  refine q_meti rfl (Nat.le_of_ble_eq_true rfl) (fun X hG hE => ?_)
  show q_O X 0 0 τ σ 0 [(0, .ref a0)] []
  obtain ⟨Fv, hF⟩ : ∃ z, fx_eq z (f_X12_paintedAll (fx_N σ) a0) := ⟨_, fx_rf⟩
  have hF0 := hF
  unfold f_X12_paintedAll at hF
  refine q_iconst (pc := 0) hG dX12_paintedAll_0 ki_0 ?_
  refine q_istore_n (pc := 1) [(1, .int 0), (0, .ref a0)] hG dX12_paintedAll_1 (by decide) rfl ?_
  refine q_iconst (pc := 2) hG dX12_paintedAll_2 ki_0 ?_
  refine q_istore_n (pc := 3) [(2, .int 0), (1, .int 0), (0, .ref a0)] hG dX12_paintedAll_3 (by decide) rfl ?_
  have J4 : ∀ (n4 : Nat) (p4_1 : Int32) (p4_2 : Int32), (q_r p4_2 0 64) → (fx_eq Fv (kL_X12_paintedAll_4 (fx_N σ) a0 n4 p4_1.toInt p4_2.toInt)) → ((64 - p4_2.toInt).toNat < n4) → q_O X 0 0 τ σ 4 [(0, .ref a0), (1, .int p4_1), (2, .int p4_2)] [] := by
    intro n4
    induction n4 with
    | zero => intro p4_1 p4_2 r4_2 hF hm4; exact absurd hm4 (Nat.not_lt_zero _)
    | succ n4 ih4 =>
      intro p4_1 p4_2 r4_2 hF hm4
      replace hF := (show fx_eq Fv (kB_X12_paintedAll_4 (kL_X12_paintedAll_4 (fx_N σ) a0 n4) (fx_N σ) a0 p4_1.toInt p4_2.toInt) from hF)
      unfold kB_X12_paintedAll_4 at hF
      refine q_iload_n (pc := 4) hG dX12_paintedAll_4 2 rfl ?_
      refine q_aload_n (pc := 5) hG dX12_paintedAll_5 0 rfl ?_
      refine q_getR (pc := 6) (k2 := 100) (n2 := 549) hG fl_X12_7 dX12_paintedAll_6 hI tA0 ff_10_0 (fun b6 f6 T6 => ?_)
      replace hF := fx_R hF f6 rfl
      refine q_sipush (pc := 9) hG dX12_paintedAll_9 ks_512 ?_
      refine q_naldc (pc := 12) (a1 := 8) (a2 := 64) hG dX12_paintedAll_12 hI T6 (q_ix rl_512 (by decide)) rfl (fun v12 f12 g12 => ?_)
      replace hF := fx_I hF f12 (congrArg Int.toNat tl_512)
      refine q_icmp_ge (pc := 13) hG 38 dX12_paintedAll_13 rfl ?_ ?_
      · intro c13
        replace hF := fx_lt2 hF rfl rfl c13
        refine q_iload_n (pc := 38) hG dX12_paintedAll_38 1 rfl ?_
        exact q_irt hG hE dX12_paintedAll_39 ⟨rfl, (q_r_any p4_1), (fx_end hF hF0)⟩
      intro c13
      replace hF := fx_lt1 hF rfl rfl c13
      refine q_iload_n (pc := 16) hG dX12_paintedAll_16 1 rfl ?_
      refine q_aload_n (pc := 17) hG dX12_paintedAll_17 0 rfl ?_
      refine q_iload_n (pc := 18) hG dX12_paintedAll_18 2 rfl ?_
      have r_1 := q_rlt r4_2 g12 c13 63 (by decide)
      refine q_pV (pc := 19) [.int p4_2] [.int p4_1] hG (c_X12_isPainted τ σ a0 p4_2 hI tA0 r_1) my_X12_isPainted mv_X12_isPainted w862 dX12_paintedAll_19 tA0 (by decide) rfl rfl (Nat.le_of_ble_eq_true rfl) (by decide) (fun v19 p19 => ?_)
      replace hF := fx_E hF p19.2
      have J30 : ∀ (p30_s0 : Int32), (q_r p30_s0 0 1) → (fx_eq Fv (kJ_X12_paintedAll_30 p4_1.toInt p4_2.toInt (kL_X12_paintedAll_4 (fx_N σ) a0 n4) p30_s0.toInt)) → q_O X 0 0 τ σ 30 [(0, .ref a0), (2, .int p4_2)] [.int p30_s0, .int p4_1] := by
        intro p30_s0 r30_s0 hF
        unfold kJ_X12_paintedAll_30 at hF
        refine q_iadd (pc := 30) hG dX12_paintedAll_30 (fun v30 e30 => ?_)
        replace hF := fx_B_add hF rfl rfl e30
        refine q_istore_n (pc := 31) [(1, .int v30), (0, .ref a0), (2, .int p4_2)] hG dX12_paintedAll_31 (by decide) rfl ?_
        obtain ⟨v32, e32⟩ : ∃ z : Int32, z = p4_2 + Int32.ofInt 1 := ⟨_, rfl⟩
        have h32 := q_incN (lo := 1) (hi := 64) r_1 (by decide) (by decide) e32
        replace hF := fx_add hF rfl rfl h32.1
        refine q_iinc (pc := 32) [(2, .int v32), (1, .int v30), (0, .ref a0)] hG dX12_paintedAll_32 2 rfl e32 (by decide) rfl ?_
        refine q_goto (pc := 35) 4 hG dX12_paintedAll_35 rfl ?_
        refine q_lv [2, 1, 0] rfl ?_
        exact ih4 v30 v32 (q_r.mono h32.2 (by decide)) hF (q_measU hm4 (by have o0 := c13; have o1 := h32.1; have o2 := r_1; have o3 := g12; have o4 := h32.2; unfold q_r at o2 o3 o4; omega) (h32.2).2)
      refine q_if_eq (pc := 22) hG 29 dX12_paintedAll_22 rfl ?_ ?_
      · intro c22
        replace hF := fx_eq1 hF rfl rfl c22
        refine q_iconst (pc := 29) hG dX12_paintedAll_29 ki_0 ?_
        refine q_lv [0, 2] rfl ?_
        exact J30 0 (q_r.mono rl_0 (by decide)) (by rw [tl_0]; exact hF)
      intro c22
      replace hF := fx_eq2 hF rfl rfl c22
      refine q_iconst (pc := 25) hG dX12_paintedAll_25 ki_1 ?_
      refine q_goto (pc := 26) 30 hG dX12_paintedAll_26 rfl ?_
      refine q_lv [0, 2] rfl ?_
      exact J30 1 (q_r.mono rl_1 (by decide)) (by rw [tl_1]; exact hF)
  refine q_lv [2, 1, 0] rfl ?_
  exact J4 ((64 - (0 : Int32).toInt).toNat + 1) 0 0 (q_r.mono rl_0 (by decide)) (by rw [tl_0]; exact hF) (Nat.lt_succ_self _)
theorem dX12_spoiltAll_0 : decode cX12_spoiltAll 0 = .ok (.iconst 0, 1) := by decide +kernel
theorem dX12_spoiltAll_1 : decode cX12_spoiltAll 1 = .ok (.istore_n 1, 1) := by decide +kernel
theorem dX12_spoiltAll_2 : decode cX12_spoiltAll 2 = .ok (.iconst 0, 1) := by decide +kernel
theorem dX12_spoiltAll_3 : decode cX12_spoiltAll 3 = .ok (.istore_n 2, 1) := by decide +kernel
theorem dX12_spoiltAll_4 : decode cX12_spoiltAll 4 = .ok (.iload_n 2, 1) := by decide +kernel
theorem dX12_spoiltAll_5 : decode cX12_spoiltAll 5 = .ok (.aload_n 0, 1) := by decide +kernel
theorem dX12_spoiltAll_6 : decode cX12_spoiltAll 6 = .ok (.getfield 7, 3) := by decide +kernel
theorem dX12_spoiltAll_9 : decode cX12_spoiltAll 9 = .ok (.sipush 512, 3) := by decide +kernel
theorem dX12_spoiltAll_12 : decode cX12_spoiltAll 12 = .ok (.iaload, 1) := by decide +kernel
theorem dX12_spoiltAll_13 : decode cX12_spoiltAll 13 = .ok (.if_icmp .ge 32, 3) := by decide +kernel
theorem dX12_spoiltAll_16 : decode cX12_spoiltAll 16 = .ok (.iload_n 1, 1) := by decide +kernel
theorem dX12_spoiltAll_17 : decode cX12_spoiltAll 17 = .ok (.aload_n 0, 1) := by decide +kernel
theorem dX12_spoiltAll_18 : decode cX12_spoiltAll 18 = .ok (.getfield 7, 3) := by decide +kernel
theorem dX12_spoiltAll_21 : decode cX12_spoiltAll 21 = .ok (.sipush 448, 3) := by decide +kernel
theorem dX12_spoiltAll_24 : decode cX12_spoiltAll 24 = .ok (.iload_n 2, 1) := by decide +kernel
theorem dX12_spoiltAll_25 : decode cX12_spoiltAll 25 = .ok (.iadd, 1) := by decide +kernel
theorem dX12_spoiltAll_26 : decode cX12_spoiltAll 26 = .ok (.iaload, 1) := by decide +kernel
theorem dX12_spoiltAll_27 : decode cX12_spoiltAll 27 = .ok (.bipush (-2), 2) := by decide +kernel
theorem dX12_spoiltAll_29 : decode cX12_spoiltAll 29 = .ok (.if_icmp .ne 7, 3) := by decide +kernel
theorem dX12_spoiltAll_32 : decode cX12_spoiltAll 32 = .ok (.iconst 0, 1) := by decide +kernel
theorem dX12_spoiltAll_33 : decode cX12_spoiltAll 33 = .ok (.goto 4, 3) := by decide +kernel
theorem dX12_spoiltAll_36 : decode cX12_spoiltAll 36 = .ok (.iconst 1, 1) := by decide +kernel
theorem dX12_spoiltAll_37 : decode cX12_spoiltAll 37 = .ok (.iadd, 1) := by decide +kernel
theorem dX12_spoiltAll_38 : decode cX12_spoiltAll 38 = .ok (.istore_n 1, 1) := by decide +kernel
theorem dX12_spoiltAll_39 : decode cX12_spoiltAll 39 = .ok (.iinc 2 1, 3) := by decide +kernel
theorem dX12_spoiltAll_42 : decode cX12_spoiltAll 42 = .ok (.goto (-38), 3) := by decide +kernel
theorem dX12_spoiltAll_45 : decode cX12_spoiltAll 45 = .ok (.iload_n 1, 1) := by decide +kernel
theorem dX12_spoiltAll_46 : decode cX12_spoiltAll 46 = .ok (.ireturn, 1) := by decide +kernel
set_option maxRecDepth 100000 in
set_option maxHeartbeats 4000000 in
theorem c_X12_spoiltAll {l : Launch} {D : q_D} (τ : q_T) (σ : q_V) (a0 : Nat) (hI : q_I τ σ) (tA0 : τ a0 = some (10, 1)) : q_Cp l D yX12_spoiltAll cX12_spoiltAll 3 (some .int) 0 0 τ σ [.ref a0] (fun r => (q_r r (-2147483648) 2147483647) ∧ (r.toInt = f_X12_spoiltAll (fx_N σ) a0)) := by
  refine q_meti rfl (Nat.le_of_ble_eq_true rfl) (fun X hG hE => ?_)
  show q_O X 0 0 τ σ 0 [(0, .ref a0)] []
  obtain ⟨Fv, hF⟩ : ∃ z, fx_eq z (f_X12_spoiltAll (fx_N σ) a0) := ⟨_, fx_rf⟩
  have hF0 := hF
  unfold f_X12_spoiltAll at hF
  refine q_iconst (pc := 0) hG dX12_spoiltAll_0 ki_0 ?_
  refine q_istore_n (pc := 1) [(1, .int 0), (0, .ref a0)] hG dX12_spoiltAll_1 (by decide) rfl ?_
  refine q_iconst (pc := 2) hG dX12_spoiltAll_2 ki_0 ?_
  refine q_istore_n (pc := 3) [(2, .int 0), (1, .int 0), (0, .ref a0)] hG dX12_spoiltAll_3 (by decide) rfl ?_
  have J4 : ∀ (n4 : Nat) (p4_1 : Int32) (p4_2 : Int32), (q_r p4_2 0 64) → (fx_eq Fv (kL_X12_spoiltAll_4 (fx_N σ) a0 n4 p4_1.toInt p4_2.toInt)) → ((64 - p4_2.toInt).toNat < n4) → q_O X 0 0 τ σ 4 [(0, .ref a0), (1, .int p4_1), (2, .int p4_2)] [] := by
    intro n4
    induction n4 with
    | zero => intro p4_1 p4_2 r4_2 hF hm4; exact absurd hm4 (Nat.not_lt_zero _)
    | succ n4 ih4 =>
      intro p4_1 p4_2 r4_2 hF hm4
      replace hF := (show fx_eq Fv (kB_X12_spoiltAll_4 (kL_X12_spoiltAll_4 (fx_N σ) a0 n4) (fx_N σ) a0 p4_1.toInt p4_2.toInt) from hF)
      unfold kB_X12_spoiltAll_4 at hF
      refine q_iload_n (pc := 4) hG dX12_spoiltAll_4 2 rfl ?_
      refine q_aload_n (pc := 5) hG dX12_spoiltAll_5 0 rfl ?_
      refine q_getR (pc := 6) (k2 := 100) (n2 := 549) hG fl_X12_7 dX12_spoiltAll_6 hI tA0 ff_10_0 (fun b6 f6 T6 => ?_)
      replace hF := fx_R hF f6 rfl
      refine q_sipush (pc := 9) hG dX12_spoiltAll_9 ks_512 ?_
      refine q_naldc (pc := 12) (a1 := 8) (a2 := 64) hG dX12_spoiltAll_12 hI T6 (q_ix rl_512 (by decide)) rfl (fun v12 f12 g12 => ?_)
      replace hF := fx_I hF f12 (congrArg Int.toNat tl_512)
      refine q_icmp_ge (pc := 13) hG 45 dX12_spoiltAll_13 rfl ?_ ?_
      · intro c13
        replace hF := fx_lt2 hF rfl rfl c13
        refine q_iload_n (pc := 45) hG dX12_spoiltAll_45 1 rfl ?_
        exact q_irt hG hE dX12_spoiltAll_46 ⟨rfl, (q_r_any p4_1), (fx_end hF hF0)⟩
      intro c13
      replace hF := fx_lt1 hF rfl rfl c13
      refine q_iload_n (pc := 16) hG dX12_spoiltAll_16 1 rfl ?_
      refine q_aload_n (pc := 17) hG dX12_spoiltAll_17 0 rfl ?_
      refine q_getV (pc := 18) (v := .ref b6) hG fl_X12_7 dX12_spoiltAll_18 tA0 f6 ?_
      refine q_sipush (pc := 21) hG dX12_spoiltAll_21 ks_448 ?_
      refine q_iload_n (pc := 24) hG dX12_spoiltAll_24 2 rfl ?_
      refine q_iadd (pc := 25) hG dX12_spoiltAll_25 (fun v25 e25 => ?_)
      have r_1 := q_rlt r4_2 g12 c13 63 (by decide)
      replace hF := fx_add hF tl_448 rfl (q_addN (lo := 448) (hi := 511) e25 rl_448 r_1 (by decide)).1
      have r_2 := (q_addN (lo := 448) (hi := 511) e25 rl_448 r_1 (by decide)).2
      refine q_nald (pc := 26) hG dX12_spoiltAll_26 hI T6 (q_ix r_2 (by decide)) (fun v26 f26 => ?_)
      replace hF := fx_I hF f26 rfl
      refine q_bipush (pc := 27) hG dX12_spoiltAll_27 kb_m2 ?_
      have J37 : ∀ (p37_s0 : Int32), (q_r p37_s0 0 1) → (fx_eq Fv (kJ_X12_spoiltAll_37 p4_1.toInt p4_2.toInt (kL_X12_spoiltAll_4 (fx_N σ) a0 n4) p37_s0.toInt)) → q_O X 0 0 τ σ 37 [(0, .ref a0), (2, .int p4_2)] [.int p37_s0, .int p4_1] := by
        intro p37_s0 r37_s0 hF
        unfold kJ_X12_spoiltAll_37 at hF
        refine q_iadd (pc := 37) hG dX12_spoiltAll_37 (fun v37 e37 => ?_)
        replace hF := fx_B_add hF rfl rfl e37
        refine q_istore_n (pc := 38) [(1, .int v37), (0, .ref a0), (2, .int p4_2)] hG dX12_spoiltAll_38 (by decide) rfl ?_
        obtain ⟨v39, e39⟩ : ∃ z : Int32, z = p4_2 + Int32.ofInt 1 := ⟨_, rfl⟩
        have h39 := q_incN (lo := 1) (hi := 64) r_1 (by decide) (by decide) e39
        replace hF := fx_add hF rfl rfl h39.1
        refine q_iinc (pc := 39) [(2, .int v39), (1, .int v37), (0, .ref a0)] hG dX12_spoiltAll_39 2 rfl e39 (by decide) rfl ?_
        refine q_goto (pc := 42) 4 hG dX12_spoiltAll_42 rfl ?_
        refine q_lv [2, 1, 0] rfl ?_
        exact ih4 v37 v39 (q_r.mono h39.2 (by decide)) hF (q_measU hm4 (by have o0 := c13; have o1 := (q_addN (lo := 448) (hi := 511) e25 rl_448 r_1 (by decide)).1; have o2 := h39.1; have o3 := r_1; have o4 := g12; have o5 := r_2; have o6 := h39.2; have l7 := tl_448; unfold q_r at o3 o4 o5 o6; omega) (h39.2).2)
      refine q_icmp_ne (pc := 29) hG 36 dX12_spoiltAll_29 rfl ?_ ?_
      · intro c29
        replace hF := fx_eq2 hF rfl tl_m2 c29
        refine q_iconst (pc := 36) hG dX12_spoiltAll_36 ki_1 ?_
        refine q_lv [0, 2] rfl ?_
        exact J37 1 (q_r.mono rl_1 (by decide)) (by rw [tl_1]; exact hF)
      intro c29
      replace hF := fx_eq1 hF rfl tl_m2 c29
      refine q_iconst (pc := 32) hG dX12_spoiltAll_32 ki_0 ?_
      refine q_goto (pc := 33) 37 hG dX12_spoiltAll_33 rfl ?_
      refine q_lv [0, 2] rfl ?_
      exact J37 0 (q_r.mono rl_0 (by decide)) (by rw [tl_0]; exact hF)
  refine q_lv [2, 1, 0] rfl ?_
  exact J4 ((64 - (0 : Int32).toInt).toNat + 1) 0 0 (q_r.mono rl_0 (by decide)) (by rw [tl_0]; exact hF) (Nat.lt_succ_self _)
theorem dX12_wetAll_0 : decode cX12_wetAll 0 = .ok (.iconst 0, 1) := by decide +kernel
theorem dX12_wetAll_1 : decode cX12_wetAll 1 = .ok (.istore_n 1, 1) := by decide +kernel
theorem dX12_wetAll_2 : decode cX12_wetAll 2 = .ok (.iconst 0, 1) := by decide +kernel
theorem dX12_wetAll_3 : decode cX12_wetAll 3 = .ok (.istore_n 2, 1) := by decide +kernel
theorem dX12_wetAll_4 : decode cX12_wetAll 4 = .ok (.iload_n 2, 1) := by decide +kernel
theorem dX12_wetAll_5 : decode cX12_wetAll 5 = .ok (.aload_n 0, 1) := by decide +kernel
theorem dX12_wetAll_6 : decode cX12_wetAll 6 = .ok (.getfield 7, 3) := by decide +kernel
theorem dX12_wetAll_9 : decode cX12_wetAll 9 = .ok (.sipush 512, 3) := by decide +kernel
theorem dX12_wetAll_12 : decode cX12_wetAll 12 = .ok (.iaload, 1) := by decide +kernel
theorem dX12_wetAll_13 : decode cX12_wetAll 13 = .ok (.if_icmp .ge 33, 3) := by decide +kernel
theorem dX12_wetAll_16 : decode cX12_wetAll 16 = .ok (.iload_n 1, 1) := by decide +kernel
theorem dX12_wetAll_17 : decode cX12_wetAll 17 = .ok (.aload_n 0, 1) := by decide +kernel
theorem dX12_wetAll_18 : decode cX12_wetAll 18 = .ok (.iload_n 2, 1) := by decide +kernel
theorem dX12_wetAll_19 : decode cX12_wetAll 19 = .ok (.aload_n 0, 1) := by decide +kernel
theorem dX12_wetAll_20 : decode cX12_wetAll 20 = .ok (.getfield 7, 3) := by decide +kernel
theorem dX12_wetAll_23 : decode cX12_wetAll 23 = .ok (.sipush 513, 3) := by decide +kernel
theorem dX12_wetAll_26 : decode cX12_wetAll 26 = .ok (.iaload, 1) := by decide +kernel
theorem dX12_wetAll_27 : decode cX12_wetAll 27 = .ok (.invokevirtual 254, 3) := by decide +kernel
theorem dX12_wetAll_30 : decode cX12_wetAll 30 = .ok (.ifCond .eq 7, 3) := by decide +kernel
theorem dX12_wetAll_33 : decode cX12_wetAll 33 = .ok (.iconst 1, 1) := by decide +kernel
theorem dX12_wetAll_34 : decode cX12_wetAll 34 = .ok (.goto 4, 3) := by decide +kernel
theorem dX12_wetAll_37 : decode cX12_wetAll 37 = .ok (.iconst 0, 1) := by decide +kernel
theorem dX12_wetAll_38 : decode cX12_wetAll 38 = .ok (.iadd, 1) := by decide +kernel
theorem dX12_wetAll_39 : decode cX12_wetAll 39 = .ok (.istore_n 1, 1) := by decide +kernel
theorem dX12_wetAll_40 : decode cX12_wetAll 40 = .ok (.iinc 2 1, 3) := by decide +kernel
theorem dX12_wetAll_43 : decode cX12_wetAll 43 = .ok (.goto (-39), 3) := by decide +kernel
theorem dX12_wetAll_46 : decode cX12_wetAll 46 = .ok (.iload_n 1, 1) := by decide +kernel
theorem dX12_wetAll_47 : decode cX12_wetAll 47 = .ok (.ireturn, 1) := by decide +kernel
set_option maxRecDepth 100000 in
set_option maxHeartbeats 4000000 in
theorem c_X12_wetAll {l : Launch} {D : q_D} (τ : q_T) (σ : q_V) (a0 : Nat) (hI : q_I τ σ) (tA0 : τ a0 = some (10, 1)) : q_Cp l D yX12_wetAll cX12_wetAll 3 (some .int) 2 43 τ σ [.ref a0] (fun r => (q_r r (-2147483648) 2147483647) ∧ (r.toInt = f_X12_wetAll (fx_N σ) a0)) := by
  refine q_meti rfl (Nat.le_of_ble_eq_true rfl) (fun X hG hE => ?_)
  show q_O X 0 0 τ σ 0 [(0, .ref a0)] []
  obtain ⟨Fv, hF⟩ : ∃ z, fx_eq z (f_X12_wetAll (fx_N σ) a0) := ⟨_, fx_rf⟩
  have hF0 := hF
  unfold f_X12_wetAll at hF
  refine q_iconst (pc := 0) hG dX12_wetAll_0 ki_0 ?_
  refine q_istore_n (pc := 1) [(1, .int 0), (0, .ref a0)] hG dX12_wetAll_1 (by decide) rfl ?_
  refine q_iconst (pc := 2) hG dX12_wetAll_2 ki_0 ?_
  refine q_istore_n (pc := 3) [(2, .int 0), (1, .int 0), (0, .ref a0)] hG dX12_wetAll_3 (by decide) rfl ?_
  have J4 : ∀ (n4 : Nat) (p4_1 : Int32) (p4_2 : Int32), (q_r p4_2 0 64) → (fx_eq Fv (kL_X12_wetAll_4 (fx_N σ) a0 n4 p4_1.toInt p4_2.toInt)) → ((64 - p4_2.toInt).toNat < n4) → q_O X 0 0 τ σ 4 [(0, .ref a0), (1, .int p4_1), (2, .int p4_2)] [] := by
    intro n4
    induction n4 with
    | zero => intro p4_1 p4_2 r4_2 hF hm4; exact absurd hm4 (Nat.not_lt_zero _)
    | succ n4 ih4 =>
      intro p4_1 p4_2 r4_2 hF hm4
      replace hF := (show fx_eq Fv (kB_X12_wetAll_4 (kL_X12_wetAll_4 (fx_N σ) a0 n4) (fx_N σ) a0 p4_1.toInt p4_2.toInt) from hF)
      unfold kB_X12_wetAll_4 at hF
      refine q_iload_n (pc := 4) hG dX12_wetAll_4 2 rfl ?_
      refine q_aload_n (pc := 5) hG dX12_wetAll_5 0 rfl ?_
      refine q_getR (pc := 6) (k2 := 100) (n2 := 549) hG fl_X12_7 dX12_wetAll_6 hI tA0 ff_10_0 (fun b6 f6 T6 => ?_)
      replace hF := fx_R hF f6 rfl
      refine q_sipush (pc := 9) hG dX12_wetAll_9 ks_512 ?_
      refine q_naldc (pc := 12) (a1 := 8) (a2 := 64) hG dX12_wetAll_12 hI T6 (q_ix rl_512 (by decide)) rfl (fun v12 f12 g12 => ?_)
      replace hF := fx_I hF f12 (congrArg Int.toNat tl_512)
      refine q_icmp_ge (pc := 13) hG 46 dX12_wetAll_13 rfl ?_ ?_
      · intro c13
        replace hF := fx_lt2 hF rfl rfl c13
        refine q_iload_n (pc := 46) hG dX12_wetAll_46 1 rfl ?_
        exact q_irt hG hE dX12_wetAll_47 ⟨rfl, (q_r_any p4_1), (fx_end hF hF0)⟩
      intro c13
      replace hF := fx_lt1 hF rfl rfl c13
      refine q_iload_n (pc := 16) hG dX12_wetAll_16 1 rfl ?_
      refine q_aload_n (pc := 17) hG dX12_wetAll_17 0 rfl ?_
      refine q_iload_n (pc := 18) hG dX12_wetAll_18 2 rfl ?_
      refine q_aload_n (pc := 19) hG dX12_wetAll_19 0 rfl ?_
      refine q_getV (pc := 20) (v := .ref b6) hG fl_X12_7 dX12_wetAll_20 tA0 f6 ?_
      refine q_sipush (pc := 23) hG dX12_wetAll_23 ks_513 ?_
      refine q_nald (pc := 26) hG dX12_wetAll_26 hI T6 (q_ix rl_513 (by decide)) (fun v26 f26 => ?_)
      replace hF := fx_I hF f26 (congrArg Int.toNat tl_513)
      have r_1 := q_rlt r4_2 g12 c13 63 (by decide)
      refine q_pV (pc := 27) [.int p4_2, .int v26] [.int p4_1] hG (c_X12_isWet τ σ a0 p4_2 v26 hI tA0 r_1) my_X12_isWet mv_X12_isWet w975 dX12_wetAll_27 tA0 (by decide) rfl rfl (Nat.le_of_ble_eq_true rfl) (by decide) (fun v27 p27 => ?_)
      replace hF := fx_E hF p27.2
      have J38 : ∀ (p38_s0 : Int32), (q_r p38_s0 0 1) → (fx_eq Fv (kJ_X12_wetAll_38 p4_1.toInt p4_2.toInt (kL_X12_wetAll_4 (fx_N σ) a0 n4) p38_s0.toInt)) → q_O X 0 0 τ σ 38 [(0, .ref a0), (2, .int p4_2)] [.int p38_s0, .int p4_1] := by
        intro p38_s0 r38_s0 hF
        unfold kJ_X12_wetAll_38 at hF
        refine q_iadd (pc := 38) hG dX12_wetAll_38 (fun v38 e38 => ?_)
        replace hF := fx_B_add hF rfl rfl e38
        refine q_istore_n (pc := 39) [(1, .int v38), (0, .ref a0), (2, .int p4_2)] hG dX12_wetAll_39 (by decide) rfl ?_
        obtain ⟨v40, e40⟩ : ∃ z : Int32, z = p4_2 + Int32.ofInt 1 := ⟨_, rfl⟩
        have h40 := q_incN (lo := 1) (hi := 64) r_1 (by decide) (by decide) e40
        replace hF := fx_add hF rfl rfl h40.1
        refine q_iinc (pc := 40) [(2, .int v40), (1, .int v38), (0, .ref a0)] hG dX12_wetAll_40 2 rfl e40 (by decide) rfl ?_
        refine q_goto (pc := 43) 4 hG dX12_wetAll_43 rfl ?_
        refine q_lv [2, 1, 0] rfl ?_
        exact ih4 v38 v40 (q_r.mono h40.2 (by decide)) hF (q_measU hm4 (by have o0 := c13; have o1 := h40.1; have o2 := r_1; have o3 := g12; have o4 := h40.2; unfold q_r at o2 o3 o4; omega) (h40.2).2)
      refine q_if_eq (pc := 30) hG 37 dX12_wetAll_30 rfl ?_ ?_
      · intro c30
        replace hF := fx_eq1 hF rfl rfl c30
        refine q_iconst (pc := 37) hG dX12_wetAll_37 ki_0 ?_
        refine q_lv [0, 2] rfl ?_
        exact J38 0 (q_r.mono rl_0 (by decide)) (by rw [tl_0]; exact hF)
      intro c30
      replace hF := fx_eq2 hF rfl rfl c30
      refine q_iconst (pc := 33) hG dX12_wetAll_33 ki_1 ?_
      refine q_goto (pc := 34) 38 hG dX12_wetAll_34 rfl ?_
      refine q_lv [0, 2] rfl ?_
      exact J38 1 (q_r.mono rl_1 (by decide)) (by rw [tl_1]; exact hF)
  refine q_lv [2, 1, 0] rfl ?_
  exact J4 ((64 - (0 : Int32).toInt).toNat + 1) 0 0 (q_r.mono rl_0 (by decide)) (by rw [tl_0]; exact hF) (Nat.lt_succ_self _)
theorem dX12_offAll_0 : decode cX12_offAll 0 = .ok (.iconst 0, 1) := by decide +kernel
theorem dX12_offAll_1 : decode cX12_offAll 1 = .ok (.istore_n 1, 1) := by decide +kernel
theorem dX12_offAll_2 : decode cX12_offAll 2 = .ok (.iconst 0, 1) := by decide +kernel
theorem dX12_offAll_3 : decode cX12_offAll 3 = .ok (.istore_n 2, 1) := by decide +kernel
theorem dX12_offAll_4 : decode cX12_offAll 4 = .ok (.iload_n 2, 1) := by decide +kernel
theorem dX12_offAll_5 : decode cX12_offAll 5 = .ok (.aload_n 0, 1) := by decide +kernel
theorem dX12_offAll_6 : decode cX12_offAll 6 = .ok (.getfield 7, 3) := by decide +kernel
theorem dX12_offAll_9 : decode cX12_offAll 9 = .ok (.sipush 512, 3) := by decide +kernel
theorem dX12_offAll_12 : decode cX12_offAll 12 = .ok (.iaload, 1) := by decide +kernel
theorem dX12_offAll_13 : decode cX12_offAll 13 = .ok (.if_icmp .ge 46, 3) := by decide +kernel
theorem dX12_offAll_16 : decode cX12_offAll 16 = .ok (.iload_n 1, 1) := by decide +kernel
theorem dX12_offAll_17 : decode cX12_offAll 17 = .ok (.aload_n 0, 1) := by decide +kernel
theorem dX12_offAll_18 : decode cX12_offAll 18 = .ok (.iload_n 2, 1) := by decide +kernel
theorem dX12_offAll_19 : decode cX12_offAll 19 = .ok (.invokevirtual 116, 3) := by decide +kernel
theorem dX12_offAll_22 : decode cX12_offAll 22 = .ok (.ifCond .eq 28, 3) := by decide +kernel
theorem dX12_offAll_25 : decode cX12_offAll 25 = .ok (.aload_n 0, 1) := by decide +kernel
theorem dX12_offAll_26 : decode cX12_offAll 26 = .ok (.getfield 7, 3) := by decide +kernel
theorem dX12_offAll_29 : decode cX12_offAll 29 = .ok (.sipush 256, 3) := by decide +kernel
theorem dX12_offAll_32 : decode cX12_offAll 32 = .ok (.iload_n 2, 1) := by decide +kernel
theorem dX12_offAll_33 : decode cX12_offAll 33 = .ok (.iadd, 1) := by decide +kernel
theorem dX12_offAll_34 : decode cX12_offAll 34 = .ok (.iaload, 1) := by decide +kernel
theorem dX12_offAll_35 : decode cX12_offAll 35 = .ok (.aload_n 0, 1) := by decide +kernel
theorem dX12_offAll_36 : decode cX12_offAll 36 = .ok (.getfield 7, 3) := by decide +kernel
theorem dX12_offAll_39 : decode cX12_offAll 39 = .ok (.iconst 0, 1) := by decide +kernel
theorem dX12_offAll_40 : decode cX12_offAll 40 = .ok (.iload_n 2, 1) := by decide +kernel
theorem dX12_offAll_41 : decode cX12_offAll 41 = .ok (.iadd, 1) := by decide +kernel
theorem dX12_offAll_42 : decode cX12_offAll 42 = .ok (.iaload, 1) := by decide +kernel
theorem dX12_offAll_43 : decode cX12_offAll 43 = .ok (.isub, 1) := by decide +kernel
theorem dX12_offAll_44 : decode cX12_offAll 44 = .ok (.invokestatic 218, 3) := by decide +kernel
theorem dX12_offAll_47 : decode cX12_offAll 47 = .ok (.goto 4, 3) := by decide +kernel
theorem dX12_offAll_50 : decode cX12_offAll 50 = .ok (.iconst 0, 1) := by decide +kernel
theorem dX12_offAll_51 : decode cX12_offAll 51 = .ok (.iadd, 1) := by decide +kernel
theorem dX12_offAll_52 : decode cX12_offAll 52 = .ok (.istore_n 1, 1) := by decide +kernel
theorem dX12_offAll_53 : decode cX12_offAll 53 = .ok (.iinc 2 1, 3) := by decide +kernel
theorem dX12_offAll_56 : decode cX12_offAll 56 = .ok (.goto (-52), 3) := by decide +kernel
theorem dX12_offAll_59 : decode cX12_offAll 59 = .ok (.iload_n 1, 1) := by decide +kernel
theorem dX12_offAll_60 : decode cX12_offAll 60 = .ok (.ireturn, 1) := by decide +kernel
set_option maxRecDepth 100000 in
set_option maxHeartbeats 4000000 in
theorem c_X12_offAll {l : Launch} {D : q_D} (τ : q_T) (σ : q_V) (a0 : Nat) (hI : q_I τ σ) (tA0 : τ a0 = some (10, 1)) : q_Cp l D yX12_offAll cX12_offAll 3 (some .int) 1 21 τ σ [.ref a0] (fun r => (q_r r (-2147483648) 2147483647) ∧ (r.toInt = f_X12_offAll (fx_N σ) a0)) := by
  refine q_meti rfl (Nat.le_of_ble_eq_true rfl) (fun X hG hE => ?_)
  show q_O X 0 0 τ σ 0 [(0, .ref a0)] []
  obtain ⟨Fv, hF⟩ : ∃ z, fx_eq z (f_X12_offAll (fx_N σ) a0) := ⟨_, fx_rf⟩
  have hF0 := hF
  unfold f_X12_offAll at hF
  refine q_iconst (pc := 0) hG dX12_offAll_0 ki_0 ?_
  refine q_istore_n (pc := 1) [(1, .int 0), (0, .ref a0)] hG dX12_offAll_1 (by decide) rfl ?_
  refine q_iconst (pc := 2) hG dX12_offAll_2 ki_0 ?_
  refine q_istore_n (pc := 3) [(2, .int 0), (1, .int 0), (0, .ref a0)] hG dX12_offAll_3 (by decide) rfl ?_
  have J4 : ∀ (n4 : Nat) (p4_1 : Int32) (p4_2 : Int32), (q_r p4_2 0 64) → (fx_eq Fv (kL_X12_offAll_4 (fx_N σ) a0 n4 p4_1.toInt p4_2.toInt)) → ((64 - p4_2.toInt).toNat < n4) → q_O X 0 0 τ σ 4 [(0, .ref a0), (1, .int p4_1), (2, .int p4_2)] [] := by
    intro n4
    induction n4 with
    | zero => intro p4_1 p4_2 r4_2 hF hm4; exact absurd hm4 (Nat.not_lt_zero _)
    | succ n4 ih4 =>
      intro p4_1 p4_2 r4_2 hF hm4
      replace hF := (show fx_eq Fv (kB_X12_offAll_4 (kL_X12_offAll_4 (fx_N σ) a0 n4) (fx_N σ) a0 p4_1.toInt p4_2.toInt) from hF)
      unfold kB_X12_offAll_4 at hF
      refine q_iload_n (pc := 4) hG dX12_offAll_4 2 rfl ?_
      refine q_aload_n (pc := 5) hG dX12_offAll_5 0 rfl ?_
      refine q_getR (pc := 6) (k2 := 100) (n2 := 549) hG fl_X12_7 dX12_offAll_6 hI tA0 ff_10_0 (fun b6 f6 T6 => ?_)
      replace hF := fx_R hF f6 rfl
      refine q_sipush (pc := 9) hG dX12_offAll_9 ks_512 ?_
      refine q_naldc (pc := 12) (a1 := 8) (a2 := 64) hG dX12_offAll_12 hI T6 (q_ix rl_512 (by decide)) rfl (fun v12 f12 g12 => ?_)
      replace hF := fx_I hF f12 (congrArg Int.toNat tl_512)
      refine q_icmp_ge (pc := 13) hG 59 dX12_offAll_13 rfl ?_ ?_
      · intro c13
        replace hF := fx_lt2 hF rfl rfl c13
        refine q_iload_n (pc := 59) hG dX12_offAll_59 1 rfl ?_
        exact q_irt hG hE dX12_offAll_60 ⟨rfl, (q_r_any p4_1), (fx_end hF hF0)⟩
      intro c13
      replace hF := fx_lt1 hF rfl rfl c13
      refine q_iload_n (pc := 16) hG dX12_offAll_16 1 rfl ?_
      refine q_aload_n (pc := 17) hG dX12_offAll_17 0 rfl ?_
      refine q_iload_n (pc := 18) hG dX12_offAll_18 2 rfl ?_
      have r_1 := q_rlt r4_2 g12 c13 63 (by decide)
      refine q_pV (pc := 19) [.int p4_2] [.int p4_1] hG (c_X12_isPainted τ σ a0 p4_2 hI tA0 r_1) my_X12_isPainted mv_X12_isPainted w862 dX12_offAll_19 tA0 (by decide) rfl rfl (Nat.le_of_ble_eq_true rfl) (by decide) (fun v19 p19 => ?_)
      replace hF := fx_E hF p19.2
      have J51 : ∀ (p51_s0 : Int32), (fx_eq Fv (kJ_X12_offAll_51 p4_1.toInt p4_2.toInt (kL_X12_offAll_4 (fx_N σ) a0 n4) p51_s0.toInt)) → q_O X 0 0 τ σ 51 [(0, .ref a0), (2, .int p4_2)] [.int p51_s0, .int p4_1] := by
        intro p51_s0 hF
        unfold kJ_X12_offAll_51 at hF
        refine q_iadd (pc := 51) hG dX12_offAll_51 (fun v51 e51 => ?_)
        replace hF := fx_B_add hF rfl rfl e51
        refine q_istore_n (pc := 52) [(1, .int v51), (0, .ref a0), (2, .int p4_2)] hG dX12_offAll_52 (by decide) rfl ?_
        obtain ⟨v53, e53⟩ : ∃ z : Int32, z = p4_2 + Int32.ofInt 1 := ⟨_, rfl⟩
        have h53 := q_incN (lo := 1) (hi := 64) r_1 (by decide) (by decide) e53
        replace hF := fx_add hF rfl rfl h53.1
        refine q_iinc (pc := 53) [(2, .int v53), (1, .int v51), (0, .ref a0)] hG dX12_offAll_53 2 rfl e53 (by decide) rfl ?_
        refine q_goto (pc := 56) 4 hG dX12_offAll_56 rfl ?_
        refine q_lv [2, 1, 0] rfl ?_
        exact ih4 v51 v53 (q_r.mono h53.2 (by decide)) hF (q_measU hm4 (by have o0 := c13; have o1 := h53.1; have o2 := r_1; have o3 := g12; have o4 := h53.2; unfold q_r at o2 o3 o4; omega) (h53.2).2)
      refine q_if_eq (pc := 22) hG 50 dX12_offAll_22 rfl ?_ ?_
      · intro c22
        replace hF := fx_eq1 hF rfl rfl c22
        refine q_iconst (pc := 50) hG dX12_offAll_50 ki_0 ?_
        refine q_lv [0, 2] rfl ?_
        exact J51 0 (by rw [tl_0]; exact hF)
      intro c22
      replace hF := fx_eq2 hF rfl rfl c22
      refine q_aload_n (pc := 25) hG dX12_offAll_25 0 rfl ?_
      refine q_getV (pc := 26) (v := .ref b6) hG fl_X12_7 dX12_offAll_26 tA0 f6 ?_
      refine q_sipush (pc := 29) hG dX12_offAll_29 ks_256 ?_
      refine q_iload_n (pc := 32) hG dX12_offAll_32 2 rfl ?_
      refine q_iadd (pc := 33) hG dX12_offAll_33 (fun v33 e33 => ?_)
      replace hF := fx_add hF tl_256 rfl (q_addN (lo := 256) (hi := 319) e33 rl_256 r_1 (by decide)).1
      have r_2 := (q_addN (lo := 256) (hi := 319) e33 rl_256 r_1 (by decide)).2
      refine q_nald (pc := 34) hG dX12_offAll_34 hI T6 (q_ix r_2 (by decide)) (fun v34 f34 => ?_)
      replace hF := fx_I hF f34 rfl
      refine q_aload_n (pc := 35) hG dX12_offAll_35 0 rfl ?_
      refine q_getV (pc := 36) (v := .ref b6) hG fl_X12_7 dX12_offAll_36 tA0 f6 ?_
      refine q_iconst (pc := 39) hG dX12_offAll_39 ki_0 ?_
      refine q_iload_n (pc := 40) hG dX12_offAll_40 2 rfl ?_
      refine q_iadd (pc := 41) hG dX12_offAll_41 (fun v41 e41 => ?_)
      replace hF := fx_add hF tl_0 rfl (q_addN (lo := 0) (hi := 63) e41 rl_0 r_1 (by decide)).1
      have r_3 := (q_addN (lo := 0) (hi := 63) e41 rl_0 r_1 (by decide)).2
      refine q_naldc (pc := 42) (a1 := -99) (a2 := 99) hG dX12_offAll_42 hI T6 (q_ix r_3 (by decide)) (q_nkerb r_3 (by decide)) (fun v42 f42 g42 => ?_)
      replace hF := fx_I hF f42 rfl
      refine q_isub (pc := 43) hG dX12_offAll_43 (fun v43 e43 => ?_)
      replace hF := fx_B_sub hF rfl rfl e43
      refine q_pS (pc := 44) [.int v43] [.int p4_1] hG (c_X12_size τ σ v43 hI) my_X12_size w895 w894 dX12_offAll_44 rfl rfl (Nat.le_of_ble_eq_true rfl) (by decide) (fun v44 p44 => ?_)
      replace hF := fx_E hF p44.2.1
      refine q_goto (pc := 47) 51 hG dX12_offAll_47 rfl ?_
      refine q_lv [0, 2] rfl ?_
      exact J51 v44 hF
  refine q_lv [2, 1, 0] rfl ?_
  exact J4 ((64 - (0 : Int32).toInt).toNat + 1) 0 0 (q_r.mono rl_0 (by decide)) (by rw [tl_0]; exact hF) (Nat.lt_succ_self _)
theorem dX12_paintedBy_0 : decode cX12_paintedBy 0 = .ok (.aload_n 0, 1) := by decide +kernel
theorem dX12_paintedBy_1 : decode cX12_paintedBy 1 = .ok (.getfield 7, 3) := by decide +kernel
theorem dX12_paintedBy_4 : decode cX12_paintedBy 4 = .ok (.sipush 520, 3) := by decide +kernel
theorem dX12_paintedBy_7 : decode cX12_paintedBy 7 = .ok (.iaload, 1) := by decide +kernel
theorem dX12_paintedBy_8 : decode cX12_paintedBy 8 = .ok (.iload_n 1, 1) := by decide +kernel
theorem dX12_paintedBy_9 : decode cX12_paintedBy 9 = .ok (.if_icmp .ne 7, 3) := by decide +kernel
theorem dX12_paintedBy_12 : decode cX12_paintedBy 12 = .ok (.iconst 0, 1) := by decide +kernel
theorem dX12_paintedBy_13 : decode cX12_paintedBy 13 = .ok (.goto 21, 3) := by decide +kernel
theorem dX12_paintedBy_16 : decode cX12_paintedBy 16 = .ok (.aload_n 0, 1) := by decide +kernel
theorem dX12_paintedBy_17 : decode cX12_paintedBy 17 = .ok (.getfield 7, 3) := by decide +kernel
theorem dX12_paintedBy_20 : decode cX12_paintedBy 20 = .ok (.sipush 521, 3) := by decide +kernel
theorem dX12_paintedBy_23 : decode cX12_paintedBy 23 = .ok (.iaload, 1) := by decide +kernel
theorem dX12_paintedBy_24 : decode cX12_paintedBy 24 = .ok (.iload_n 1, 1) := by decide +kernel
theorem dX12_paintedBy_25 : decode cX12_paintedBy 25 = .ok (.if_icmp .ne 7, 3) := by decide +kernel
theorem dX12_paintedBy_28 : decode cX12_paintedBy 28 = .ok (.iconst 1, 1) := by decide +kernel
theorem dX12_paintedBy_29 : decode cX12_paintedBy 29 = .ok (.goto 5, 3) := by decide +kernel
theorem dX12_paintedBy_32 : decode cX12_paintedBy 32 = .ok (.bipush (-2), 2) := by decide +kernel
theorem dX12_paintedBy_34 : decode cX12_paintedBy 34 = .ok (.ireturn, 1) := by decide +kernel
set_option maxRecDepth 100000 in
set_option maxHeartbeats 4000000 in
theorem c_X12_paintedBy {l : Launch} {D : q_D} (τ : q_T) (σ : q_V) (a0 : Nat) (x1 : Int32) (hI : q_I τ σ) (tA0 : τ a0 = some (10, 1)) : q_Cp l D yX12_paintedBy cX12_paintedBy 2 (some .int) 0 0 τ σ [.ref a0, .int x1] (fun r => q_r r (-2) 1) := by
  refine q_meti rfl (Nat.le_of_ble_eq_true rfl) (fun X hG hE => ?_)
  show q_O X 0 0 τ σ 0 [(0, .ref a0), (1, .int x1)] []
  refine q_aload_n (pc := 0) hG dX12_paintedBy_0 0 rfl ?_
  refine q_getR (pc := 1) (k2 := 100) (n2 := 549) hG fl_X12_7 dX12_paintedBy_1 hI tA0 ff_10_0 (fun b1 f1 T1 => ?_)
  refine q_sipush (pc := 4) hG dX12_paintedBy_4 ks_520 ?_
  refine q_nald3 (pc := 7) (a1 := -2) (a2 := 63) hG dX12_paintedBy_7 hI T1 (q_ix rl_520 (by decide)) rfl (fun v7 f7 g7 n7 => ?_)
  refine q_iload_n (pc := 8) hG dX12_paintedBy_8 1 rfl ?_
  refine q_icmp_ne (pc := 9) hG 16 dX12_paintedBy_9 rfl ?_ ?_
  · intro c9
    refine q_aload_n (pc := 16) hG dX12_paintedBy_16 0 rfl ?_
    refine q_getV (pc := 17) (v := .ref b1) hG fl_X12_7 dX12_paintedBy_17 tA0 f1 ?_
    refine q_sipush (pc := 20) hG dX12_paintedBy_20 ks_521 ?_
    refine q_nald3 (pc := 23) (a1 := -2) (a2 := 63) hG dX12_paintedBy_23 hI T1 (q_ix rl_521 (by decide)) rfl (fun v23 f23 g23 n23 => ?_)
    refine q_iload_n (pc := 24) hG dX12_paintedBy_24 1 rfl ?_
    refine q_icmp_ne (pc := 25) hG 32 dX12_paintedBy_25 rfl ?_ ?_
    · intro c25
      refine q_bipush (pc := 32) hG dX12_paintedBy_32 kb_m2 ?_
      exact q_irt hG hE dX12_paintedBy_34 ⟨rfl, (q_r.mono rl_m2 (by decide))⟩
    intro c25
    refine q_iconst (pc := 28) hG dX12_paintedBy_28 ki_1 ?_
    refine q_goto (pc := 29) 34 hG dX12_paintedBy_29 rfl ?_
    exact q_irt hG hE dX12_paintedBy_34 ⟨rfl, (q_r.mono rl_1 (by decide))⟩
  intro c9
  refine q_iconst (pc := 12) hG dX12_paintedBy_12 ki_0 ?_
  refine q_goto (pc := 13) 34 hG dX12_paintedBy_13 rfl ?_
  exact q_irt hG hE dX12_paintedBy_34 ⟨rfl, (q_r.mono rl_0 (by decide))⟩
theorem dX12_dot_0 : decode cX12_dot 0 = .ok (.aload_n 0, 1) := by decide +kernel
theorem dX12_dot_1 : decode cX12_dot 1 = .ok (.iload_n 1, 1) := by decide +kernel
theorem dX12_dot_2 : decode cX12_dot 2 = .ok (.invokevirtual 110, 3) := by decide +kernel
theorem dX12_dot_5 : decode cX12_dot 5 = .ok (.ifCond .ne 5, 3) := by decide +kernel
theorem dX12_dot_8 : decode cX12_dot 8 = .ok (.iconst (-1), 1) := by decide +kernel
theorem dX12_dot_9 : decode cX12_dot 9 = .ok (.ireturn, 1) := by decide +kernel
theorem dX12_dot_10 : decode cX12_dot 10 = .ok (.iload_n 2, 1) := by decide +kernel
theorem dX12_dot_11 : decode cX12_dot 11 = .ok (.tableswitch 190 0 8 #[49, 58, 68, 79, 113, 140, 151, 162, 184], 49) := by decide +kernel
theorem dX12_dot_60 : decode cX12_dot 60 = .ok (.aload_n 0, 1) := by decide +kernel
theorem dX12_dot_61 : decode cX12_dot 61 = .ok (.getfield 7, 3) := by decide +kernel
theorem dX12_dot_64 : decode cX12_dot 64 = .ok (.iconst 0, 1) := by decide +kernel
theorem dX12_dot_65 : decode cX12_dot 65 = .ok (.iload_n 1, 1) := by decide +kernel
theorem dX12_dot_66 : decode cX12_dot 66 = .ok (.iadd, 1) := by decide +kernel
theorem dX12_dot_67 : decode cX12_dot 67 = .ok (.iaload, 1) := by decide +kernel
theorem dX12_dot_68 : decode cX12_dot 68 = .ok (.ireturn, 1) := by decide +kernel
theorem dX12_dot_69 : decode cX12_dot 69 = .ok (.aload_n 0, 1) := by decide +kernel
theorem dX12_dot_70 : decode cX12_dot 70 = .ok (.getfield 7, 3) := by decide +kernel
theorem dX12_dot_73 : decode cX12_dot 73 = .ok (.bipush 64, 2) := by decide +kernel
theorem dX12_dot_75 : decode cX12_dot 75 = .ok (.iload_n 1, 1) := by decide +kernel
theorem dX12_dot_76 : decode cX12_dot 76 = .ok (.iadd, 1) := by decide +kernel
theorem dX12_dot_77 : decode cX12_dot 77 = .ok (.iaload, 1) := by decide +kernel
theorem dX12_dot_78 : decode cX12_dot 78 = .ok (.ireturn, 1) := by decide +kernel
theorem dX12_dot_79 : decode cX12_dot 79 = .ok (.aload_n 0, 1) := by decide +kernel
theorem dX12_dot_80 : decode cX12_dot 80 = .ok (.getfield 7, 3) := by decide +kernel
theorem dX12_dot_83 : decode cX12_dot 83 = .ok (.sipush 128, 3) := by decide +kernel
theorem dX12_dot_86 : decode cX12_dot 86 = .ok (.iload_n 1, 1) := by decide +kernel
theorem dX12_dot_87 : decode cX12_dot 87 = .ok (.iadd, 1) := by decide +kernel
theorem dX12_dot_88 : decode cX12_dot 88 = .ok (.iaload, 1) := by decide +kernel
theorem dX12_dot_89 : decode cX12_dot 89 = .ok (.ireturn, 1) := by decide +kernel
theorem dX12_dot_90 : decode cX12_dot 90 = .ok (.aload_n 0, 1) := by decide +kernel
theorem dX12_dot_91 : decode cX12_dot 91 = .ok (.getfield 7, 3) := by decide +kernel
theorem dX12_dot_94 : decode cX12_dot 94 = .ok (.sipush 192, 3) := by decide +kernel
theorem dX12_dot_97 : decode cX12_dot 97 = .ok (.iload_n 1, 1) := by decide +kernel
theorem dX12_dot_98 : decode cX12_dot 98 = .ok (.iadd, 1) := by decide +kernel
theorem dX12_dot_99 : decode cX12_dot 99 = .ok (.iaload, 1) := by decide +kernel
theorem dX12_dot_100 : decode cX12_dot 100 = .ok (.bipush (-100), 2) := by decide +kernel
theorem dX12_dot_102 : decode cX12_dot 102 = .ok (.if_icmp .ne 8, 3) := by decide +kernel
theorem dX12_dot_105 : decode cX12_dot 105 = .ok (.bipush (-2), 2) := by decide +kernel
theorem dX12_dot_107 : decode cX12_dot 107 = .ok (.goto 16, 3) := by decide +kernel
theorem dX12_dot_110 : decode cX12_dot 110 = .ok (.aload_n 0, 1) := by decide +kernel
theorem dX12_dot_111 : decode cX12_dot 111 = .ok (.getfield 7, 3) := by decide +kernel
theorem dX12_dot_114 : decode cX12_dot 114 = .ok (.sipush 192, 3) := by decide +kernel
theorem dX12_dot_117 : decode cX12_dot 117 = .ok (.iload_n 1, 1) := by decide +kernel
theorem dX12_dot_118 : decode cX12_dot 118 = .ok (.iadd, 1) := by decide +kernel
theorem dX12_dot_119 : decode cX12_dot 119 = .ok (.iaload, 1) := by decide +kernel
theorem dX12_dot_120 : decode cX12_dot 120 = .ok (.bipush 100, 2) := by decide +kernel
theorem dX12_dot_122 : decode cX12_dot 122 = .ok (.iadd, 1) := by decide +kernel
theorem dX12_dot_123 : decode cX12_dot 123 = .ok (.ireturn, 1) := by decide +kernel
theorem dX12_dot_124 : decode cX12_dot 124 = .ok (.aload_n 0, 1) := by decide +kernel
theorem dX12_dot_125 : decode cX12_dot 125 = .ok (.iload_n 1, 1) := by decide +kernel
theorem dX12_dot_126 : decode cX12_dot 126 = .ok (.invokevirtual 116, 3) := by decide +kernel
theorem dX12_dot_129 : decode cX12_dot 129 = .ok (.ifCond .eq 19, 3) := by decide +kernel
theorem dX12_dot_132 : decode cX12_dot 132 = .ok (.aload_n 0, 1) := by decide +kernel
theorem dX12_dot_133 : decode cX12_dot 133 = .ok (.getfield 7, 3) := by decide +kernel
theorem dX12_dot_136 : decode cX12_dot 136 = .ok (.sipush 256, 3) := by decide +kernel
theorem dX12_dot_139 : decode cX12_dot 139 = .ok (.iload_n 1, 1) := by decide +kernel
theorem dX12_dot_140 : decode cX12_dot 140 = .ok (.iadd, 1) := by decide +kernel
theorem dX12_dot_141 : decode cX12_dot 141 = .ok (.iaload, 1) := by decide +kernel
theorem dX12_dot_142 : decode cX12_dot 142 = .ok (.bipush 100, 2) := by decide +kernel
theorem dX12_dot_144 : decode cX12_dot 144 = .ok (.iadd, 1) := by decide +kernel
theorem dX12_dot_145 : decode cX12_dot 145 = .ok (.goto 5, 3) := by decide +kernel
theorem dX12_dot_148 : decode cX12_dot 148 = .ok (.bipush (-2), 2) := by decide +kernel
theorem dX12_dot_150 : decode cX12_dot 150 = .ok (.ireturn, 1) := by decide +kernel
theorem dX12_dot_151 : decode cX12_dot 151 = .ok (.aload_n 0, 1) := by decide +kernel
theorem dX12_dot_152 : decode cX12_dot 152 = .ok (.getfield 7, 3) := by decide +kernel
theorem dX12_dot_155 : decode cX12_dot 155 = .ok (.sipush 320, 3) := by decide +kernel
theorem dX12_dot_158 : decode cX12_dot 158 = .ok (.iload_n 1, 1) := by decide +kernel
theorem dX12_dot_159 : decode cX12_dot 159 = .ok (.iadd, 1) := by decide +kernel
theorem dX12_dot_160 : decode cX12_dot 160 = .ok (.iaload, 1) := by decide +kernel
theorem dX12_dot_161 : decode cX12_dot 161 = .ok (.ireturn, 1) := by decide +kernel
theorem dX12_dot_162 : decode cX12_dot 162 = .ok (.aload_n 0, 1) := by decide +kernel
theorem dX12_dot_163 : decode cX12_dot 163 = .ok (.getfield 7, 3) := by decide +kernel
theorem dX12_dot_166 : decode cX12_dot 166 = .ok (.sipush 448, 3) := by decide +kernel
theorem dX12_dot_169 : decode cX12_dot 169 = .ok (.iload_n 1, 1) := by decide +kernel
theorem dX12_dot_170 : decode cX12_dot 170 = .ok (.iadd, 1) := by decide +kernel
theorem dX12_dot_171 : decode cX12_dot 171 = .ok (.iaload, 1) := by decide +kernel
theorem dX12_dot_172 : decode cX12_dot 172 = .ok (.ireturn, 1) := by decide +kernel
theorem dX12_dot_173 : decode cX12_dot 173 = .ok (.aload_n 0, 1) := by decide +kernel
theorem dX12_dot_174 : decode cX12_dot 174 = .ok (.iload_n 1, 1) := by decide +kernel
theorem dX12_dot_175 : decode cX12_dot 175 = .ok (.aload_n 0, 1) := by decide +kernel
theorem dX12_dot_176 : decode cX12_dot 176 = .ok (.getfield 7, 3) := by decide +kernel
theorem dX12_dot_179 : decode cX12_dot 179 = .ok (.sipush 513, 3) := by decide +kernel
theorem dX12_dot_182 : decode cX12_dot 182 = .ok (.iaload, 1) := by decide +kernel
theorem dX12_dot_183 : decode cX12_dot 183 = .ok (.invokevirtual 254, 3) := by decide +kernel
theorem dX12_dot_186 : decode cX12_dot 186 = .ok (.ifCond .eq 7, 3) := by decide +kernel
theorem dX12_dot_189 : decode cX12_dot 189 = .ok (.iconst 1, 1) := by decide +kernel
theorem dX12_dot_190 : decode cX12_dot 190 = .ok (.goto 4, 3) := by decide +kernel
theorem dX12_dot_193 : decode cX12_dot 193 = .ok (.iconst 0, 1) := by decide +kernel
theorem dX12_dot_194 : decode cX12_dot 194 = .ok (.ireturn, 1) := by decide +kernel
theorem dX12_dot_195 : decode cX12_dot 195 = .ok (.aload_n 0, 1) := by decide +kernel
theorem dX12_dot_196 : decode cX12_dot 196 = .ok (.iload_n 1, 1) := by decide +kernel
theorem dX12_dot_197 : decode cX12_dot 197 = .ok (.invokevirtual 315, 3) := by decide +kernel
theorem dX12_dot_200 : decode cX12_dot 200 = .ok (.ireturn, 1) := by decide +kernel
theorem dX12_dot_201 : decode cX12_dot 201 = .ok (.iconst (-1), 1) := by decide +kernel
theorem dX12_dot_202 : decode cX12_dot 202 = .ok (.ireturn, 1) := by decide +kernel
set_option maxRecDepth 100000 in
set_option maxHeartbeats 4000000 in
theorem c_X12_dot {l : Launch} {D : q_D} (τ : q_T) (σ : q_V) (a0 : Nat) (x1 : Int32) (x2 : Int32) (hI : q_I τ σ) (tA0 : τ a0 = some (10, 1)) : q_Cp l D yX12_dot cX12_dot 3 (some .int) 2 43 τ σ [.ref a0, .int x1, .int x2] (fun r => q_r r (-2147483648) 2147483647) := by
  refine q_meti rfl (Nat.le_of_ble_eq_true rfl) (fun X hG hE => ?_)
  show q_O X 0 0 τ σ 0 [(0, .ref a0), (1, .int x1), (2, .int x2)] []
  refine q_aload_n (pc := 0) hG dX12_dot_0 0 rfl ?_
  refine q_iload_n (pc := 1) hG dX12_dot_1 1 rfl ?_
  refine q_pV (pc := 2) [.int x1] [] hG (c_X12_isDot τ σ a0 x1 hI tA0) my_X12_isDot mv_X12_isDot w836 dX12_dot_2 tA0 (by decide) rfl rfl (Nat.le_of_ble_eq_true rfl) (by decide) (fun v2 p2 => ?_)
  obtain ⟨q_1b, q_1f, q_1T⟩ := (hI a0 10 1 tA0 0 (by decide)).ref (k := 100) (n := 549) rfl
  obtain ⟨q_2v, q_2f, q_2r⟩ := (hI q_1b 100 549 q_1T 512 (by decide)).int (lo := 8) (hi := 64) rfl
  have q_2g : σ q_1b (512 : Int32).toInt.toNat = .int q_2v := q_2f
  refine q_if_ne (pc := 5) hG 10 dX12_dot_5 rfl ?_ ?_
  · intro c5
    have g_3 := p2.2.2.1 (q_one p2.1 c5)
    have r_4 := q_rge (q_r_any x1) rl_0 (show (0 : Int32).toInt ≤ _ from g_3.1)
    have r_5 := q_rle r_4 rl_63 (show _ ≤ (63 : Int32).toInt from g_3.2.1)
    refine q_iload_n (pc := 10) hG dX12_dot_10 2 rfl ?_
    by_cases z11_0 : x2.toInt = 0
    · skip
      refine q_tsIn (pc := 11) 0 60 hG dX12_dot_11 z11_0 (by decide) rfl rfl ?_
      refine q_aload_n (pc := 60) hG dX12_dot_60 0 rfl ?_
      refine q_getV (pc := 61) (v := .ref q_1b) hG fl_X12_7 dX12_dot_61 tA0 q_1f ?_
      refine q_iconst (pc := 64) hG dX12_dot_64 ki_0 ?_
      refine q_iload_n (pc := 65) hG dX12_dot_65 1 rfl ?_
      refine q_iadd (pc := 66) hG dX12_dot_66 (fun v66 e66 => ?_)
      have r_6 := (q_addN (lo := 0) (hi := 63) e66 rl_0 r_5 (by decide)).2
      refine q_naldc (pc := 67) (a1 := -99) (a2 := 99) hG dX12_dot_67 hI q_1T (q_ix r_6 (by decide)) (q_nkerb r_6 (by decide)) (fun v67 f67 g67 => ?_)
      exact q_irt hG hE dX12_dot_68 ⟨rfl, (q_r.mono g67 (by decide))⟩
    by_cases z11_1 : x2.toInt = 1
    · skip
      refine q_tsIn (pc := 11) 1 69 hG dX12_dot_11 z11_1 (by decide) rfl rfl ?_
      refine q_aload_n (pc := 69) hG dX12_dot_69 0 rfl ?_
      refine q_getV (pc := 70) (v := .ref q_1b) hG fl_X12_7 dX12_dot_70 tA0 q_1f ?_
      refine q_bipush (pc := 73) hG dX12_dot_73 kb_64 ?_
      refine q_iload_n (pc := 75) hG dX12_dot_75 1 rfl ?_
      refine q_iadd (pc := 76) hG dX12_dot_76 (fun v76 e76 => ?_)
      have r_7 := (q_addN (lo := 64) (hi := 127) e76 rl_64 r_5 (by decide)).2
      refine q_nald (pc := 77) hG dX12_dot_77 hI q_1T (q_ix r_7 (by decide)) (fun v77 f77 => ?_)
      exact q_irt hG hE dX12_dot_78 ⟨rfl, (q_r_any v77)⟩
    by_cases z11_2 : x2.toInt = 2
    · skip
      refine q_tsIn (pc := 11) 2 79 hG dX12_dot_11 z11_2 (by decide) rfl rfl ?_
      refine q_aload_n (pc := 79) hG dX12_dot_79 0 rfl ?_
      refine q_getV (pc := 80) (v := .ref q_1b) hG fl_X12_7 dX12_dot_80 tA0 q_1f ?_
      refine q_sipush (pc := 83) hG dX12_dot_83 ks_128 ?_
      refine q_iload_n (pc := 86) hG dX12_dot_86 1 rfl ?_
      refine q_iadd (pc := 87) hG dX12_dot_87 (fun v87 e87 => ?_)
      have r_8 := (q_addN (lo := 128) (hi := 191) e87 rl_128 r_5 (by decide)).2
      refine q_nald (pc := 88) hG dX12_dot_88 hI q_1T (q_ix r_8 (by decide)) (fun v88 f88 => ?_)
      exact q_irt hG hE dX12_dot_89 ⟨rfl, (q_r_any v88)⟩
    by_cases z11_3 : x2.toInt = 3
    · skip
      refine q_tsIn (pc := 11) 3 90 hG dX12_dot_11 z11_3 (by decide) rfl rfl ?_
      refine q_aload_n (pc := 90) hG dX12_dot_90 0 rfl ?_
      refine q_getV (pc := 91) (v := .ref q_1b) hG fl_X12_7 dX12_dot_91 tA0 q_1f ?_
      refine q_sipush (pc := 94) hG dX12_dot_94 ks_192 ?_
      refine q_iload_n (pc := 97) hG dX12_dot_97 1 rfl ?_
      refine q_iadd (pc := 98) hG dX12_dot_98 (fun v98 e98 => ?_)
      have r_9 := (q_addN (lo := 192) (hi := 255) e98 rl_192 r_5 (by decide)).2
      refine q_nald (pc := 99) hG dX12_dot_99 hI q_1T (q_ix r_9 (by decide)) (fun v99 f99 => ?_)
      refine q_bipush (pc := 100) hG dX12_dot_100 kb_m100 ?_
      refine q_icmp_ne (pc := 102) hG 110 dX12_dot_102 rfl ?_ ?_
      · intro c102
        refine q_aload_n (pc := 110) hG dX12_dot_110 0 rfl ?_
        refine q_getV (pc := 111) (v := .ref q_1b) hG fl_X12_7 dX12_dot_111 tA0 q_1f ?_
        refine q_sipush (pc := 114) hG dX12_dot_114 ks_192 ?_
        refine q_iload_n (pc := 117) hG dX12_dot_117 1 rfl ?_
        refine q_iadd (pc := 118) hG dX12_dot_118 (fun v118 e118 => ?_)
        rw [e118.trans e98.symm]
        refine q_ialdV (pc := 119) (v := .int v99) hG dX12_dot_119 q_1T (by decide) (by decide) (q_ix r_9 (by decide)) f99 ?_
        refine q_bipush (pc := 120) hG dX12_dot_120 kb_100 ?_
        refine q_iadd (pc := 122) hG dX12_dot_122 (fun v122 e122 => ?_)
        exact q_irt hG hE dX12_dot_123 ⟨rfl, (q_r_any v122)⟩
      intro c102
      refine q_bipush (pc := 105) hG dX12_dot_105 kb_m2 ?_
      refine q_goto (pc := 107) 123 hG dX12_dot_107 rfl ?_
      exact q_irt hG hE dX12_dot_123 ⟨rfl, (q_r.mono rl_m2 (by decide))⟩
    by_cases z11_4 : x2.toInt = 4
    · skip
      refine q_tsIn (pc := 11) 4 124 hG dX12_dot_11 z11_4 (by decide) rfl rfl ?_
      refine q_aload_n (pc := 124) hG dX12_dot_124 0 rfl ?_
      refine q_iload_n (pc := 125) hG dX12_dot_125 1 rfl ?_
      refine q_pV (pc := 126) [.int x1] [] hG (c_X12_isPainted τ σ a0 x1 hI tA0 r_5) my_X12_isPainted mv_X12_isPainted w862 dX12_dot_126 tA0 (by decide) rfl rfl (Nat.le_of_ble_eq_true rfl) (by decide) (fun v126 p126 => ?_)
      refine q_if_eq (pc := 129) hG 148 dX12_dot_129 rfl ?_ ?_
      · intro c129
        refine q_bipush (pc := 148) hG dX12_dot_148 kb_m2 ?_
        exact q_irt hG hE dX12_dot_150 ⟨rfl, (q_r.mono rl_m2 (by decide))⟩
      intro c129
      refine q_aload_n (pc := 132) hG dX12_dot_132 0 rfl ?_
      refine q_getV (pc := 133) (v := .ref q_1b) hG fl_X12_7 dX12_dot_133 tA0 q_1f ?_
      refine q_sipush (pc := 136) hG dX12_dot_136 ks_256 ?_
      refine q_iload_n (pc := 139) hG dX12_dot_139 1 rfl ?_
      refine q_iadd (pc := 140) hG dX12_dot_140 (fun v140 e140 => ?_)
      have r_10 := (q_addN (lo := 256) (hi := 319) e140 rl_256 r_5 (by decide)).2
      refine q_nald (pc := 141) hG dX12_dot_141 hI q_1T (q_ix r_10 (by decide)) (fun v141 f141 => ?_)
      refine q_bipush (pc := 142) hG dX12_dot_142 kb_100 ?_
      refine q_iadd (pc := 144) hG dX12_dot_144 (fun v144 e144 => ?_)
      refine q_goto (pc := 145) 150 hG dX12_dot_145 rfl ?_
      exact q_irt hG hE dX12_dot_150 ⟨rfl, (q_r_any v144)⟩
    by_cases z11_5 : x2.toInt = 5
    · skip
      refine q_tsIn (pc := 11) 5 151 hG dX12_dot_11 z11_5 (by decide) rfl rfl ?_
      refine q_aload_n (pc := 151) hG dX12_dot_151 0 rfl ?_
      refine q_getV (pc := 152) (v := .ref q_1b) hG fl_X12_7 dX12_dot_152 tA0 q_1f ?_
      refine q_sipush (pc := 155) hG dX12_dot_155 ks_320 ?_
      refine q_iload_n (pc := 158) hG dX12_dot_158 1 rfl ?_
      refine q_iadd (pc := 159) hG dX12_dot_159 (fun v159 e159 => ?_)
      have r_11 := (q_addN (lo := 320) (hi := 383) e159 rl_320 r_5 (by decide)).2
      refine q_nald (pc := 160) hG dX12_dot_160 hI q_1T (q_ix r_11 (by decide)) (fun v160 f160 => ?_)
      exact q_irt hG hE dX12_dot_161 ⟨rfl, (q_r_any v160)⟩
    by_cases z11_6 : x2.toInt = 6
    · skip
      refine q_tsIn (pc := 11) 6 162 hG dX12_dot_11 z11_6 (by decide) rfl rfl ?_
      refine q_aload_n (pc := 162) hG dX12_dot_162 0 rfl ?_
      refine q_getV (pc := 163) (v := .ref q_1b) hG fl_X12_7 dX12_dot_163 tA0 q_1f ?_
      refine q_sipush (pc := 166) hG dX12_dot_166 ks_448 ?_
      refine q_iload_n (pc := 169) hG dX12_dot_169 1 rfl ?_
      refine q_iadd (pc := 170) hG dX12_dot_170 (fun v170 e170 => ?_)
      have r_12 := (q_addN (lo := 448) (hi := 511) e170 rl_448 r_5 (by decide)).2
      refine q_nald (pc := 171) hG dX12_dot_171 hI q_1T (q_ix r_12 (by decide)) (fun v171 f171 => ?_)
      exact q_irt hG hE dX12_dot_172 ⟨rfl, (q_r_any v171)⟩
    by_cases z11_7 : x2.toInt = 7
    · skip
      refine q_tsIn (pc := 11) 7 173 hG dX12_dot_11 z11_7 (by decide) rfl rfl ?_
      refine q_aload_n (pc := 173) hG dX12_dot_173 0 rfl ?_
      refine q_iload_n (pc := 174) hG dX12_dot_174 1 rfl ?_
      refine q_aload_n (pc := 175) hG dX12_dot_175 0 rfl ?_
      refine q_getV (pc := 176) (v := .ref q_1b) hG fl_X12_7 dX12_dot_176 tA0 q_1f ?_
      refine q_sipush (pc := 179) hG dX12_dot_179 ks_513 ?_
      refine q_nald (pc := 182) hG dX12_dot_182 hI q_1T (q_ix rl_513 (by decide)) (fun v182 f182 => ?_)
      refine q_pV (pc := 183) [.int x1, .int v182] [] hG (c_X12_isWet τ σ a0 x1 v182 hI tA0 r_5) my_X12_isWet mv_X12_isWet w975 dX12_dot_183 tA0 (by decide) rfl rfl (Nat.le_of_ble_eq_true rfl) (by decide) (fun v183 p183 => ?_)
      refine q_if_eq (pc := 186) hG 193 dX12_dot_186 rfl ?_ ?_
      · intro c186
        refine q_iconst (pc := 193) hG dX12_dot_193 ki_0 ?_
        exact q_irt hG hE dX12_dot_194 ⟨rfl, (q_r.mono rl_0 (by decide))⟩
      intro c186
      refine q_iconst (pc := 189) hG dX12_dot_189 ki_1 ?_
      refine q_goto (pc := 190) 194 hG dX12_dot_190 rfl ?_
      exact q_irt hG hE dX12_dot_194 ⟨rfl, (q_r.mono rl_1 (by decide))⟩
    by_cases z11_8 : x2.toInt = 8
    · skip
      refine q_tsIn (pc := 11) 8 195 hG dX12_dot_11 z11_8 (by decide) rfl rfl ?_
      refine q_aload_n (pc := 195) hG dX12_dot_195 0 rfl ?_
      refine q_iload_n (pc := 196) hG dX12_dot_196 1 rfl ?_
      refine q_pV (pc := 197) [.int x1] [] hG (c_X12_paintedBy τ σ a0 x1 hI tA0) my_X12_paintedBy mv_X12_paintedBy w1037 dX12_dot_197 tA0 (by decide) rfl rfl (Nat.le_of_ble_eq_true rfl) (by decide) (fun v197 p197 => ?_)
      exact q_irt hG hE dX12_dot_200 ⟨rfl, (q_r.mono p197 (by decide))⟩
    refine q_tsOut (pc := 11) 201 hG dX12_dot_11 (by have q := (q_r_any x2); unfold q_r at q; omega) rfl ?_
    refine q_iconst (pc := 201) hG dX12_dot_201 ki_m1 ?_
    exact q_irt hG hE dX12_dot_202 ⟨rfl, (q_r.mono rl_m1 (by decide))⟩
  intro c5
  refine q_iconst (pc := 8) hG dX12_dot_8 ki_m1 ?_
  exact q_irt hG hE dX12_dot_9 ⟨rfl, (q_r.mono rl_m1 (by decide))⟩
theorem dX12_apart_0 : decode cX12_apart 0 = .ok (.iload_n 1, 1) := by decide +kernel
theorem dX12_apart_1 : decode cX12_apart 1 = .ok (.iconst 0, 1) := by decide +kernel
theorem dX12_apart_2 : decode cX12_apart 2 = .ok (.bipush 99, 2) := by decide +kernel
theorem dX12_apart_4 : decode cX12_apart 4 = .ok (.invokestatic 102, 3) := by decide +kernel
theorem dX12_apart_7 : decode cX12_apart 7 = .ok (.ifCond .eq 12, 3) := by decide +kernel
theorem dX12_apart_10 : decode cX12_apart 10 = .ok (.iload_n 2, 1) := by decide +kernel
theorem dX12_apart_11 : decode cX12_apart 11 = .ok (.iconst 0, 1) := by decide +kernel
theorem dX12_apart_12 : decode cX12_apart 12 = .ok (.iconst 1, 1) := by decide +kernel
theorem dX12_apart_13 : decode cX12_apart 13 = .ok (.invokestatic 102, 3) := by decide +kernel
theorem dX12_apart_16 : decode cX12_apart 16 = .ok (.ifCond .ne 5, 3) := by decide +kernel
theorem dX12_apart_19 : decode cX12_apart 19 = .ok (.iconst (-1), 1) := by decide +kernel
theorem dX12_apart_20 : decode cX12_apart 20 = .ok (.ireturn, 1) := by decide +kernel
theorem dX12_apart_21 : decode cX12_apart 21 = .ok (.aload_n 0, 1) := by decide +kernel
theorem dX12_apart_22 : decode cX12_apart 22 = .ok (.getfield 7, 3) := by decide +kernel
theorem dX12_apart_25 : decode cX12_apart 25 = .ok (.sipush 512, 3) := by decide +kernel
theorem dX12_apart_28 : decode cX12_apart 28 = .ok (.iaload, 1) := by decide +kernel
theorem dX12_apart_29 : decode cX12_apart 29 = .ok (.iconst 1, 1) := by decide +kernel
theorem dX12_apart_30 : decode cX12_apart 30 = .ok (.isub, 1) := by decide +kernel
theorem dX12_apart_31 : decode cX12_apart 31 = .ok (.istore_n 3, 1) := by decide +kernel
theorem dX12_apart_32 : decode cX12_apart 32 = .ok (.iconst 1, 1) := by decide +kernel
theorem dX12_apart_33 : decode cX12_apart 33 = .ok (.istore 4, 2) := by decide +kernel
theorem dX12_apart_35 : decode cX12_apart 35 = .ok (.iconst 2, 1) := by decide +kernel
theorem dX12_apart_36 : decode cX12_apart 36 = .ok (.istore 5, 2) := by decide +kernel
theorem dX12_apart_38 : decode cX12_apart 38 = .ok (.iload 5, 2) := by decide +kernel
theorem dX12_apart_40 : decode cX12_apart 40 = .ok (.bipush 16, 2) := by decide +kernel
theorem dX12_apart_42 : decode cX12_apart 42 = .ok (.if_icmp .gt 71, 3) := by decide +kernel
theorem dX12_apart_45 : decode cX12_apart 45 = .ok (.iconst 1, 1) := by decide +kernel
theorem dX12_apart_46 : decode cX12_apart 46 = .ok (.istore 6, 2) := by decide +kernel
theorem dX12_apart_48 : decode cX12_apart 48 = .ok (.iconst 0, 1) := by decide +kernel
theorem dX12_apart_49 : decode cX12_apart 49 = .ok (.istore 7, 2) := by decide +kernel
theorem dX12_apart_51 : decode cX12_apart 51 = .ok (.iload 7, 2) := by decide +kernel
theorem dX12_apart_53 : decode cX12_apart 53 = .ok (.iload_n 3, 1) := by decide +kernel
theorem dX12_apart_54 : decode cX12_apart 54 = .ok (.if_icmp .ge 44, 3) := by decide +kernel
theorem dX12_apart_57 : decode cX12_apart 57 = .ok (.iload 6, 2) := by decide +kernel
theorem dX12_apart_59 : decode cX12_apart 59 = .ok (.ifCond .eq 39, 3) := by decide +kernel
theorem dX12_apart_62 : decode cX12_apart 62 = .ok (.aload_n 0, 1) := by decide +kernel
theorem dX12_apart_63 : decode cX12_apart 63 = .ok (.iload 7, 2) := by decide +kernel
theorem dX12_apart_65 : decode cX12_apart 65 = .ok (.iload_n 3, 1) := by decide +kernel
theorem dX12_apart_66 : decode cX12_apart 66 = .ok (.iload 7, 2) := by decide +kernel
theorem dX12_apart_68 : decode cX12_apart 68 = .ok (.iload 5, 2) := by decide +kernel
theorem dX12_apart_70 : decode cX12_apart 70 = .ok (.iadd, 1) := by decide +kernel
theorem dX12_apart_71 : decode cX12_apart 71 = .ok (.invokestatic 257, 3) := by decide +kernel
theorem dX12_apart_74 : decode cX12_apart 74 = .ok (.invokevirtual 328, 3) := by decide +kernel
theorem dX12_apart_77 : decode cX12_apart 77 = .ok (.iload_n 1, 1) := by decide +kernel
theorem dX12_apart_78 : decode cX12_apart 78 = .ok (.if_icmp .gt 7, 3) := by decide +kernel
theorem dX12_apart_81 : decode cX12_apart 81 = .ok (.iconst 1, 1) := by decide +kernel
theorem dX12_apart_82 : decode cX12_apart 82 = .ok (.goto 4, 3) := by decide +kernel
theorem dX12_apart_85 : decode cX12_apart 85 = .ok (.iconst 0, 1) := by decide +kernel
theorem dX12_apart_86 : decode cX12_apart 86 = .ok (.istore 6, 2) := by decide +kernel
theorem dX12_apart_88 : decode cX12_apart 88 = .ok (.iload 7, 2) := by decide +kernel
theorem dX12_apart_90 : decode cX12_apart 90 = .ok (.iload 5, 2) := by decide +kernel
theorem dX12_apart_92 : decode cX12_apart 92 = .ok (.iadd, 1) := by decide +kernel
theorem dX12_apart_93 : decode cX12_apart 93 = .ok (.istore 7, 2) := by decide +kernel
theorem dX12_apart_95 : decode cX12_apart 95 = .ok (.goto (-44), 3) := by decide +kernel
theorem dX12_apart_98 : decode cX12_apart 98 = .ok (.iload 6, 2) := by decide +kernel
theorem dX12_apart_100 : decode cX12_apart 100 = .ok (.ifCond .eq 7, 3) := by decide +kernel
theorem dX12_apart_103 : decode cX12_apart 103 = .ok (.iload 5, 2) := by decide +kernel
theorem dX12_apart_105 : decode cX12_apart 105 = .ok (.istore 4, 2) := by decide +kernel
theorem dX12_apart_107 : decode cX12_apart 107 = .ok (.iinc 5 1, 3) := by decide +kernel
theorem dX12_apart_110 : decode cX12_apart 110 = .ok (.goto (-72), 3) := by decide +kernel
theorem dX12_apart_113 : decode cX12_apart 113 = .ok (.iload_n 2, 1) := by decide +kernel
theorem dX12_apart_114 : decode cX12_apart 114 = .ok (.ifCond .ne 6, 3) := by decide +kernel
theorem dX12_apart_117 : decode cX12_apart 117 = .ok (.iload 4, 2) := by decide +kernel
theorem dX12_apart_119 : decode cX12_apart 119 = .ok (.ireturn, 1) := by decide +kernel
theorem dX12_apart_120 : decode cX12_apart 120 = .ok (.iconst 0, 1) := by decide +kernel
theorem dX12_apart_121 : decode cX12_apart 121 = .ok (.istore 5, 2) := by decide +kernel
theorem dX12_apart_123 : decode cX12_apart 123 = .ok (.iconst 0, 1) := by decide +kernel
theorem dX12_apart_124 : decode cX12_apart 124 = .ok (.istore 6, 2) := by decide +kernel
theorem dX12_apart_126 : decode cX12_apart 126 = .ok (.iload 6, 2) := by decide +kernel
theorem dX12_apart_128 : decode cX12_apart 128 = .ok (.iload_n 3, 1) := by decide +kernel
theorem dX12_apart_129 : decode cX12_apart 129 = .ok (.if_icmp .ge 33, 3) := by decide +kernel
theorem dX12_apart_132 : decode cX12_apart 132 = .ok (.iload 5, 2) := by decide +kernel
theorem dX12_apart_134 : decode cX12_apart 134 = .ok (.aload_n 0, 1) := by decide +kernel
theorem dX12_apart_135 : decode cX12_apart 135 = .ok (.iload 6, 2) := by decide +kernel
theorem dX12_apart_137 : decode cX12_apart 137 = .ok (.iload_n 3, 1) := by decide +kernel
theorem dX12_apart_138 : decode cX12_apart 138 = .ok (.iload 6, 2) := by decide +kernel
theorem dX12_apart_140 : decode cX12_apart 140 = .ok (.iload 4, 2) := by decide +kernel
theorem dX12_apart_142 : decode cX12_apart 142 = .ok (.iadd, 1) := by decide +kernel
theorem dX12_apart_143 : decode cX12_apart 143 = .ok (.invokestatic 257, 3) := by decide +kernel
theorem dX12_apart_146 : decode cX12_apart 146 = .ok (.invokevirtual 331, 3) := by decide +kernel
theorem dX12_apart_149 : decode cX12_apart 149 = .ok (.iadd, 1) := by decide +kernel
theorem dX12_apart_150 : decode cX12_apart 150 = .ok (.istore 5, 2) := by decide +kernel
theorem dX12_apart_152 : decode cX12_apart 152 = .ok (.iload 6, 2) := by decide +kernel
theorem dX12_apart_154 : decode cX12_apart 154 = .ok (.iload 4, 2) := by decide +kernel
theorem dX12_apart_156 : decode cX12_apart 156 = .ok (.iadd, 1) := by decide +kernel
theorem dX12_apart_157 : decode cX12_apart 157 = .ok (.istore 6, 2) := by decide +kernel
theorem dX12_apart_159 : decode cX12_apart 159 = .ok (.goto (-33), 3) := by decide +kernel
theorem dX12_apart_162 : decode cX12_apart 162 = .ok (.iload 5, 2) := by decide +kernel
theorem dX12_apart_164 : decode cX12_apart 164 = .ok (.ireturn, 1) := by decide +kernel
set_option maxRecDepth 100000 in
set_option maxHeartbeats 4000000 in
theorem c_X12_apart {l : Launch} {D : q_D} (τ : q_T) (σ : q_V) (a0 : Nat) (x1 : Int32) (x2 : Int32) (hI : q_I τ σ) (tA0 : τ a0 = some (10, 1)) : q_Cp l D yX12_apart cX12_apart 8 (some .int) 2 47 τ σ [.ref a0, .int x1, .int x2] (fun r => q_r r (-2147483648) 2147483647) := by
  refine q_meti rfl (Nat.le_of_ble_eq_true rfl) (fun X hG hE => ?_)
  show q_O X 0 0 τ σ 0 [(0, .ref a0), (1, .int x1), (2, .int x2)] []
  refine q_iload_n (pc := 0) hG dX12_apart_0 1 rfl ?_
  refine q_iconst (pc := 1) hG dX12_apart_1 ki_0 ?_
  refine q_bipush (pc := 2) hG dX12_apart_2 kb_99 ?_
  refine q_pS (pc := 4) [.int x1, .int 0, .int 99] [] hG (c_X12_in τ σ x1 0 99 hI) my_X12_in w778 w777 dX12_apart_4 rfl rfl (Nat.le_of_ble_eq_true rfl) (by decide) (fun v4 p4 => ?_)
  refine q_if_eq (pc := 7) hG 19 dX12_apart_7 rfl ?_ ?_
  · intro c7
    refine q_iconst (pc := 19) hG dX12_apart_19 ki_m1 ?_
    exact q_irt hG hE dX12_apart_20 ⟨rfl, (q_r.mono rl_m1 (by decide))⟩
  intro c7
  have g_1 := p4.2.2.mp (q_one p4.1 c7)
  have r_2 := q_rge (q_r_any x1) rl_0 g_1.1
  refine q_iload_n (pc := 10) hG dX12_apart_10 2 rfl ?_
  refine q_iconst (pc := 11) hG dX12_apart_11 ki_0 ?_
  refine q_iconst (pc := 12) hG dX12_apart_12 ki_1 ?_
  refine q_pS (pc := 13) [.int x2, .int 0, .int 1] [] hG (c_X12_in τ σ x2 0 1 hI) my_X12_in w778 w777 dX12_apart_13 rfl rfl (Nat.le_of_ble_eq_true rfl) (by decide) (fun v13 p13 => ?_)
  refine q_if_ne (pc := 16) hG 21 dX12_apart_16 rfl ?_ ?_
  · intro c16
    have g_3 := p13.2.2.mp (q_one p13.1 c16)
    have r_4 := q_rge (q_r_any x2) rl_0 g_3.1
    refine q_aload_n (pc := 21) hG dX12_apart_21 0 rfl ?_
    refine q_getR (pc := 22) (k2 := 100) (n2 := 549) hG fl_X12_7 dX12_apart_22 hI tA0 ff_10_0 (fun b22 f22 T22 => ?_)
    refine q_sipush (pc := 25) hG dX12_apart_25 ks_512 ?_
    refine q_naldc (pc := 28) (a1 := 8) (a2 := 64) hG dX12_apart_28 hI T22 (q_ix rl_512 (by decide)) rfl (fun v28 f28 g28 => ?_)
    refine q_iconst (pc := 29) hG dX12_apart_29 ki_1 ?_
    refine q_isub (pc := 30) hG dX12_apart_30 (fun v30 e30 => ?_)
    refine q_istore_n (pc := 31) [(3, .int v30), (0, .ref a0), (1, .int x1), (2, .int x2)] hG dX12_apart_31 (by decide) rfl ?_
    refine q_iconst (pc := 32) hG dX12_apart_32 ki_1 ?_
    refine q_istore (pc := 33) [(4, .int 1), (3, .int v30), (0, .ref a0), (1, .int x1), (2, .int x2)] hG dX12_apart_33 (by decide) rfl ?_
    refine q_iconst (pc := 35) hG dX12_apart_35 ki_2 ?_
    refine q_istore (pc := 36) [(5, .int 2), (4, .int 1), (3, .int v30), (0, .ref a0), (1, .int x1), (2, .int x2)] hG dX12_apart_36 (by decide) rfl ?_
    have J38 : ∀ (n38 : Nat) (p38_4 : Int32) (p38_5 : Int32), (q_r p38_4 1 16) → (q_r p38_5 2 17) → ((17 - p38_5.toInt).toNat < n38) → q_O X 0 0 τ σ 38 [(0, .ref a0), (1, .int x1), (2, .int x2), (3, .int v30), (4, .int p38_4), (5, .int p38_5)] [] := by
      intro n38
      induction n38 with
      | zero => intro p38_4 p38_5 r38_4 r38_5 hm38; exact absurd hm38 (Nat.not_lt_zero _)
      | succ n38 ih38 =>
        intro p38_4 p38_5 r38_4 r38_5 hm38
        refine q_iload (pc := 38) hG dX12_apart_38 5 rfl ?_
        refine q_bipush (pc := 40) hG dX12_apart_40 kb_16 ?_
        refine q_icmp_gt (pc := 42) hG 113 dX12_apart_42 rfl ?_ ?_
        · intro c42
          refine q_iload_n (pc := 113) hG dX12_apart_113 2 rfl ?_
          refine q_if_ne (pc := 114) hG 120 dX12_apart_114 rfl ?_ ?_
          · intro c114
            have r_5 := q_rle r_4 rl_1 g_3.2
            refine q_iconst (pc := 120) hG dX12_apart_120 ki_0 ?_
            refine q_istore (pc := 121) [(5, .int 0), (0, .ref a0), (1, .int x1), (2, .int x2), (3, .int v30), (4, .int p38_4)] hG dX12_apart_121 (by decide) rfl ?_
            refine q_iconst (pc := 123) hG dX12_apart_123 ki_0 ?_
            refine q_istore (pc := 124) [(6, .int 0), (5, .int 0), (0, .ref a0), (1, .int x1), (2, .int x2), (3, .int v30), (4, .int p38_4)] hG dX12_apart_124 (by decide) rfl ?_
            have J126 : ∀ (n126 : Nat) (p126_5 : Int32) (p126_6 : Int32), (q_r p126_6 0 78) → ((78 - p126_6.toInt).toNat < n126) → q_O X 0 0 τ σ 126 [(0, .ref a0), (3, .int v30), (4, .int p38_4), (5, .int p126_5), (6, .int p126_6)] [] := by
              intro n126
              induction n126 with
              | zero => intro p126_5 p126_6 r126_6 hm126; exact absurd hm126 (Nat.not_lt_zero _)
              | succ n126 ih126 =>
                intro p126_5 p126_6 r126_6 hm126
                refine q_iload (pc := 126) hG dX12_apart_126 4 rfl ?_
                refine q_iload_n (pc := 128) hG dX12_apart_128 1 rfl ?_
                refine q_icmp_ge (pc := 129) hG 162 dX12_apart_129 rfl ?_ ?_
                · intro c129
                  have r_6 := (q_subN (lo := 7) (hi := 63) e30 g28 rl_1 (by decide)).2
                  refine q_iload (pc := 162) hG dX12_apart_162 3 rfl ?_
                  exact q_irt hG hE dX12_apart_164 ⟨rfl, (q_r_any p126_5)⟩
                intro c129
                have r_7 := (q_subN (lo := 7) (hi := 63) e30 g28 rl_1 (by decide)).2
                refine q_iload (pc := 132) hG dX12_apart_132 3 rfl ?_
                refine q_aload_n (pc := 134) hG dX12_apart_134 0 rfl ?_
                refine q_iload (pc := 135) hG dX12_apart_135 4 rfl ?_
                refine q_iload_n (pc := 137) hG dX12_apart_137 1 rfl ?_
                refine q_iload (pc := 138) hG dX12_apart_138 4 rfl ?_
                refine q_iload (pc := 140) hG dX12_apart_140 2 rfl ?_
                refine q_iadd (pc := 142) hG dX12_apart_142 (fun v142 e142 => ?_)
                have r_8 := q_rlt r126_6 r_7 c129 62 (by decide)
                refine q_pS (pc := 143) [.int v30, .int v142] [.int p126_6, .ref a0, .int p126_5] hG (c_X12_min τ σ v30 v142 hI) my_X12_min w1000 w999 dX12_apart_143 rfl rfl (Nat.le_of_ble_eq_true rfl) (by decide) (fun v143 p143 => ?_)
                have r_9 := (q_addN (lo := 1) (hi := 78) e142 r_8 r38_4 (by decide)).2
                have r_10 := q_minN (lo := 1) (hi := 63) p143.2.2 r_7 r_9 (by decide)
                refine q_pV (pc := 146) [.int p126_6, .int v143] [.int p126_5] hG (c_X12_offBetween τ σ a0 p126_6 v143 hI tA0 (q_r.mono r_8 (by decide)) (q_r.mono r_10 (by decide))) my_X12_offBetween mv_X12_offBetween w1061 dX12_apart_146 tA0 (by decide) rfl rfl (Nat.le_of_ble_eq_true rfl) (by decide) (fun v146 p146 => ?_)
                refine q_iadd (pc := 149) hG dX12_apart_149 (fun v149 e149 => ?_)
                refine q_istore (pc := 150) [(5, .int v149), (0, .ref a0), (3, .int v30), (4, .int p38_4), (6, .int p126_6)] hG dX12_apart_150 (by decide) rfl ?_
                refine q_iload (pc := 152) hG dX12_apart_152 4 rfl ?_
                refine q_iload (pc := 154) hG dX12_apart_154 3 rfl ?_
                refine q_iadd (pc := 156) hG dX12_apart_156 (fun v156 e156 => ?_)
                rw [e156.trans e142.symm]
                refine q_istore (pc := 157) [(6, .int v142), (5, .int v149), (0, .ref a0), (3, .int v30), (4, .int p38_4)] hG dX12_apart_157 (by decide) rfl ?_
                refine q_goto (pc := 159) 126 hG dX12_apart_159 rfl ?_
                refine q_lv [2, 3, 4, 1, 0] rfl ?_
                exact ih126 v149 v142 (q_r.mono r_9 (by decide)) (q_measU hm126 (by have o0 := c129; have o1 := (q_addN (lo := 1) (hi := 78) e142 r_8 r38_4 (by decide)).1; have o2 := p143.2.2; have o3 := (q_subN (lo := 7) (hi := 63) e30 g28 rl_1 (by decide)).1; have o4 := r_8; have o5 := r38_4; have o6 := r_9; have o7 := r_10; have o8 := g28; have o9 := r_7; have l10 := tl_1; unfold q_r at o4 o5 o6 o7 o8 o9; omega) (r_9).2)
            refine q_lv [2, 5, 6, 1, 0] rfl ?_
            exact J126 _ 0 0 (q_r.mono rl_0 (by decide)) (Nat.lt_succ_self _)
          intro c114
          have r_11 := q_rle r_4 rl_1 g_3.2
          refine q_iload (pc := 117) hG dX12_apart_117 4 rfl ?_
          exact q_irt hG hE dX12_apart_119 ⟨rfl, (q_r.mono r38_4 (by decide))⟩
        intro c42
        refine q_iconst (pc := 45) hG dX12_apart_45 ki_1 ?_
        refine q_istore (pc := 46) [(6, .int 1), (0, .ref a0), (1, .int x1), (2, .int x2), (3, .int v30), (4, .int p38_4), (5, .int p38_5)] hG dX12_apart_46 (by decide) rfl ?_
        refine q_iconst (pc := 48) hG dX12_apart_48 ki_0 ?_
        refine q_istore (pc := 49) [(7, .int 0), (6, .int 1), (0, .ref a0), (1, .int x1), (2, .int x2), (3, .int v30), (4, .int p38_4), (5, .int p38_5)] hG dX12_apart_49 (by decide) rfl ?_
        have J51 : ∀ (n51 : Nat) (p51_6 : Int32) (p51_7 : Int32), (q_r p51_6 0 1) → (q_r p51_7 0 78) → ((78 - p51_7.toInt).toNat < n51) → q_O X 0 0 τ σ 51 [(0, .ref a0), (1, .int x1), (2, .int x2), (3, .int v30), (4, .int p38_4), (5, .int p38_5), (6, .int p51_6), (7, .int p51_7)] [] := by
          intro n51
          induction n51 with
          | zero => intro p51_6 p51_7 r51_6 r51_7 hm51; exact absurd hm51 (Nat.not_lt_zero _)
          | succ n51 ih51 =>
            intro p51_6 p51_7 r51_6 r51_7 hm51
            refine q_iload (pc := 51) hG dX12_apart_51 7 rfl ?_
            refine q_iload_n (pc := 53) hG dX12_apart_53 3 rfl ?_
            have J98 : q_O X 0 0 τ σ 98 [(0, .ref a0), (1, .int x1), (2, .int x2), (3, .int v30), (4, .int p38_4), (5, .int p38_5), (6, .int p51_6)] [] := by
              refine q_iload (pc := 98) hG dX12_apart_98 6 rfl ?_
              have J107 : ∀ (p107_4 : Int32), (q_r p107_4 1 16) → q_O X 0 0 τ σ 107 [(0, .ref a0), (1, .int x1), (2, .int x2), (3, .int v30), (4, .int p107_4), (5, .int p38_5)] [] := by
                intro p107_4 r107_4
                obtain ⟨v107, e107⟩ : ∃ z : Int32, z = p38_5 + Int32.ofInt 1 := ⟨_, rfl⟩
                have r_12 := q_rle r38_5 rl_16 c42
                have h107 := q_incN (lo := 3) (hi := 17) r_12 (by decide) (by decide) e107
                refine q_iinc (pc := 107) [(5, .int v107), (0, .ref a0), (1, .int x1), (2, .int x2), (3, .int v30), (4, .int p107_4)] hG dX12_apart_107 5 rfl e107 (by decide) rfl ?_
                refine q_goto (pc := 110) 38 hG dX12_apart_110 rfl ?_
                refine q_lv [1, 2, 3, 4, 5, 0] rfl ?_
                exact ih38 p107_4 v107 r107_4 (q_r.mono h107.2 (by decide)) (q_measU hm38 (by have o0 := c42; have o1 := h107.1; have o2 := r_12; have o3 := h107.2; have l4 := tl_16; unfold q_r at o2 o3; omega) (h107.2).2)
              refine q_if_eq (pc := 100) hG 107 dX12_apart_100 rfl ?_ ?_
              · intro c100
                refine q_lv [0, 1, 2, 3, 4, 5] rfl ?_
                exact J107 p38_4 r38_4
              intro c100
              refine q_iload (pc := 103) hG dX12_apart_103 5 rfl ?_
              refine q_istore (pc := 105) [(4, .int p38_5), (0, .ref a0), (1, .int x1), (2, .int x2), (3, .int v30), (5, .int p38_5), (6, .int p51_6)] hG dX12_apart_105 (by decide) rfl ?_
              refine q_lv [1, 2, 3, 4, 0, 5] rfl ?_
              have r_13 := q_rle r38_5 rl_16 c42
              exact J107 p38_5 (q_r.mono r_13 (by decide))
            refine q_icmp_ge (pc := 54) hG 98 dX12_apart_54 rfl ?_ ?_
            · intro c54
              have r_14 := (q_subN (lo := 7) (hi := 63) e30 g28 rl_1 (by decide)).2
              refine q_lv [0, 1, 2, 3, 4, 5, 6] rfl ?_
              exact J98 
            intro c54
            have r_15 := (q_subN (lo := 7) (hi := 63) e30 g28 rl_1 (by decide)).2
            refine q_iload (pc := 57) hG dX12_apart_57 6 rfl ?_
            refine q_if_eq (pc := 59) hG 98 dX12_apart_59 rfl ?_ ?_
            · intro c59
              refine q_lv [0, 1, 2, 3, 4, 5, 6] rfl ?_
              exact J98 
            intro c59
            refine q_aload_n (pc := 62) hG dX12_apart_62 0 rfl ?_
            refine q_iload (pc := 63) hG dX12_apart_63 7 rfl ?_
            refine q_iload_n (pc := 65) hG dX12_apart_65 3 rfl ?_
            refine q_iload (pc := 66) hG dX12_apart_66 7 rfl ?_
            refine q_iload (pc := 68) hG dX12_apart_68 5 rfl ?_
            refine q_iadd (pc := 70) hG dX12_apart_70 (fun v70 e70 => ?_)
            have r_16 := q_rlt r51_7 r_15 c54 62 (by decide)
            have r_17 := q_rle r38_5 rl_16 c42
            refine q_pS (pc := 71) [.int v30, .int v70] [.int p51_7, .ref a0] hG (c_X12_min τ σ v30 v70 hI) my_X12_min w1000 w999 dX12_apart_71 rfl rfl (Nat.le_of_ble_eq_true rfl) (by decide) (fun v71 p71 => ?_)
            have r_18 := (q_addN (lo := 2) (hi := 78) e70 r_16 r_17 (by decide)).2
            have r_19 := q_minN (lo := 2) (hi := 63) p71.2.2 r_15 r_18 (by decide)
            refine q_pV (pc := 74) [.int p51_7, .int v71] [] hG (c_X12_worst τ σ a0 p51_7 v71 hI tA0 (q_r.mono r_16 (by decide)) (q_r.mono r_19 (by decide))) my_X12_worst mv_X12_worst w1055 dX12_apart_74 tA0 (by decide) rfl rfl (Nat.le_of_ble_eq_true rfl) (by decide) (fun v74 p74 => ?_)
            refine q_iload_n (pc := 77) hG dX12_apart_77 1 rfl ?_
            have J86 : ∀ (p86_s0 : Int32), (q_r p86_s0 0 1) → q_O X 0 0 τ σ 86 [(0, .ref a0), (1, .int x1), (2, .int x2), (3, .int v30), (4, .int p38_4), (5, .int p38_5), (7, .int p51_7)] [.int p86_s0] := by
              intro p86_s0 r86_s0
              refine q_istore (pc := 86) [(6, .int p86_s0), (0, .ref a0), (1, .int x1), (2, .int x2), (3, .int v30), (4, .int p38_4), (5, .int p38_5), (7, .int p51_7)] hG dX12_apart_86 (by decide) rfl ?_
              refine q_iload (pc := 88) hG dX12_apart_88 7 rfl ?_
              refine q_iload (pc := 90) hG dX12_apart_90 6 rfl ?_
              refine q_iadd (pc := 92) hG dX12_apart_92 (fun v92 e92 => ?_)
              rw [e92.trans e70.symm]
              refine q_istore (pc := 93) [(7, .int v70), (6, .int p86_s0), (0, .ref a0), (1, .int x1), (2, .int x2), (3, .int v30), (4, .int p38_4), (5, .int p38_5)] hG dX12_apart_93 (by decide) rfl ?_
              refine q_goto (pc := 95) 51 hG dX12_apart_95 rfl ?_
              refine q_lv [2, 3, 4, 5, 6, 7, 1, 0] rfl ?_
              exact ih51 p86_s0 v70 r86_s0 (q_r.mono r_18 (by decide)) (q_measU hm51 (by have o0 := c54; have o1 := (q_addN (lo := 2) (hi := 78) e70 r_16 r_17 (by decide)).1; have o2 := p71.2.2; have o3 := (q_subN (lo := 7) (hi := 63) e30 g28 rl_1 (by decide)).1; have o4 := c42; have o5 := r_17; have o6 := r_16; have o7 := g28; have o8 := r_15; have o9 := r_18; have o10 := r_19; have l11 := tl_1; have l12 := tl_16; unfold q_r at o5 o6 o7 o8 o9 o10; omega) (r_18).2)
            refine q_icmp_gt (pc := 78) hG 85 dX12_apart_78 rfl ?_ ?_
            · intro c78
              have r_20 := q_rle r_2 rl_99 g_1.2
              refine q_iconst (pc := 85) hG dX12_apart_85 ki_0 ?_
              refine q_lv [0, 1, 2, 3, 4, 5, 7] rfl ?_
              exact J86 0 (q_r.mono rl_0 (by decide))
            intro c78
            have r_21 := q_rle r_2 rl_99 g_1.2
            refine q_iconst (pc := 81) hG dX12_apart_81 ki_1 ?_
            refine q_goto (pc := 82) 86 hG dX12_apart_82 rfl ?_
            refine q_lv [0, 1, 2, 3, 4, 5, 7] rfl ?_
            exact J86 1 (q_r.mono rl_1 (by decide))
        refine q_lv [2, 3, 4, 5, 6, 7, 1, 0] rfl ?_
        exact J51 _ 1 0 (q_r.mono rl_1 (by decide)) (q_r.mono rl_0 (by decide)) (Nat.lt_succ_self _)
    refine q_lv [3, 4, 5, 2, 1, 0] rfl ?_
    exact J38 _ 1 2 (q_r.mono rl_1 (by decide)) (q_r.mono rl_2 (by decide)) (Nat.lt_succ_self _)
  intro c16
  refine q_iconst (pc := 19) hG dX12_apart_19 ki_m1 ?_
  exact q_irt hG hE dX12_apart_20 ⟨rfl, (q_r.mono rl_m1 (by decide))⟩
theorem dX12_isHidden_0 : decode cX12_isHidden 0 = .ok (.aload_n 0, 1) := by decide +kernel
theorem dX12_isHidden_1 : decode cX12_isHidden 1 = .ok (.getfield 7, 3) := by decide +kernel
theorem dX12_isHidden_4 : decode cX12_isHidden 4 = .ok (.bipush 64, 2) := by decide +kernel
theorem dX12_isHidden_6 : decode cX12_isHidden 6 = .ok (.iload_n 1, 1) := by decide +kernel
theorem dX12_isHidden_7 : decode cX12_isHidden 7 = .ok (.iadd, 1) := by decide +kernel
theorem dX12_isHidden_8 : decode cX12_isHidden 8 = .ok (.iaload, 1) := by decide +kernel
theorem dX12_isHidden_9 : decode cX12_isHidden 9 = .ok (.iload 4, 2) := by decide +kernel
theorem dX12_isHidden_11 : decode cX12_isHidden 11 = .ok (.iadd, 1) := by decide +kernel
theorem dX12_isHidden_12 : decode cX12_isHidden 12 = .ok (.istore 5, 2) := by decide +kernel
theorem dX12_isHidden_14 : decode cX12_isHidden 14 = .ok (.aload_n 0, 1) := by decide +kernel
theorem dX12_isHidden_15 : decode cX12_isHidden 15 = .ok (.getfield 7, 3) := by decide +kernel
theorem dX12_isHidden_18 : decode cX12_isHidden 18 = .ok (.bipush 64, 2) := by decide +kernel
theorem dX12_isHidden_20 : decode cX12_isHidden 20 = .ok (.iload_n 1, 1) := by decide +kernel
theorem dX12_isHidden_21 : decode cX12_isHidden 21 = .ok (.iadd, 1) := by decide +kernel
theorem dX12_isHidden_22 : decode cX12_isHidden 22 = .ok (.iload_n 2, 1) := by decide +kernel
theorem dX12_isHidden_23 : decode cX12_isHidden 23 = .ok (.iload_n 3, 1) := by decide +kernel
theorem dX12_isHidden_24 : decode cX12_isHidden 24 = .ok (.imul, 1) := by decide +kernel
theorem dX12_isHidden_25 : decode cX12_isHidden 25 = .ok (.iadd, 1) := by decide +kernel
theorem dX12_isHidden_26 : decode cX12_isHidden 26 = .ok (.iaload, 1) := by decide +kernel
theorem dX12_isHidden_27 : decode cX12_isHidden 27 = .ok (.istore 6, 2) := by decide +kernel
theorem dX12_isHidden_29 : decode cX12_isHidden 29 = .ok (.iconst 1, 1) := by decide +kernel
theorem dX12_isHidden_30 : decode cX12_isHidden 30 = .ok (.istore 7, 2) := by decide +kernel
theorem dX12_isHidden_32 : decode cX12_isHidden 32 = .ok (.iload 7, 2) := by decide +kernel
theorem dX12_isHidden_34 : decode cX12_isHidden 34 = .ok (.iload_n 3, 1) := by decide +kernel
theorem dX12_isHidden_35 : decode cX12_isHidden 35 = .ok (.if_icmp .ge 43, 3) := by decide +kernel
theorem dX12_isHidden_38 : decode cX12_isHidden 38 = .ok (.iload 5, 2) := by decide +kernel
theorem dX12_isHidden_40 : decode cX12_isHidden 40 = .ok (.iload_n 3, 1) := by decide +kernel
theorem dX12_isHidden_41 : decode cX12_isHidden 41 = .ok (.imul, 1) := by decide +kernel
theorem dX12_isHidden_42 : decode cX12_isHidden 42 = .ok (.iload 6, 2) := by decide +kernel
theorem dX12_isHidden_44 : decode cX12_isHidden 44 = .ok (.iload 5, 2) := by decide +kernel
theorem dX12_isHidden_46 : decode cX12_isHidden 46 = .ok (.isub, 1) := by decide +kernel
theorem dX12_isHidden_47 : decode cX12_isHidden 47 = .ok (.iload 7, 2) := by decide +kernel
theorem dX12_isHidden_49 : decode cX12_isHidden 49 = .ok (.imul, 1) := by decide +kernel
theorem dX12_isHidden_50 : decode cX12_isHidden 50 = .ok (.iadd, 1) := by decide +kernel
theorem dX12_isHidden_51 : decode cX12_isHidden 51 = .ok (.aload_n 0, 1) := by decide +kernel
theorem dX12_isHidden_52 : decode cX12_isHidden 52 = .ok (.getfield 7, 3) := by decide +kernel
theorem dX12_isHidden_55 : decode cX12_isHidden 55 = .ok (.bipush 64, 2) := by decide +kernel
theorem dX12_isHidden_57 : decode cX12_isHidden 57 = .ok (.iload_n 1, 1) := by decide +kernel
theorem dX12_isHidden_58 : decode cX12_isHidden 58 = .ok (.iadd, 1) := by decide +kernel
theorem dX12_isHidden_59 : decode cX12_isHidden 59 = .ok (.iload_n 2, 1) := by decide +kernel
theorem dX12_isHidden_60 : decode cX12_isHidden 60 = .ok (.iload 7, 2) := by decide +kernel
theorem dX12_isHidden_62 : decode cX12_isHidden 62 = .ok (.imul, 1) := by decide +kernel
theorem dX12_isHidden_63 : decode cX12_isHidden 63 = .ok (.iadd, 1) := by decide +kernel
theorem dX12_isHidden_64 : decode cX12_isHidden 64 = .ok (.iaload, 1) := by decide +kernel
theorem dX12_isHidden_65 : decode cX12_isHidden 65 = .ok (.iload_n 3, 1) := by decide +kernel
theorem dX12_isHidden_66 : decode cX12_isHidden 66 = .ok (.imul, 1) := by decide +kernel
theorem dX12_isHidden_67 : decode cX12_isHidden 67 = .ok (.if_icmp .ge 5, 3) := by decide +kernel
theorem dX12_isHidden_70 : decode cX12_isHidden 70 = .ok (.iconst 1, 1) := by decide +kernel
theorem dX12_isHidden_71 : decode cX12_isHidden 71 = .ok (.ireturn, 1) := by decide +kernel
theorem dX12_isHidden_72 : decode cX12_isHidden 72 = .ok (.iinc 7 1, 3) := by decide +kernel
theorem dX12_isHidden_75 : decode cX12_isHidden 75 = .ok (.goto (-43), 3) := by decide +kernel
theorem dX12_isHidden_78 : decode cX12_isHidden 78 = .ok (.iconst 0, 1) := by decide +kernel
theorem dX12_isHidden_79 : decode cX12_isHidden 79 = .ok (.ireturn, 1) := by decide +kernel
set_option maxRecDepth 100000 in
set_option maxHeartbeats 4000000 in
theorem c_X12_isHidden {l : Launch} {D : q_D} (τ : q_T) (σ : q_V) (a0 : Nat) (x1 : Int32) (x2 : Int32) (x3 : Int32) (x4 : Int32) (hI : q_I τ σ) (tA0 : τ a0 = some (10, 1)) (rA1 : q_r x1 0 63) (rA2 : q_r x2 (-1) 1) (rA3 : q_r x3 0 64) : q_Cp l D yX12_isHidden cX12_isHidden 8 (some .boolean) 0 0 τ σ [.ref a0, .int x1, .int x2, .int x3, .int x4] (fun r => q_r r 0 1) := by
  refine q_meti rfl (Nat.le_of_ble_eq_true rfl) (fun X hG hE => ?_)
  show q_O X 0 0 τ σ 0 [(0, .ref a0), (1, .int x1), (2, .int x2), (3, .int x3), (4, .int x4)] []
  refine q_aload_n (pc := 0) hG dX12_isHidden_0 0 rfl ?_
  refine q_getR (pc := 1) (k2 := 100) (n2 := 549) hG fl_X12_7 dX12_isHidden_1 hI tA0 ff_10_0 (fun b1 f1 T1 => ?_)
  refine q_bipush (pc := 4) hG dX12_isHidden_4 kb_64 ?_
  refine q_iload_n (pc := 6) hG dX12_isHidden_6 1 rfl ?_
  refine q_iadd (pc := 7) hG dX12_isHidden_7 (fun v7 e7 => ?_)
  have r_1 := (q_addN (lo := 64) (hi := 127) e7 rl_64 rA1 (by decide)).2
  refine q_nald (pc := 8) hG dX12_isHidden_8 hI T1 (q_ix r_1 (by decide)) (fun v8 f8 => ?_)
  refine q_iload (pc := 9) hG dX12_isHidden_9 4 rfl ?_
  refine q_iadd (pc := 11) hG dX12_isHidden_11 (fun v11 e11 => ?_)
  refine q_istore (pc := 12) [(5, .int v11), (0, .ref a0), (1, .int x1), (2, .int x2), (3, .int x3), (4, .int x4)] hG dX12_isHidden_12 (by decide) rfl ?_
  refine q_aload_n (pc := 14) hG dX12_isHidden_14 1 rfl ?_
  refine q_getV (pc := 15) (v := .ref b1) hG fl_X12_7 dX12_isHidden_15 tA0 f1 ?_
  refine q_bipush (pc := 18) hG dX12_isHidden_18 kb_64 ?_
  refine q_iload_n (pc := 20) hG dX12_isHidden_20 2 rfl ?_
  refine q_iadd (pc := 21) hG dX12_isHidden_21 (fun v21 e21 => ?_)
  rw [e21.trans e7.symm]
  refine q_iload_n (pc := 22) hG dX12_isHidden_22 3 rfl ?_
  refine q_iload_n (pc := 23) hG dX12_isHidden_23 4 rfl ?_
  refine q_imul (pc := 24) hG dX12_isHidden_24 (fun v24 e24 => ?_)
  refine q_iadd (pc := 25) hG dX12_isHidden_25 (fun v25 e25 => ?_)
  have r_2 := (q_mulN (lo := (-64)) (hi := 64) e24 rA2 rA3 (by decide)).2
  have r_3 := (q_addN (lo := 0) (hi := 191) e25 r_1 r_2 (by decide)).2
  refine q_nald (pc := 26) hG dX12_isHidden_26 hI T1 (q_ix r_3 (by decide)) (fun v26 f26 => ?_)
  refine q_istore (pc := 27) [(6, .int v26), (5, .int v11), (0, .ref a0), (1, .int x1), (2, .int x2), (3, .int x3), (4, .int x4)] hG dX12_isHidden_27 (by decide) rfl ?_
  refine q_iconst (pc := 29) hG dX12_isHidden_29 ki_1 ?_
  refine q_istore (pc := 30) [(7, .int 1), (6, .int v26), (5, .int v11), (0, .ref a0), (1, .int x1), (2, .int x2), (3, .int x3), (4, .int x4)] hG dX12_isHidden_30 (by decide) rfl ?_
  have J32 : ∀ (n32 : Nat) (p32_7 : Int32), (q_r p32_7 1 64) → ((64 - p32_7.toInt).toNat < n32) → q_O X 0 0 τ σ 32 [(0, .ref a0), (1, .int x1), (2, .int x2), (3, .int x3), (5, .int v11), (6, .int v26), (7, .int p32_7)] [] := by
    intro n32
    induction n32 with
    | zero => intro p32_7 r32_7 hm32; exact absurd hm32 (Nat.not_lt_zero _)
    | succ n32 ih32 =>
      intro p32_7 r32_7 hm32
      refine q_iload (pc := 32) hG dX12_isHidden_32 6 rfl ?_
      refine q_iload_n (pc := 34) hG dX12_isHidden_34 3 rfl ?_
      refine q_icmp_ge (pc := 35) hG 78 dX12_isHidden_35 rfl ?_ ?_
      · intro c35
        refine q_iconst (pc := 78) hG dX12_isHidden_78 ki_0 ?_
        exact q_zrt hG hE dX12_isHidden_79 (q_r.mono rl_0 (by decide)) ⟨rfl, (q_r.mono rl_0 (by decide))⟩
      intro c35
      refine q_iload (pc := 38) hG dX12_isHidden_38 4 rfl ?_
      refine q_iload_n (pc := 40) hG dX12_isHidden_40 3 rfl ?_
      refine q_imul (pc := 41) hG dX12_isHidden_41 (fun v41 e41 => ?_)
      refine q_iload (pc := 42) hG dX12_isHidden_42 5 rfl ?_
      refine q_iload (pc := 44) hG dX12_isHidden_44 4 rfl ?_
      refine q_isub (pc := 46) hG dX12_isHidden_46 (fun v46 e46 => ?_)
      refine q_iload (pc := 47) hG dX12_isHidden_47 6 rfl ?_
      refine q_imul (pc := 49) hG dX12_isHidden_49 (fun v49 e49 => ?_)
      refine q_iadd (pc := 50) hG dX12_isHidden_50 (fun v50 e50 => ?_)
      refine q_aload_n (pc := 51) hG dX12_isHidden_51 0 rfl ?_
      refine q_getV (pc := 52) (v := .ref b1) hG fl_X12_7 dX12_isHidden_52 tA0 f1 ?_
      refine q_bipush (pc := 55) hG dX12_isHidden_55 kb_64 ?_
      refine q_iload_n (pc := 57) hG dX12_isHidden_57 1 rfl ?_
      refine q_iadd (pc := 58) hG dX12_isHidden_58 (fun v58 e58 => ?_)
      rw [e58.trans e7.symm]
      refine q_iload_n (pc := 59) hG dX12_isHidden_59 2 rfl ?_
      refine q_iload (pc := 60) hG dX12_isHidden_60 6 rfl ?_
      refine q_imul (pc := 62) hG dX12_isHidden_62 (fun v62 e62 => ?_)
      have r_4 := q_rlt r32_7 rA3 c35 63 (by decide)
      refine q_iadd (pc := 63) hG dX12_isHidden_63 (fun v63 e63 => ?_)
      have r_5 := (q_mulN (lo := (-63)) (hi := 63) e62 rA2 r_4 (by decide)).2
      have r_6 := (q_addN (lo := 1) (hi := 190) e63 r_1 r_5 (by decide)).2
      refine q_nald (pc := 64) hG dX12_isHidden_64 hI T1 (q_ix r_6 (by decide)) (fun v64 f64 => ?_)
      refine q_iload_n (pc := 65) hG dX12_isHidden_65 3 rfl ?_
      refine q_imul (pc := 66) hG dX12_isHidden_66 (fun v66 e66 => ?_)
      refine q_icmp_ge (pc := 67) hG 72 dX12_isHidden_67 rfl ?_ ?_
      · intro c67
        obtain ⟨v72, e72⟩ : ∃ z : Int32, z = p32_7 + Int32.ofInt 1 := ⟨_, rfl⟩
        have h72 := q_incN (lo := 2) (hi := 64) r_4 (by decide) (by decide) e72
        refine q_iinc (pc := 72) [(7, .int v72), (0, .ref a0), (1, .int x1), (2, .int x2), (3, .int x3), (5, .int v11), (6, .int v26)] hG dX12_isHidden_72 6 rfl e72 (by decide) rfl ?_
        refine q_goto (pc := 75) 32 hG dX12_isHidden_75 rfl ?_
        refine q_lv [1, 2, 3, 4, 5, 6, 0] rfl ?_
        have r_7 := q_rgt rA3 r32_7 c35 2 (by decide)
        exact ih32 v72 (q_r.mono h72.2 (by decide)) (q_measU hm32 (by have o0 := c35; have o1 := (q_mulN (lo := (-63)) (hi := 63) e62 rA2 r_4 (by decide)).1; have o2 := (q_addN (lo := 1) (hi := 190) e63 r_1 r_5 (by decide)).1; have o3 := h72.1; have o4 := (q_addN (lo := 64) (hi := 127) e7 rl_64 rA1 (by decide)).1; have o5 := (q_mulN (lo := (-64)) (hi := 64) e24 rA2 rA3 (by decide)).1; have o6 := (q_addN (lo := 0) (hi := 191) e25 r_1 r_2 (by decide)).1; have o7 := r_4; have o8 := r_2; have o9 := r_3; have o10 := r_5; have o11 := r_6; have o12 := r_1; have o13 := h72.2; have o14 := rA1; have o15 := rA2; have o16 := r_7; have l17 := tl_64; unfold q_r at o7 o8 o9 o10 o11 o12 o13 o14 o15 o16; omega) (h72.2).2)
      intro c67
      refine q_iconst (pc := 70) hG dX12_isHidden_70 ki_1 ?_
      exact q_zrt hG hE dX12_isHidden_71 (q_r.mono rl_1 (by decide)) ⟨rfl, (q_r.mono rl_1 (by decide))⟩
  refine q_lv [3, 4, 5, 6, 2, 1, 0] rfl ?_
  exact J32 _ 1 (q_r.mono rl_1 (by decide)) (Nat.lt_succ_self _)
theorem dX12_ahead_0 : decode cX12_ahead 0 = .ok (.iload_n 2, 1) := by decide +kernel
theorem dX12_ahead_1 : decode cX12_ahead 1 = .ok (.ifCond .ne 18, 3) := by decide +kernel
theorem dX12_ahead_4 : decode cX12_ahead 4 = .ok (.aload_n 0, 1) := by decide +kernel
theorem dX12_ahead_5 : decode cX12_ahead 5 = .ok (.getfield 7, 3) := by decide +kernel
theorem dX12_ahead_8 : decode cX12_ahead 8 = .ok (.sipush 512, 3) := by decide +kernel
theorem dX12_ahead_11 : decode cX12_ahead 11 = .ok (.iaload, 1) := by decide +kernel
theorem dX12_ahead_12 : decode cX12_ahead 12 = .ok (.iconst 1, 1) := by decide +kernel
theorem dX12_ahead_13 : decode cX12_ahead 13 = .ok (.isub, 1) := by decide +kernel
theorem dX12_ahead_14 : decode cX12_ahead 14 = .ok (.iload_n 1, 1) := by decide +kernel
theorem dX12_ahead_15 : decode cX12_ahead 15 = .ok (.isub, 1) := by decide +kernel
theorem dX12_ahead_16 : decode cX12_ahead 16 = .ok (.goto 4, 3) := by decide +kernel
theorem dX12_ahead_19 : decode cX12_ahead 19 = .ok (.iload_n 1, 1) := by decide +kernel
theorem dX12_ahead_20 : decode cX12_ahead 20 = .ok (.ireturn, 1) := by decide +kernel
set_option maxRecDepth 100000 in
set_option maxHeartbeats 4000000 in
theorem c_X12_ahead {l : Launch} {D : q_D} (τ : q_T) (σ : q_V) (a0 : Nat) (x1 : Int32) (x2 : Int32) (hI : q_I τ σ) (tA0 : τ a0 = some (10, 1)) (rA1 : q_r x1 0 63) : q_Cp l D yX12_ahead cX12_ahead 3 (some .int) 0 0 τ σ [.ref a0, .int x1, .int x2] (fun r => q_r r (-56) 63) := by
  refine q_meti rfl (Nat.le_of_ble_eq_true rfl) (fun X hG hE => ?_)
  show q_O X 0 0 τ σ 0 [(0, .ref a0), (1, .int x1), (2, .int x2)] []
  refine q_iload_n (pc := 0) hG dX12_ahead_0 2 rfl ?_
  refine q_if_ne (pc := 1) hG 19 dX12_ahead_1 rfl ?_ ?_
  · intro c1
    refine q_iload_n (pc := 19) hG dX12_ahead_19 1 rfl ?_
    exact q_irt hG hE dX12_ahead_20 ⟨rfl, (q_r.mono rA1 (by decide))⟩
  intro c1
  refine q_aload_n (pc := 4) hG dX12_ahead_4 0 rfl ?_
  refine q_getR (pc := 5) (k2 := 100) (n2 := 549) hG fl_X12_7 dX12_ahead_5 hI tA0 ff_10_0 (fun b5 f5 T5 => ?_)
  refine q_sipush (pc := 8) hG dX12_ahead_8 ks_512 ?_
  refine q_naldc (pc := 11) (a1 := 8) (a2 := 64) hG dX12_ahead_11 hI T5 (q_ix rl_512 (by decide)) rfl (fun v11 f11 g11 => ?_)
  refine q_iconst (pc := 12) hG dX12_ahead_12 ki_1 ?_
  refine q_isub (pc := 13) hG dX12_ahead_13 (fun v13 e13 => ?_)
  refine q_iload_n (pc := 14) hG dX12_ahead_14 1 rfl ?_
  refine q_isub (pc := 15) hG dX12_ahead_15 (fun v15 e15 => ?_)
  have r_1 := (q_subN (lo := 7) (hi := 63) e13 g11 rl_1 (by decide)).2
  refine q_goto (pc := 16) 20 hG dX12_ahead_16 rfl ?_
  have r_2 := (q_subN (lo := (-56)) (hi := 63) e15 r_1 rA1 (by decide)).2
  exact q_irt hG hE dX12_ahead_20 ⟨rfl, r_2⟩
theorem dX12_seenFrom_0 : decode cX12_seenFrom 0 = .ok (.iconst 0, 1) := by decide +kernel
theorem dX12_seenFrom_1 : decode cX12_seenFrom 1 = .ok (.istore 4, 2) := by decide +kernel
theorem dX12_seenFrom_3 : decode cX12_seenFrom 3 = .ok (.iload 4, 2) := by decide +kernel
theorem dX12_seenFrom_5 : decode cX12_seenFrom 5 = .ok (.aload_n 0, 1) := by decide +kernel
theorem dX12_seenFrom_6 : decode cX12_seenFrom 6 = .ok (.iload_n 1, 1) := by decide +kernel
theorem dX12_seenFrom_7 : decode cX12_seenFrom 7 = .ok (.iload_n 2, 1) := by decide +kernel
theorem dX12_seenFrom_8 : decode cX12_seenFrom 8 = .ok (.invokevirtual 337, 3) := by decide +kernel
theorem dX12_seenFrom_11 : decode cX12_seenFrom 11 = .ok (.if_icmp .ge 34, 3) := by decide +kernel
theorem dX12_seenFrom_14 : decode cX12_seenFrom 14 = .ok (.aload_n 0, 1) := by decide +kernel
theorem dX12_seenFrom_15 : decode cX12_seenFrom 15 = .ok (.iload_n 1, 1) := by decide +kernel
theorem dX12_seenFrom_16 : decode cX12_seenFrom 16 = .ok (.iload_n 2, 1) := by decide +kernel
theorem dX12_seenFrom_17 : decode cX12_seenFrom 17 = .ok (.ifCond .ne 7, 3) := by decide +kernel
theorem dX12_seenFrom_20 : decode cX12_seenFrom 20 = .ok (.iconst 1, 1) := by decide +kernel
theorem dX12_seenFrom_21 : decode cX12_seenFrom 21 = .ok (.goto 4, 3) := by decide +kernel
theorem dX12_seenFrom_24 : decode cX12_seenFrom 24 = .ok (.iconst (-1), 1) := by decide +kernel
theorem dX12_seenFrom_25 : decode cX12_seenFrom 25 = .ok (.iload 4, 2) := by decide +kernel
theorem dX12_seenFrom_27 : decode cX12_seenFrom 27 = .ok (.iconst 1, 1) := by decide +kernel
theorem dX12_seenFrom_28 : decode cX12_seenFrom 28 = .ok (.iadd, 1) := by decide +kernel
theorem dX12_seenFrom_29 : decode cX12_seenFrom 29 = .ok (.iload_n 3, 1) := by decide +kernel
theorem dX12_seenFrom_30 : decode cX12_seenFrom 30 = .ok (.invokevirtual 340, 3) := by decide +kernel
theorem dX12_seenFrom_33 : decode cX12_seenFrom 33 = .ok (.ifCond .ne 12, 3) := by decide +kernel
theorem dX12_seenFrom_36 : decode cX12_seenFrom 36 = .ok (.iload 4, 2) := by decide +kernel
theorem dX12_seenFrom_38 : decode cX12_seenFrom 38 = .ok (.iconst 1, 1) := by decide +kernel
theorem dX12_seenFrom_39 : decode cX12_seenFrom 39 = .ok (.iadd, 1) := by decide +kernel
theorem dX12_seenFrom_40 : decode cX12_seenFrom 40 = .ok (.istore 4, 2) := by decide +kernel
theorem dX12_seenFrom_42 : decode cX12_seenFrom 42 = .ok (.goto (-39), 3) := by decide +kernel
theorem dX12_seenFrom_45 : decode cX12_seenFrom 45 = .ok (.iload 4, 2) := by decide +kernel
theorem dX12_seenFrom_47 : decode cX12_seenFrom 47 = .ok (.ireturn, 1) := by decide +kernel
set_option maxRecDepth 100000 in
set_option maxHeartbeats 4000000 in
theorem c_X12_seenFrom {l : Launch} {D : q_D} (τ : q_T) (σ : q_V) (a0 : Nat) (x1 : Int32) (x2 : Int32) (x3 : Int32) (hI : q_I τ σ) (tA0 : τ a0 = some (10, 1)) (rA1 : q_r x1 0 63) (rA2 : q_r x2 0 1) : q_Cp l D yX12_seenFrom cX12_seenFrom 5 (some .int) 1 27 τ σ [.ref a0, .int x1, .int x2, .int x3] (fun r => q_r r 0 63) := by
  refine q_meti rfl (Nat.le_of_ble_eq_true rfl) (fun X hG hE => ?_)
  show q_O X 0 0 τ σ 0 [(0, .ref a0), (1, .int x1), (2, .int x2), (3, .int x3)] []
  refine q_iconst (pc := 0) hG dX12_seenFrom_0 ki_0 ?_
  refine q_istore (pc := 1) [(4, .int 0), (0, .ref a0), (1, .int x1), (2, .int x2), (3, .int x3)] hG dX12_seenFrom_1 (by decide) rfl ?_
  have J3 : ∀ (n3 : Nat) (p3_4 : Int32), (q_r p3_4 0 63) → ((63 - p3_4.toInt).toNat < n3) → q_O X 0 0 τ σ 3 [(0, .ref a0), (1, .int x1), (2, .int x2), (3, .int x3), (4, .int p3_4)] [] := by
    intro n3
    induction n3 with
    | zero => intro p3_4 r3_4 hm3; exact absurd hm3 (Nat.not_lt_zero _)
    | succ n3 ih3 =>
      intro p3_4 r3_4 hm3
      refine q_iload (pc := 3) hG dX12_seenFrom_3 4 rfl ?_
      refine q_aload_n (pc := 5) hG dX12_seenFrom_5 0 rfl ?_
      refine q_iload_n (pc := 6) hG dX12_seenFrom_6 1 rfl ?_
      refine q_iload_n (pc := 7) hG dX12_seenFrom_7 2 rfl ?_
      refine q_pV (pc := 8) [.int x1, .int x2] [.int p3_4] hG (c_X12_ahead τ σ a0 x1 x2 hI tA0 rA1) my_X12_ahead mv_X12_ahead w1078 dX12_seenFrom_8 tA0 (by decide) rfl rfl (Nat.le_of_ble_eq_true rfl) (by decide) (fun v8 p8 => ?_)
      refine q_icmp_ge (pc := 11) hG 45 dX12_seenFrom_11 rfl ?_ ?_
      · intro c11
        refine q_iload (pc := 45) hG dX12_seenFrom_45 4 rfl ?_
        exact q_irt hG hE dX12_seenFrom_47 ⟨rfl, r3_4⟩
      intro c11
      refine q_aload_n (pc := 14) hG dX12_seenFrom_14 0 rfl ?_
      refine q_iload_n (pc := 15) hG dX12_seenFrom_15 1 rfl ?_
      refine q_iload_n (pc := 16) hG dX12_seenFrom_16 2 rfl ?_
      have J25 : ∀ (p25_s0 : Int32), (q_r p25_s0 (-1) 1) → q_O X 0 0 τ σ 25 [(0, .ref a0), (1, .int x1), (2, .int x2), (3, .int x3), (4, .int p3_4)] [.int p25_s0, .int x1, .ref a0] := by
        intro p25_s0 r25_s0
        refine q_iload (pc := 25) hG dX12_seenFrom_25 4 rfl ?_
        refine q_iconst (pc := 27) hG dX12_seenFrom_27 ki_1 ?_
        refine q_iadd (pc := 28) hG dX12_seenFrom_28 (fun v28 e28 => ?_)
        have r_1 := q_rlt r3_4 p8 c11 62 (by decide)
        refine q_iload_n (pc := 29) hG dX12_seenFrom_29 3 rfl ?_
        have r_2 := (q_addN (lo := 1) (hi := 63) e28 r_1 rl_1 (by decide)).2
        refine q_pV (pc := 30) [.int x1, .int p25_s0, .int v28, .int x3] [] hG (c_X12_isHidden τ σ a0 x1 p25_s0 v28 x3 hI tA0 rA1 r25_s0 (q_r.mono r_2 (by decide))) my_X12_isHidden mv_X12_isHidden w1081 dX12_seenFrom_30 tA0 (by decide) rfl rfl (Nat.le_of_ble_eq_true rfl) (by decide) (fun v30 p30 => ?_)
        refine q_if_ne (pc := 33) hG 45 dX12_seenFrom_33 rfl ?_ ?_
        · intro c33
          refine q_iload (pc := 45) hG dX12_seenFrom_45 4 rfl ?_
          exact q_irt hG hE dX12_seenFrom_47 ⟨rfl, (q_r.mono r_1 (by decide))⟩
        intro c33
        refine q_iload (pc := 36) hG dX12_seenFrom_36 4 rfl ?_
        refine q_iconst (pc := 38) hG dX12_seenFrom_38 ki_1 ?_
        refine q_iadd (pc := 39) hG dX12_seenFrom_39 (fun v39 e39 => ?_)
        rw [e39.trans e28.symm]
        refine q_istore (pc := 40) [(4, .int v28), (0, .ref a0), (1, .int x1), (2, .int x2), (3, .int x3)] hG dX12_seenFrom_40 (by decide) rfl ?_
        refine q_goto (pc := 42) 3 hG dX12_seenFrom_42 rfl ?_
        refine q_lv [1, 2, 3, 4, 0] rfl ?_
        have r_3 := q_rgt p8 r3_4 c11 1 (by decide)
        exact ih3 v28 (q_r.mono r_2 (by decide)) (q_measU hm3 (by have o0 := c11; have o1 := (q_addN (lo := 1) (hi := 63) e28 r_1 rl_1 (by decide)).1; have o2 := r_1; have o3 := r_2; have o4 := r_3; have l5 := tl_1; unfold q_r at o2 o3 o4; omega) (r_2).2)
      refine q_if_ne (pc := 17) hG 24 dX12_seenFrom_17 rfl ?_ ?_
      · intro c17
        refine q_iconst (pc := 24) hG dX12_seenFrom_24 ki_m1 ?_
        refine q_lv [0, 1, 2, 3, 4] rfl ?_
        exact J25 (-1) (q_r.mono rl_m1 (by decide))
      intro c17
      refine q_iconst (pc := 20) hG dX12_seenFrom_20 ki_1 ?_
      refine q_goto (pc := 21) 25 hG dX12_seenFrom_21 rfl ?_
      refine q_lv [0, 1, 2, 3, 4] rfl ?_
      exact J25 1 (q_r.mono rl_1 (by decide))
  refine q_lv [1, 2, 3, 4, 0] rfl ?_
  exact J3 _ 0 (q_r.mono rl_0 (by decide)) (Nat.lt_succ_self _)
theorem dX12_seen_0 : decode cX12_seen 0 = .ok (.aload_n 0, 1) := by decide +kernel
theorem dX12_seen_1 : decode cX12_seen 1 = .ok (.iload_n 1, 1) := by decide +kernel
theorem dX12_seen_2 : decode cX12_seen 2 = .ok (.invokevirtual 110, 3) := by decide +kernel
theorem dX12_seen_5 : decode cX12_seen 5 = .ok (.ifCond .eq 32, 3) := by decide +kernel
theorem dX12_seen_8 : decode cX12_seen 8 = .ok (.iload_n 2, 1) := by decide +kernel
theorem dX12_seen_9 : decode cX12_seen 9 = .ok (.iconst 0, 1) := by decide +kernel
theorem dX12_seen_10 : decode cX12_seen 10 = .ok (.iconst 1, 1) := by decide +kernel
theorem dX12_seen_11 : decode cX12_seen 11 = .ok (.invokestatic 102, 3) := by decide +kernel
theorem dX12_seen_14 : decode cX12_seen 14 = .ok (.ifCond .eq 23, 3) := by decide +kernel
theorem dX12_seen_17 : decode cX12_seen 17 = .ok (.iload_n 3, 1) := by decide +kernel
theorem dX12_seen_18 : decode cX12_seen 18 = .ok (.iconst 1, 1) := by decide +kernel
theorem dX12_seen_19 : decode cX12_seen 19 = .ok (.bipush 9, 2) := by decide +kernel
theorem dX12_seen_21 : decode cX12_seen 21 = .ok (.invokestatic 102, 3) := by decide +kernel
theorem dX12_seen_24 : decode cX12_seen 24 = .ok (.ifCond .eq 13, 3) := by decide +kernel
theorem dX12_seen_27 : decode cX12_seen 27 = .ok (.aload_n 0, 1) := by decide +kernel
theorem dX12_seen_28 : decode cX12_seen 28 = .ok (.iload_n 1, 1) := by decide +kernel
theorem dX12_seen_29 : decode cX12_seen 29 = .ok (.iload_n 2, 1) := by decide +kernel
theorem dX12_seen_30 : decode cX12_seen 30 = .ok (.iload_n 3, 1) := by decide +kernel
theorem dX12_seen_31 : decode cX12_seen 31 = .ok (.invokevirtual 344, 3) := by decide +kernel
theorem dX12_seen_34 : decode cX12_seen 34 = .ok (.goto 4, 3) := by decide +kernel
theorem dX12_seen_37 : decode cX12_seen 37 = .ok (.iconst (-1), 1) := by decide +kernel
theorem dX12_seen_38 : decode cX12_seen 38 = .ok (.ireturn, 1) := by decide +kernel
set_option maxRecDepth 100000 in
set_option maxHeartbeats 4000000 in
theorem c_X12_seen {l : Launch} {D : q_D} (τ : q_T) (σ : q_V) (a0 : Nat) (x1 : Int32) (x2 : Int32) (x3 : Int32) (hI : q_I τ σ) (tA0 : τ a0 = some (10, 1)) : q_Cp l D yX12_seen cX12_seen 4 (some .int) 2 51 τ σ [.ref a0, .int x1, .int x2, .int x3] (fun r => q_r r (-1) 63) := by
  refine q_meti rfl (Nat.le_of_ble_eq_true rfl) (fun X hG hE => ?_)
  show q_O X 0 0 τ σ 0 [(0, .ref a0), (1, .int x1), (2, .int x2), (3, .int x3)] []
  refine q_aload_n (pc := 0) hG dX12_seen_0 0 rfl ?_
  refine q_iload_n (pc := 1) hG dX12_seen_1 1 rfl ?_
  refine q_pV (pc := 2) [.int x1] [] hG (c_X12_isDot τ σ a0 x1 hI tA0) my_X12_isDot mv_X12_isDot w836 dX12_seen_2 tA0 (by decide) rfl rfl (Nat.le_of_ble_eq_true rfl) (by decide) (fun v2 p2 => ?_)
  obtain ⟨q_1b, q_1f, q_1T⟩ := (hI a0 10 1 tA0 0 (by decide)).ref (k := 100) (n := 549) rfl
  obtain ⟨q_2v, q_2f, q_2r⟩ := (hI q_1b 100 549 q_1T 512 (by decide)).int (lo := 8) (hi := 64) rfl
  have q_2g : σ q_1b (512 : Int32).toInt.toNat = .int q_2v := q_2f
  refine q_if_eq (pc := 5) hG 37 dX12_seen_5 rfl ?_ ?_
  · intro c5
    refine q_iconst (pc := 37) hG dX12_seen_37 ki_m1 ?_
    exact q_irt hG hE dX12_seen_38 ⟨rfl, (q_r.mono rl_m1 (by decide))⟩
  intro c5
  have g_3 := p2.2.2.1 (q_one p2.1 c5)
  have r_4 := q_rge (q_r_any x1) rl_0 (show (0 : Int32).toInt ≤ _ from g_3.1)
  have r_5 := q_rle r_4 rl_63 (show _ ≤ (63 : Int32).toInt from g_3.2.1)
  refine q_iload_n (pc := 8) hG dX12_seen_8 2 rfl ?_
  refine q_iconst (pc := 9) hG dX12_seen_9 ki_0 ?_
  refine q_iconst (pc := 10) hG dX12_seen_10 ki_1 ?_
  refine q_pS (pc := 11) [.int x2, .int 0, .int 1] [] hG (c_X12_in τ σ x2 0 1 hI) my_X12_in w778 w777 dX12_seen_11 rfl rfl (Nat.le_of_ble_eq_true rfl) (by decide) (fun v11 p11 => ?_)
  refine q_if_eq (pc := 14) hG 37 dX12_seen_14 rfl ?_ ?_
  · intro c14
    refine q_iconst (pc := 37) hG dX12_seen_37 ki_m1 ?_
    exact q_irt hG hE dX12_seen_38 ⟨rfl, (q_r.mono rl_m1 (by decide))⟩
  intro c14
  have g_6 := p11.2.2.mp (q_one p11.1 c14)
  have r_7 := q_rge (q_r_any x2) rl_0 g_6.1
  refine q_iload_n (pc := 17) hG dX12_seen_17 3 rfl ?_
  refine q_iconst (pc := 18) hG dX12_seen_18 ki_1 ?_
  refine q_bipush (pc := 19) hG dX12_seen_19 kb_9 ?_
  refine q_pS (pc := 21) [.int x3, .int 1, .int 9] [] hG (c_X12_in τ σ x3 1 9 hI) my_X12_in w778 w777 dX12_seen_21 rfl rfl (Nat.le_of_ble_eq_true rfl) (by decide) (fun v21 p21 => ?_)
  refine q_if_eq (pc := 24) hG 37 dX12_seen_24 rfl ?_ ?_
  · intro c24
    refine q_iconst (pc := 37) hG dX12_seen_37 ki_m1 ?_
    exact q_irt hG hE dX12_seen_38 ⟨rfl, (q_r.mono rl_m1 (by decide))⟩
  intro c24
  have g_8 := p21.2.2.mp (q_one p21.1 c24)
  have r_9 := q_rge (q_r_any x3) rl_1 g_8.1
  refine q_aload_n (pc := 27) hG dX12_seen_27 0 rfl ?_
  refine q_iload_n (pc := 28) hG dX12_seen_28 1 rfl ?_
  refine q_iload_n (pc := 29) hG dX12_seen_29 2 rfl ?_
  refine q_iload_n (pc := 30) hG dX12_seen_30 3 rfl ?_
  have r_10 := q_rle r_7 rl_1 g_6.2
  refine q_pV (pc := 31) [.int x1, .int x2, .int x3] [] hG (c_X12_seenFrom τ σ a0 x1 x2 x3 hI tA0 r_5 r_10) my_X12_seenFrom mv_X12_seenFrom w1075 dX12_seen_31 tA0 (by decide) rfl rfl (Nat.le_of_ble_eq_true rfl) (by decide) (fun v31 p31 => ?_)
  refine q_goto (pc := 34) 38 hG dX12_seen_34 rfl ?_
  exact q_irt hG hE dX12_seen_38 ⟨rfl, (q_r.mono p31 (by decide))⟩
theorem dX12_isEnough_0 : decode cX12_isEnough 0 = .ok (.aload_n 0, 1) := by decide +kernel
theorem dX12_isEnough_1 : decode cX12_isEnough 1 = .ok (.iload_n 1, 1) := by decide +kernel
theorem dX12_isEnough_2 : decode cX12_isEnough 2 = .ok (.iload_n 2, 1) := by decide +kernel
theorem dX12_isEnough_3 : decode cX12_isEnough 3 = .ok (.iload_n 3, 1) := by decide +kernel
theorem dX12_isEnough_4 : decode cX12_isEnough 4 = .ok (.invokevirtual 344, 3) := by decide +kernel
theorem dX12_isEnough_7 : decode cX12_isEnough 7 = .ok (.istore 5, 2) := by decide +kernel
theorem dX12_isEnough_9 : decode cX12_isEnough 9 = .ok (.iload 5, 2) := by decide +kernel
theorem dX12_isEnough_11 : decode cX12_isEnough 11 = .ok (.iload 4, 2) := by decide +kernel
theorem dX12_isEnough_13 : decode cX12_isEnough 13 = .ok (.if_icmp .ge 14, 3) := by decide +kernel
theorem dX12_isEnough_16 : decode cX12_isEnough 16 = .ok (.iload 5, 2) := by decide +kernel
theorem dX12_isEnough_18 : decode cX12_isEnough 18 = .ok (.aload_n 0, 1) := by decide +kernel
theorem dX12_isEnough_19 : decode cX12_isEnough 19 = .ok (.iload_n 1, 1) := by decide +kernel
theorem dX12_isEnough_20 : decode cX12_isEnough 20 = .ok (.iload_n 2, 1) := by decide +kernel
theorem dX12_isEnough_21 : decode cX12_isEnough 21 = .ok (.invokevirtual 337, 3) := by decide +kernel
theorem dX12_isEnough_24 : decode cX12_isEnough 24 = .ok (.if_icmp .ne 7, 3) := by decide +kernel
theorem dX12_isEnough_27 : decode cX12_isEnough 27 = .ok (.iconst 1, 1) := by decide +kernel
theorem dX12_isEnough_28 : decode cX12_isEnough 28 = .ok (.goto 4, 3) := by decide +kernel
theorem dX12_isEnough_31 : decode cX12_isEnough 31 = .ok (.iconst 0, 1) := by decide +kernel
theorem dX12_isEnough_32 : decode cX12_isEnough 32 = .ok (.ireturn, 1) := by decide +kernel
set_option maxRecDepth 100000 in
set_option maxHeartbeats 4000000 in
theorem c_X12_isEnough {l : Launch} {D : q_D} (τ : q_T) (σ : q_V) (a0 : Nat) (x1 : Int32) (x2 : Int32) (x3 : Int32) (x4 : Int32) (hI : q_I τ σ) (tA0 : τ a0 = some (10, 1)) (rA1 : q_r x1 0 63) (rA2 : q_r x2 0 1) : q_Cp l D yX12_isEnough cX12_isEnough 6 (some .boolean) 2 51 τ σ [.ref a0, .int x1, .int x2, .int x3, .int x4] (fun r => q_r r 0 1) := by
  refine q_meti rfl (Nat.le_of_ble_eq_true rfl) (fun X hG hE => ?_)
  show q_O X 0 0 τ σ 0 [(0, .ref a0), (1, .int x1), (2, .int x2), (3, .int x3), (4, .int x4)] []
  refine q_aload_n (pc := 0) hG dX12_isEnough_0 0 rfl ?_
  refine q_iload_n (pc := 1) hG dX12_isEnough_1 1 rfl ?_
  refine q_iload_n (pc := 2) hG dX12_isEnough_2 2 rfl ?_
  refine q_iload_n (pc := 3) hG dX12_isEnough_3 3 rfl ?_
  refine q_pV (pc := 4) [.int x1, .int x2, .int x3] [] hG (c_X12_seenFrom τ σ a0 x1 x2 x3 hI tA0 rA1 rA2) my_X12_seenFrom mv_X12_seenFrom w1075 dX12_isEnough_4 tA0 (by decide) rfl rfl (Nat.le_of_ble_eq_true rfl) (by decide) (fun v4 p4 => ?_)
  refine q_istore (pc := 7) [(5, .int v4), (0, .ref a0), (1, .int x1), (2, .int x2), (3, .int x3), (4, .int x4)] hG dX12_isEnough_7 (by decide) rfl ?_
  refine q_iload (pc := 9) hG dX12_isEnough_9 0 rfl ?_
  refine q_iload (pc := 11) hG dX12_isEnough_11 5 rfl ?_
  refine q_icmp_ge (pc := 13) hG 27 dX12_isEnough_13 rfl ?_ ?_
  · intro c13
    refine q_iconst (pc := 27) hG dX12_isEnough_27 ki_1 ?_
    refine q_goto (pc := 28) 32 hG dX12_isEnough_28 rfl ?_
    exact q_zrt hG hE dX12_isEnough_32 (q_r.mono rl_1 (by decide)) ⟨rfl, (q_r.mono rl_1 (by decide))⟩
  intro c13
  refine q_iload (pc := 16) hG dX12_isEnough_16 0 rfl ?_
  refine q_aload_n (pc := 18) hG dX12_isEnough_18 1 rfl ?_
  refine q_iload_n (pc := 19) hG dX12_isEnough_19 2 rfl ?_
  refine q_iload_n (pc := 20) hG dX12_isEnough_20 3 rfl ?_
  refine q_pV (pc := 21) [.int x1, .int x2] [.int v4] hG (c_X12_ahead τ σ a0 x1 x2 hI tA0 rA1) my_X12_ahead mv_X12_ahead w1078 dX12_isEnough_21 tA0 (by decide) rfl rfl (Nat.le_of_ble_eq_true rfl) (by decide) (fun v21 p21 => ?_)
  refine q_icmp_ne (pc := 24) hG 31 dX12_isEnough_24 rfl ?_ ?_
  · intro c24
    refine q_iconst (pc := 31) hG dX12_isEnough_31 ki_0 ?_
    exact q_zrt hG hE dX12_isEnough_32 (q_r.mono rl_0 (by decide)) ⟨rfl, (q_r.mono rl_0 (by decide))⟩
  intro c24
  refine q_iconst (pc := 27) hG dX12_isEnough_27 ki_1 ?_
  refine q_goto (pc := 28) 32 hG dX12_isEnough_28 rfl ?_
  exact q_zrt hG hE dX12_isEnough_32 (q_r.mono rl_1 (by decide)) ⟨rfl, (q_r.mono rl_1 (by decide))⟩
theorem dX12_markAt_0 : decode cX12_markAt 0 = .ok (.aload_n 0, 1) := by decide +kernel
theorem dX12_markAt_1 : decode cX12_markAt 1 = .ok (.iload_n 1, 1) := by decide +kernel
theorem dX12_markAt_2 : decode cX12_markAt 2 = .ok (.invokevirtual 347, 3) := by decide +kernel
theorem dX12_markAt_5 : decode cX12_markAt 5 = .ok (.istore_n 3, 1) := by decide +kernel
theorem dX12_markAt_6 : decode cX12_markAt 6 = .ok (.aload_n 0, 1) := by decide +kernel
theorem dX12_markAt_7 : decode cX12_markAt 7 = .ok (.iload_n 1, 1) := by decide +kernel
theorem dX12_markAt_8 : decode cX12_markAt 8 = .ok (.iconst 0, 1) := by decide +kernel
theorem dX12_markAt_9 : decode cX12_markAt 9 = .ok (.iload_n 2, 1) := by decide +kernel
theorem dX12_markAt_10 : decode cX12_markAt 10 = .ok (.iload_n 3, 1) := by decide +kernel
theorem dX12_markAt_11 : decode cX12_markAt 11 = .ok (.invokevirtual 350, 3) := by decide +kernel
theorem dX12_markAt_14 : decode cX12_markAt 14 = .ok (.ifCond .eq 7, 3) := by decide +kernel
theorem dX12_markAt_17 : decode cX12_markAt 17 = .ok (.iconst 1, 1) := by decide +kernel
theorem dX12_markAt_18 : decode cX12_markAt 18 = .ok (.goto 4, 3) := by decide +kernel
theorem dX12_markAt_21 : decode cX12_markAt 21 = .ok (.iconst 0, 1) := by decide +kernel
theorem dX12_markAt_22 : decode cX12_markAt 22 = .ok (.aload_n 0, 1) := by decide +kernel
theorem dX12_markAt_23 : decode cX12_markAt 23 = .ok (.iload_n 1, 1) := by decide +kernel
theorem dX12_markAt_24 : decode cX12_markAt 24 = .ok (.iconst 1, 1) := by decide +kernel
theorem dX12_markAt_25 : decode cX12_markAt 25 = .ok (.iload_n 2, 1) := by decide +kernel
theorem dX12_markAt_26 : decode cX12_markAt 26 = .ok (.iload_n 3, 1) := by decide +kernel
theorem dX12_markAt_27 : decode cX12_markAt 27 = .ok (.invokevirtual 350, 3) := by decide +kernel
theorem dX12_markAt_30 : decode cX12_markAt 30 = .ok (.ifCond .eq 7, 3) := by decide +kernel
theorem dX12_markAt_33 : decode cX12_markAt 33 = .ok (.iconst 2, 1) := by decide +kernel
theorem dX12_markAt_34 : decode cX12_markAt 34 = .ok (.goto 4, 3) := by decide +kernel
theorem dX12_markAt_37 : decode cX12_markAt 37 = .ok (.iconst 0, 1) := by decide +kernel
theorem dX12_markAt_38 : decode cX12_markAt 38 = .ok (.iadd, 1) := by decide +kernel
theorem dX12_markAt_39 : decode cX12_markAt 39 = .ok (.ireturn, 1) := by decide +kernel
def md_X12_markAt : List (Nat × Nat) := [(162, 0), (163, 0)]
set_option maxRecDepth 100000 in
set_option maxHeartbeats 4000000 in
theorem c_X12_markAt {l : Launch} {D : q_D} (τ : q_T) (σ : q_V) (a0 : Nat) (x1 : Int32) (x2 : Int32) (hI : q_I τ σ) (tA0 : τ a0 = some (10, 1)) (rA1 : q_r x1 0 63) (hW : q_wf σ a0) : q_Ci l D yX12_markAt cX12_markAt 4 (some .int) 4 95 τ σ [.ref a0, .int x1, .int x2] (fun r σ1 => q_S md_X12_markAt τ σ σ1 ∧ (q_r r 0 3)) := by
  refine q_meti rfl (Nat.le_of_ble_eq_true rfl) (fun X hG hE => ?_)
  show q_O X 0 0 τ σ 0 [(0, .ref a0), (1, .int x1), (2, .int x2)] []
  have hS0 : q_S md_X12_markAt τ σ σ := q_S.rf hI
  refine q_aload_n (pc := 0) hG dX12_markAt_0 0 rfl ?_
  refine q_iload_n (pc := 1) hG dX12_markAt_1 1 rfl ?_
  refine q_cVi (pc := 2) [.int x1] [] hG (c_X12_mustSee τ σ a0 x1 hI tA0 rA1 hW) my_X12_mustSee mv_X12_mustSee w1091 dX12_markAt_2 tA0 (by decide) rfl rfl (Nat.le_of_ble_eq_true rfl) (by decide) (fun v2 s2 p2 => ?_)
  have w2 := hS0.trans p2.1 rfl
  refine q_istore_n (pc := 5) [(3, .int v2), (0, .ref a0), (1, .int x1), (2, .int x2)] hG dX12_markAt_5 (by decide) rfl ?_
  refine q_aload_n (pc := 6) hG dX12_markAt_6 1 rfl ?_
  refine q_iload_n (pc := 7) hG dX12_markAt_7 2 rfl ?_
  refine q_iconst (pc := 8) hG dX12_markAt_8 ki_0 ?_
  refine q_iload_n (pc := 9) hG dX12_markAt_9 3 rfl ?_
  refine q_iload_n (pc := 10) hG dX12_markAt_10 0 rfl ?_
  refine q_pV (pc := 11) [.int x1, .int 0, .int x2, .int v2] [] hG (c_X12_isEnough τ s2 a0 x1 0 x2 v2 w2.1 tA0 rA1 (q_r.mono rl_0 (by decide))) my_X12_isEnough mv_X12_isEnough w1094 dX12_markAt_11 tA0 (by decide) rfl rfl (Nat.le_of_ble_eq_true rfl) (by decide) (fun v11 p11 => ?_)
  have J22 : ∀ (p22_s0 : Int32), (q_r p22_s0 0 1) → q_O X 0 0 τ s2 22 [(0, .ref a0), (1, .int x1), (2, .int x2), (3, .int v2)] [.int p22_s0] := by
    intro p22_s0 r22_s0
    refine q_aload_n (pc := 22) hG dX12_markAt_22 0 rfl ?_
    refine q_iload_n (pc := 23) hG dX12_markAt_23 1 rfl ?_
    refine q_iconst (pc := 24) hG dX12_markAt_24 ki_1 ?_
    refine q_iload_n (pc := 25) hG dX12_markAt_25 2 rfl ?_
    refine q_iload_n (pc := 26) hG dX12_markAt_26 3 rfl ?_
    refine q_pV (pc := 27) [.int x1, .int 1, .int x2, .int v2] [.int p22_s0] hG (c_X12_isEnough τ s2 a0 x1 1 x2 v2 w2.1 tA0 rA1 (q_r.mono rl_1 (by decide))) my_X12_isEnough mv_X12_isEnough w1094 dX12_markAt_27 tA0 (by decide) rfl rfl (Nat.le_of_ble_eq_true rfl) (by decide) (fun v27 p27 => ?_)
    refine q_if_eq (pc := 30) hG 37 dX12_markAt_30 rfl ?_ ?_
    · intro c30
      refine q_iconst (pc := 37) hG dX12_markAt_37 ki_0 ?_
      refine q_iadd (pc := 38) hG dX12_markAt_38 (fun v38 e38 => ?_)
      have r_1 := (q_addN (lo := 0) (hi := 1) e38 r22_s0 rl_0 (by decide)).2
      exact q_irt hG hE dX12_markAt_39 ⟨w2, (q_r.mono r_1 (by decide))⟩
    intro c30
    refine q_iconst (pc := 33) hG dX12_markAt_33 ki_2 ?_
    refine q_goto (pc := 34) 38 hG dX12_markAt_34 rfl ?_
    refine q_iadd (pc := 38) hG dX12_markAt_38 (fun v38 e38 => ?_)
    have r_2 := (q_addN (lo := 2) (hi := 3) e38 r22_s0 rl_2 (by decide)).2
    exact q_irt hG hE dX12_markAt_39 ⟨w2, (q_r.mono r_2 (by decide))⟩
  refine q_if_eq (pc := 14) hG 21 dX12_markAt_14 rfl ?_ ?_
  · intro c14
    refine q_iconst (pc := 21) hG dX12_markAt_21 ki_0 ?_
    refine q_lv [1, 2, 3, 0] rfl ?_
    exact J22 0 (q_r.mono rl_0 (by decide))
  intro c14
  refine q_iconst (pc := 17) hG dX12_markAt_17 ki_1 ?_
  refine q_goto (pc := 18) 22 hG dX12_markAt_18 rfl ?_
  refine q_lv [1, 2, 3, 0] rfl ?_
  exact J22 1 (q_r.mono rl_1 (by decide))
theorem dX12_marked_0 : decode cX12_marked 0 = .ok (.aload_n 0, 1) := by decide +kernel
theorem dX12_marked_1 : decode cX12_marked 1 = .ok (.iload_n 1, 1) := by decide +kernel
theorem dX12_marked_2 : decode cX12_marked 2 = .ok (.invokevirtual 110, 3) := by decide +kernel
theorem dX12_marked_5 : decode cX12_marked 5 = .ok (.ifCond .eq 22, 3) := by decide +kernel
theorem dX12_marked_8 : decode cX12_marked 8 = .ok (.iload_n 2, 1) := by decide +kernel
theorem dX12_marked_9 : decode cX12_marked 9 = .ok (.iconst 1, 1) := by decide +kernel
theorem dX12_marked_10 : decode cX12_marked 10 = .ok (.bipush 9, 2) := by decide +kernel
theorem dX12_marked_12 : decode cX12_marked 12 = .ok (.invokestatic 102, 3) := by decide +kernel
theorem dX12_marked_15 : decode cX12_marked 15 = .ok (.ifCond .eq 12, 3) := by decide +kernel
theorem dX12_marked_18 : decode cX12_marked 18 = .ok (.aload_n 0, 1) := by decide +kernel
theorem dX12_marked_19 : decode cX12_marked 19 = .ok (.iload_n 1, 1) := by decide +kernel
theorem dX12_marked_20 : decode cX12_marked 20 = .ok (.iload_n 2, 1) := by decide +kernel
theorem dX12_marked_21 : decode cX12_marked 21 = .ok (.invokevirtual 353, 3) := by decide +kernel
theorem dX12_marked_24 : decode cX12_marked 24 = .ok (.goto 4, 3) := by decide +kernel
theorem dX12_marked_27 : decode cX12_marked 27 = .ok (.iconst (-1), 1) := by decide +kernel
theorem dX12_marked_28 : decode cX12_marked 28 = .ok (.ireturn, 1) := by decide +kernel
def md_X12_marked : List (Nat × Nat) := [(162, 0), (163, 0)]
set_option maxRecDepth 100000 in
set_option maxHeartbeats 4000000 in
theorem c_X12_marked {l : Launch} {D : q_D} (τ : q_T) (σ : q_V) (a0 : Nat) (x1 : Int32) (x2 : Int32) (hI : q_I τ σ) (tA0 : τ a0 = some (10, 1)) (hW : q_wf σ a0) : q_Ci l D yX12_marked cX12_marked 3 (some .int) 5 118 τ σ [.ref a0, .int x1, .int x2] (fun r σ1 => q_S md_X12_marked τ σ σ1 ∧ (q_r r (-1) 3)) := by
  refine q_meti rfl (Nat.le_of_ble_eq_true rfl) (fun X hG hE => ?_)
  show q_O X 0 0 τ σ 0 [(0, .ref a0), (1, .int x1), (2, .int x2)] []
  have hS0 : q_S md_X12_marked τ σ σ := q_S.rf hI
  refine q_aload_n (pc := 0) hG dX12_marked_0 0 rfl ?_
  refine q_iload_n (pc := 1) hG dX12_marked_1 1 rfl ?_
  refine q_pV (pc := 2) [.int x1] [] hG (c_X12_isDot τ σ a0 x1 hI tA0) my_X12_isDot mv_X12_isDot w836 dX12_marked_2 tA0 (by decide) rfl rfl (Nat.le_of_ble_eq_true rfl) (by decide) (fun v2 p2 => ?_)
  obtain ⟨q_1b, q_1f, q_1T⟩ := (hI a0 10 1 tA0 0 (by decide)).ref (k := 100) (n := 549) rfl
  obtain ⟨q_2v, q_2f, q_2r⟩ := (hI q_1b 100 549 q_1T 512 (by decide)).int (lo := 8) (hi := 64) rfl
  have q_2g : σ q_1b (512 : Int32).toInt.toNat = .int q_2v := q_2f
  refine q_if_eq (pc := 5) hG 27 dX12_marked_5 rfl ?_ ?_
  · intro c5
    refine q_iconst (pc := 27) hG dX12_marked_27 ki_m1 ?_
    exact q_irt hG hE dX12_marked_28 ⟨hS0, (q_r.mono rl_m1 (by decide))⟩
  intro c5
  have g_3 := p2.2.2.1 (q_one p2.1 c5)
  have r_4 := q_rge (q_r_any x1) rl_0 (show (0 : Int32).toInt ≤ _ from g_3.1)
  have r_5 := q_rle r_4 rl_63 (show _ ≤ (63 : Int32).toInt from g_3.2.1)
  refine q_iload_n (pc := 8) hG dX12_marked_8 2 rfl ?_
  refine q_iconst (pc := 9) hG dX12_marked_9 ki_1 ?_
  refine q_bipush (pc := 10) hG dX12_marked_10 kb_9 ?_
  refine q_pS (pc := 12) [.int x2, .int 1, .int 9] [] hG (c_X12_in τ σ x2 1 9 hI) my_X12_in w778 w777 dX12_marked_12 rfl rfl (Nat.le_of_ble_eq_true rfl) (by decide) (fun v12 p12 => ?_)
  refine q_if_eq (pc := 15) hG 27 dX12_marked_15 rfl ?_ ?_
  · intro c15
    refine q_iconst (pc := 27) hG dX12_marked_27 ki_m1 ?_
    exact q_irt hG hE dX12_marked_28 ⟨hS0, (q_r.mono rl_m1 (by decide))⟩
  intro c15
  have g_6 := p12.2.2.mp (q_one p12.1 c15)
  have r_7 := q_rge (q_r_any x2) rl_1 g_6.1
  refine q_aload_n (pc := 18) hG dX12_marked_18 0 rfl ?_
  refine q_iload_n (pc := 19) hG dX12_marked_19 1 rfl ?_
  refine q_iload_n (pc := 20) hG dX12_marked_20 2 rfl ?_
  refine q_cVi (pc := 21) [.int x1, .int x2] [] hG (c_X12_markAt τ σ a0 x1 x2 hI tA0 r_5 hW) my_X12_markAt mv_X12_markAt w1088 dX12_marked_21 tA0 (by decide) rfl rfl (Nat.le_of_ble_eq_true rfl) (by decide) (fun v21 s21 p21 => ?_)
  have w21 := hS0.trans p21.1 rfl
  refine q_goto (pc := 24) 28 hG dX12_marked_24 rfl ?_
  exact q_irt hG hE dX12_marked_28 ⟨w21, (q_r.mono p21.2 (by decide))⟩
theorem dX12_markings_0 : decode cX12_markings 0 = .ok (.iload_n 1, 1) := by decide +kernel
theorem dX12_markings_1 : decode cX12_markings 1 = .ok (.iconst 1, 1) := by decide +kernel
theorem dX12_markings_2 : decode cX12_markings 2 = .ok (.bipush 9, 2) := by decide +kernel
theorem dX12_markings_4 : decode cX12_markings 4 = .ok (.invokestatic 102, 3) := by decide +kernel
theorem dX12_markings_7 : decode cX12_markings 7 = .ok (.ifCond .eq 21, 3) := by decide +kernel
theorem dX12_markings_10 : decode cX12_markings 10 = .ok (.iload_n 2, 1) := by decide +kernel
theorem dX12_markings_11 : decode cX12_markings 11 = .ok (.iconst 0, 1) := by decide +kernel
theorem dX12_markings_12 : decode cX12_markings 12 = .ok (.iconst 3, 1) := by decide +kernel
theorem dX12_markings_13 : decode cX12_markings 13 = .ok (.invokestatic 102, 3) := by decide +kernel
theorem dX12_markings_16 : decode cX12_markings 16 = .ok (.ifCond .eq 12, 3) := by decide +kernel
theorem dX12_markings_19 : decode cX12_markings 19 = .ok (.iload_n 3, 1) := by decide +kernel
theorem dX12_markings_20 : decode cX12_markings 20 = .ok (.iconst 0, 1) := by decide +kernel
theorem dX12_markings_21 : decode cX12_markings 21 = .ok (.iconst 1, 1) := by decide +kernel
theorem dX12_markings_22 : decode cX12_markings 22 = .ok (.invokestatic 102, 3) := by decide +kernel
theorem dX12_markings_25 : decode cX12_markings 25 = .ok (.ifCond .ne 5, 3) := by decide +kernel
theorem dX12_markings_28 : decode cX12_markings 28 = .ok (.iconst (-1), 1) := by decide +kernel
theorem dX12_markings_29 : decode cX12_markings 29 = .ok (.ireturn, 1) := by decide +kernel
theorem dX12_markings_30 : decode cX12_markings 30 = .ok (.iconst 0, 1) := by decide +kernel
theorem dX12_markings_31 : decode cX12_markings 31 = .ok (.istore 4, 2) := by decide +kernel
theorem dX12_markings_33 : decode cX12_markings 33 = .ok (.iconst 0, 1) := by decide +kernel
theorem dX12_markings_34 : decode cX12_markings 34 = .ok (.istore 5, 2) := by decide +kernel
theorem dX12_markings_36 : decode cX12_markings 36 = .ok (.iconst 0, 1) := by decide +kernel
theorem dX12_markings_37 : decode cX12_markings 37 = .ok (.istore 6, 2) := by decide +kernel
theorem dX12_markings_39 : decode cX12_markings 39 = .ok (.iconst 0, 1) := by decide +kernel
theorem dX12_markings_40 : decode cX12_markings 40 = .ok (.istore 7, 2) := by decide +kernel
theorem dX12_markings_42 : decode cX12_markings 42 = .ok (.iload 7, 2) := by decide +kernel
theorem dX12_markings_44 : decode cX12_markings 44 = .ok (.aload_n 0, 1) := by decide +kernel
theorem dX12_markings_45 : decode cX12_markings 45 = .ok (.getfield 7, 3) := by decide +kernel
theorem dX12_markings_48 : decode cX12_markings 48 = .ok (.sipush 512, 3) := by decide +kernel
theorem dX12_markings_51 : decode cX12_markings 51 = .ok (.iaload, 1) := by decide +kernel
theorem dX12_markings_52 : decode cX12_markings 52 = .ok (.if_icmp .ge 67, 3) := by decide +kernel
theorem dX12_markings_55 : decode cX12_markings 55 = .ok (.aload_n 0, 1) := by decide +kernel
theorem dX12_markings_56 : decode cX12_markings 56 = .ok (.iload 7, 2) := by decide +kernel
theorem dX12_markings_58 : decode cX12_markings 58 = .ok (.iload_n 1, 1) := by decide +kernel
theorem dX12_markings_59 : decode cX12_markings 59 = .ok (.invokevirtual 353, 3) := by decide +kernel
theorem dX12_markings_62 : decode cX12_markings 62 = .ok (.iload_n 2, 1) := by decide +kernel
theorem dX12_markings_63 : decode cX12_markings 63 = .ok (.if_icmp .ne 7, 3) := by decide +kernel
theorem dX12_markings_66 : decode cX12_markings 66 = .ok (.iconst 1, 1) := by decide +kernel
theorem dX12_markings_67 : decode cX12_markings 67 = .ok (.goto 4, 3) := by decide +kernel
theorem dX12_markings_70 : decode cX12_markings 70 = .ok (.iconst 0, 1) := by decide +kernel
theorem dX12_markings_71 : decode cX12_markings 71 = .ok (.istore 8, 2) := by decide +kernel
theorem dX12_markings_73 : decode cX12_markings 73 = .ok (.iload 8, 2) := by decide +kernel
theorem dX12_markings_75 : decode cX12_markings 75 = .ok (.ifCond .eq 10, 3) := by decide +kernel
theorem dX12_markings_78 : decode cX12_markings 78 = .ok (.iload 6, 2) := by decide +kernel
theorem dX12_markings_80 : decode cX12_markings 80 = .ok (.iconst 1, 1) := by decide +kernel
theorem dX12_markings_81 : decode cX12_markings 81 = .ok (.iadd, 1) := by decide +kernel
theorem dX12_markings_82 : decode cX12_markings 82 = .ok (.goto 4, 3) := by decide +kernel
theorem dX12_markings_85 : decode cX12_markings 85 = .ok (.iconst 0, 1) := by decide +kernel
theorem dX12_markings_86 : decode cX12_markings 86 = .ok (.istore 6, 2) := by decide +kernel
theorem dX12_markings_88 : decode cX12_markings 88 = .ok (.iload 8, 2) := by decide +kernel
theorem dX12_markings_90 : decode cX12_markings 90 = .ok (.ifCond .eq 10, 3) := by decide +kernel
theorem dX12_markings_93 : decode cX12_markings 93 = .ok (.iload 4, 2) := by decide +kernel
theorem dX12_markings_95 : decode cX12_markings 95 = .ok (.iconst 1, 1) := by decide +kernel
theorem dX12_markings_96 : decode cX12_markings 96 = .ok (.iadd, 1) := by decide +kernel
theorem dX12_markings_97 : decode cX12_markings 97 = .ok (.goto 5, 3) := by decide +kernel
theorem dX12_markings_100 : decode cX12_markings 100 = .ok (.iload 4, 2) := by decide +kernel
theorem dX12_markings_102 : decode cX12_markings 102 = .ok (.istore 4, 2) := by decide +kernel
theorem dX12_markings_104 : decode cX12_markings 104 = .ok (.iload 5, 2) := by decide +kernel
theorem dX12_markings_106 : decode cX12_markings 106 = .ok (.iload 6, 2) := by decide +kernel
theorem dX12_markings_108 : decode cX12_markings 108 = .ok (.invokestatic 260, 3) := by decide +kernel
theorem dX12_markings_111 : decode cX12_markings 111 = .ok (.istore 5, 2) := by decide +kernel
theorem dX12_markings_113 : decode cX12_markings 113 = .ok (.iinc 7 1, 3) := by decide +kernel
theorem dX12_markings_116 : decode cX12_markings 116 = .ok (.goto (-74), 3) := by decide +kernel
theorem dX12_markings_119 : decode cX12_markings 119 = .ok (.iload_n 3, 1) := by decide +kernel
theorem dX12_markings_120 : decode cX12_markings 120 = .ok (.ifCond .ne 8, 3) := by decide +kernel
theorem dX12_markings_123 : decode cX12_markings 123 = .ok (.iload 4, 2) := by decide +kernel
theorem dX12_markings_125 : decode cX12_markings 125 = .ok (.goto 5, 3) := by decide +kernel
theorem dX12_markings_128 : decode cX12_markings 128 = .ok (.iload 5, 2) := by decide +kernel
theorem dX12_markings_130 : decode cX12_markings 130 = .ok (.ireturn, 1) := by decide +kernel
def md_X12_markings : List (Nat × Nat) := [(162, 0), (163, 0)]
set_option maxRecDepth 100000 in
set_option maxHeartbeats 4000000 in
theorem c_X12_markings {l : Launch} {D : q_D} (τ : q_T) (σ : q_V) (a0 : Nat) (x1 : Int32) (x2 : Int32) (x3 : Int32) (hI : q_I τ σ) (tA0 : τ a0 = some (10, 1)) (hW : q_wf σ a0) : q_Ci l D yX12_markings cX12_markings 9 (some .int) 5 118 τ σ [.ref a0, .int x1, .int x2, .int x3] (fun r σ1 => q_S md_X12_markings τ σ σ1 ∧ (q_r r (-2147483648) 2147483647)) := by
  refine q_meti rfl (Nat.le_of_ble_eq_true rfl) (fun X hG hE => ?_)
  show q_O X 0 0 τ σ 0 [(0, .ref a0), (1, .int x1), (2, .int x2), (3, .int x3)] []
  have hS0 : q_S md_X12_markings τ σ σ := q_S.rf hI
  refine q_iload_n (pc := 0) hG dX12_markings_0 1 rfl ?_
  refine q_iconst (pc := 1) hG dX12_markings_1 ki_1 ?_
  refine q_bipush (pc := 2) hG dX12_markings_2 kb_9 ?_
  refine q_pS (pc := 4) [.int x1, .int 1, .int 9] [] hG (c_X12_in τ σ x1 1 9 hI) my_X12_in w778 w777 dX12_markings_4 rfl rfl (Nat.le_of_ble_eq_true rfl) (by decide) (fun v4 p4 => ?_)
  refine q_if_eq (pc := 7) hG 28 dX12_markings_7 rfl ?_ ?_
  · intro c7
    refine q_iconst (pc := 28) hG dX12_markings_28 ki_m1 ?_
    exact q_irt hG hE dX12_markings_29 ⟨hS0, (q_r.mono rl_m1 (by decide))⟩
  intro c7
  have g_1 := p4.2.2.mp (q_one p4.1 c7)
  have r_2 := q_rge (q_r_any x1) rl_1 g_1.1
  refine q_iload_n (pc := 10) hG dX12_markings_10 2 rfl ?_
  refine q_iconst (pc := 11) hG dX12_markings_11 ki_0 ?_
  refine q_iconst (pc := 12) hG dX12_markings_12 ki_3 ?_
  refine q_pS (pc := 13) [.int x2, .int 0, .int 3] [] hG (c_X12_in τ σ x2 0 3 hI) my_X12_in w778 w777 dX12_markings_13 rfl rfl (Nat.le_of_ble_eq_true rfl) (by decide) (fun v13 p13 => ?_)
  refine q_if_eq (pc := 16) hG 28 dX12_markings_16 rfl ?_ ?_
  · intro c16
    refine q_iconst (pc := 28) hG dX12_markings_28 ki_m1 ?_
    exact q_irt hG hE dX12_markings_29 ⟨hS0, (q_r.mono rl_m1 (by decide))⟩
  intro c16
  have g_3 := p13.2.2.mp (q_one p13.1 c16)
  have r_4 := q_rge (q_r_any x2) rl_0 g_3.1
  refine q_iload_n (pc := 19) hG dX12_markings_19 3 rfl ?_
  refine q_iconst (pc := 20) hG dX12_markings_20 ki_0 ?_
  refine q_iconst (pc := 21) hG dX12_markings_21 ki_1 ?_
  refine q_pS (pc := 22) [.int x3, .int 0, .int 1] [] hG (c_X12_in τ σ x3 0 1 hI) my_X12_in w778 w777 dX12_markings_22 rfl rfl (Nat.le_of_ble_eq_true rfl) (by decide) (fun v22 p22 => ?_)
  refine q_if_ne (pc := 25) hG 30 dX12_markings_25 rfl ?_ ?_
  · intro c25
    have g_5 := p22.2.2.mp (q_one p22.1 c25)
    have r_6 := q_rge (q_r_any x3) rl_0 g_5.1
    refine q_iconst (pc := 30) hG dX12_markings_30 ki_0 ?_
    refine q_istore (pc := 31) [(4, .int 0), (0, .ref a0), (1, .int x1), (2, .int x2), (3, .int x3)] hG dX12_markings_31 (by decide) rfl ?_
    refine q_iconst (pc := 33) hG dX12_markings_33 ki_0 ?_
    refine q_istore (pc := 34) [(5, .int 0), (4, .int 0), (0, .ref a0), (1, .int x1), (2, .int x2), (3, .int x3)] hG dX12_markings_34 (by decide) rfl ?_
    refine q_iconst (pc := 36) hG dX12_markings_36 ki_0 ?_
    refine q_istore (pc := 37) [(6, .int 0), (5, .int 0), (4, .int 0), (0, .ref a0), (1, .int x1), (2, .int x2), (3, .int x3)] hG dX12_markings_37 (by decide) rfl ?_
    refine q_iconst (pc := 39) hG dX12_markings_39 ki_0 ?_
    refine q_istore (pc := 40) [(7, .int 0), (6, .int 0), (5, .int 0), (4, .int 0), (0, .ref a0), (1, .int x1), (2, .int x2), (3, .int x3)] hG dX12_markings_40 (by decide) rfl ?_
    have J42 : ∀ (n42 : Nat) (p42_4 : Int32) (p42_5 : Int32) (p42_6 : Int32) (p42_7 : Int32) (σ42 : q_V), (q_r p42_5 0 2147483647) → (q_r p42_7 0 64) → (q_S md_X12_markings τ σ σ42) → ((64 - p42_7.toInt).toNat < n42) → q_O X 0 0 τ σ42 42 [(0, .ref a0), (1, .int x1), (2, .int x2), (3, .int x3), (4, .int p42_4), (5, .int p42_5), (6, .int p42_6), (7, .int p42_7)] [] := by
      intro n42
      induction n42 with
      | zero => intro p42_4 p42_5 p42_6 p42_7 σ42 r42_5 r42_7 hS42 hm42; exact absurd hm42 (Nat.not_lt_zero _)
      | succ n42 ih42 =>
        intro p42_4 p42_5 p42_6 p42_7 σ42 r42_5 r42_7 hS42 hm42
        refine q_iload (pc := 42) hG dX12_markings_42 7 rfl ?_
        refine q_aload_n (pc := 44) hG dX12_markings_44 0 rfl ?_
        refine q_getR (pc := 45) (k2 := 100) (n2 := 549) hG fl_X12_7 dX12_markings_45 hS42.1 tA0 ff_10_0 (fun b45 f45 T45 => ?_)
        have f_7 := (hS42.2 _ _ _ _ tA0 rfl).symm.trans f45
        refine q_sipush (pc := 48) hG dX12_markings_48 ks_512 ?_
        refine q_naldc (pc := 51) (a1 := 8) (a2 := 64) hG dX12_markings_51 hS42.1 T45 (q_ix rl_512 (by decide)) rfl (fun v51 f51 g51 => ?_)
        have f_8 := (hS42.2 _ _ _ _ T45 rfl).symm.trans f51
        refine q_icmp_ge (pc := 52) hG 119 dX12_markings_52 rfl ?_ ?_
        · intro c52
          refine q_iload_n (pc := 119) hG dX12_markings_119 3 rfl ?_
          refine q_if_ne (pc := 120) hG 128 dX12_markings_120 rfl ?_ ?_
          · intro c120
            have r_9 := q_rle r_6 rl_1 g_5.2
            refine q_iload (pc := 128) hG dX12_markings_128 5 rfl ?_
            exact q_irt hG hE dX12_markings_130 ⟨hS42, (q_r.mono r42_5 (by decide))⟩
          intro c120
          have r_10 := q_rle r_6 rl_1 g_5.2
          refine q_iload (pc := 123) hG dX12_markings_123 4 rfl ?_
          refine q_goto (pc := 125) 130 hG dX12_markings_125 rfl ?_
          exact q_irt hG hE dX12_markings_130 ⟨hS42, (q_r_any p42_4)⟩
        intro c52
        refine q_aload_n (pc := 55) hG dX12_markings_55 0 rfl ?_
        refine q_iload (pc := 56) hG dX12_markings_56 7 rfl ?_
        refine q_iload_n (pc := 58) hG dX12_markings_58 1 rfl ?_
        have r_11 := q_rlt r42_7 g51 c52 63 (by decide)
        refine q_cVi (pc := 59) [.int p42_7, .int x1] [] hG (c_X12_markAt τ σ42 a0 p42_7 x1 hS42.1 tA0 r_11 (q_wf.keep hI hS42.2 tA0 rfl hW)) my_X12_markAt mv_X12_markAt w1088 dX12_markings_59 tA0 (by decide) rfl rfl (Nat.le_of_ble_eq_true rfl) (by decide) (fun v59 s59 p59 => ?_)
        have w59 := hS42.trans p59.1 rfl
        refine q_iload_n (pc := 62) hG dX12_markings_62 2 rfl ?_
        have J71 : ∀ (p71_s0 : Int32), (q_r p71_s0 0 1) → q_O X 0 0 τ s59 71 [(0, .ref a0), (1, .int x1), (2, .int x2), (3, .int x3), (4, .int p42_4), (5, .int p42_5), (6, .int p42_6), (7, .int p42_7)] [.int p71_s0] := by
          intro p71_s0 r71_s0
          refine q_istore (pc := 71) [(8, .int p71_s0), (0, .ref a0), (1, .int x1), (2, .int x2), (3, .int x3), (4, .int p42_4), (5, .int p42_5), (6, .int p42_6), (7, .int p42_7)] hG dX12_markings_71 (by decide) rfl ?_
          refine q_iload (pc := 73) hG dX12_markings_73 0 rfl ?_
          have J86 : ∀ (p86_s0 : Int32), q_O X 0 0 τ s59 86 [(0, .ref a0), (1, .int x1), (2, .int x2), (3, .int x3), (4, .int p42_4), (5, .int p42_5), (7, .int p42_7), (8, .int p71_s0)] [.int p86_s0] := by
            intro p86_s0
            refine q_istore (pc := 86) [(6, .int p86_s0), (0, .ref a0), (1, .int x1), (2, .int x2), (3, .int x3), (4, .int p42_4), (5, .int p42_5), (7, .int p42_7), (8, .int p71_s0)] hG dX12_markings_86 (by decide) rfl ?_
            refine q_iload (pc := 88) hG dX12_markings_88 8 rfl ?_
            have J102 : ∀ (p102_s0 : Int32), q_O X 0 0 τ s59 102 [(0, .ref a0), (1, .int x1), (2, .int x2), (3, .int x3), (5, .int p42_5), (6, .int p86_s0), (7, .int p42_7)] [.int p102_s0] := by
              intro p102_s0
              refine q_istore (pc := 102) [(4, .int p102_s0), (0, .ref a0), (1, .int x1), (2, .int x2), (3, .int x3), (5, .int p42_5), (6, .int p86_s0), (7, .int p42_7)] hG dX12_markings_102 (by decide) rfl ?_
              refine q_iload (pc := 104) hG dX12_markings_104 5 rfl ?_
              refine q_iload (pc := 106) hG dX12_markings_106 6 rfl ?_
              refine q_pS (pc := 108) [.int p42_5, .int p86_s0] [] hG (c_X12_max τ s59 p42_5 p86_s0 w59.1) my_X12_max w1003 w1002 dX12_markings_108 rfl rfl (Nat.le_of_ble_eq_true rfl) (by decide) (fun v108 p108 => ?_)
              refine q_istore (pc := 111) [(5, .int v108), (4, .int p102_s0), (0, .ref a0), (1, .int x1), (2, .int x2), (3, .int x3), (6, .int p86_s0), (7, .int p42_7)] hG dX12_markings_111 (by decide) rfl ?_
              obtain ⟨v113, e113⟩ : ∃ z : Int32, z = p42_7 + Int32.ofInt 1 := ⟨_, rfl⟩
              have h113 := q_incN (lo := 1) (hi := 64) r_11 (by decide) (by decide) e113
              refine q_iinc (pc := 113) [(7, .int v113), (5, .int v108), (4, .int p102_s0), (0, .ref a0), (1, .int x1), (2, .int x2), (3, .int x3), (6, .int p86_s0)] hG dX12_markings_113 7 rfl e113 (by decide) rfl ?_
              refine q_goto (pc := 116) 42 hG dX12_markings_116 rfl ?_
              refine q_lv [3, 4, 5, 6, 2, 1, 7, 0] rfl ?_
              have r_12 := q_maxN (lo := 0) (hi := 2147483647) p108.2.2.1 r42_5 (q_r_any p86_s0) (by decide)
              exact ih42 p102_s0 v108 p86_s0 v113 s59 r_12 (q_r.mono h113.2 (by decide)) w59 (q_measU hm42 (by have o0 := c52; have o1 := h113.1; have o2 := r_11; have o3 := h113.2; have o4 := g51; unfold q_r at o2 o3 o4; omega) (h113.2).2)
            refine q_if_eq (pc := 90) hG 100 dX12_markings_90 rfl ?_ ?_
            · intro c90
              refine q_iload (pc := 100) hG dX12_markings_100 5 rfl ?_
              refine q_lv [1, 2, 3, 4, 6, 0, 7] rfl ?_
              exact J102 p42_4
            intro c90
            refine q_iload (pc := 93) hG dX12_markings_93 5 rfl ?_
            refine q_iconst (pc := 95) hG dX12_markings_95 ki_1 ?_
            refine q_iadd (pc := 96) hG dX12_markings_96 (fun v96 e96 => ?_)
            refine q_goto (pc := 97) 102 hG dX12_markings_97 rfl ?_
            refine q_lv [1, 2, 3, 4, 6, 0, 7] rfl ?_
            exact J102 v96
          refine q_if_eq (pc := 75) hG 85 dX12_markings_75 rfl ?_ ?_
          · intro c75
            refine q_iconst (pc := 85) hG dX12_markings_85 ki_0 ?_
            refine q_lv [1, 2, 3, 4, 5, 6, 8, 0] rfl ?_
            exact J86 0
          intro c75
          refine q_iload (pc := 78) hG dX12_markings_78 7 rfl ?_
          refine q_iconst (pc := 80) hG dX12_markings_80 ki_1 ?_
          refine q_iadd (pc := 81) hG dX12_markings_81 (fun v81 e81 => ?_)
          refine q_goto (pc := 82) 86 hG dX12_markings_82 rfl ?_
          refine q_lv [1, 2, 3, 4, 5, 6, 8, 0] rfl ?_
          exact J86 v81
        refine q_icmp_ne (pc := 63) hG 70 dX12_markings_63 rfl ?_ ?_
        · intro c63
          have r_13 := q_rle r_4 rl_3 g_3.2
          refine q_iconst (pc := 70) hG dX12_markings_70 ki_0 ?_
          refine q_lv [0, 1, 2, 3, 4, 5, 6, 7] rfl ?_
          exact J71 0 (q_r.mono rl_0 (by decide))
        intro c63
        have r_14 := q_rle r_4 rl_3 g_3.2
        refine q_iconst (pc := 66) hG dX12_markings_66 ki_1 ?_
        refine q_goto (pc := 67) 71 hG dX12_markings_67 rfl ?_
        refine q_lv [0, 1, 2, 3, 4, 5, 6, 7] rfl ?_
        exact J71 1 (q_r.mono rl_1 (by decide))
    refine q_lv [4, 5, 6, 7, 3, 2, 1, 0] rfl ?_
    exact J42 _ 0 0 0 0 σ (q_r.mono rl_0 (by decide)) (q_r.mono rl_0 (by decide)) hS0 (Nat.lt_succ_self _)
  intro c25
  refine q_iconst (pc := 28) hG dX12_markings_28 ki_m1 ?_
  exact q_irt hG hE dX12_markings_29 ⟨hS0, (q_r.mono rl_m1 (by decide))⟩
theorem dX12_cut_0 : decode cX12_cut 0 = .ok (.iload_n 1, 1) := by decide +kernel
theorem dX12_cut_1 : decode cX12_cut 1 = .ok (.iconst 0, 1) := by decide +kernel
theorem dX12_cut_2 : decode cX12_cut 2 = .ok (.iconst 1, 1) := by decide +kernel
theorem dX12_cut_3 : decode cX12_cut 3 = .ok (.invokestatic 102, 3) := by decide +kernel
theorem dX12_cut_6 : decode cX12_cut 6 = .ok (.ifCond .eq 23, 3) := by decide +kernel
theorem dX12_cut_9 : decode cX12_cut 9 = .ok (.iload_n 2, 1) := by decide +kernel
theorem dX12_cut_10 : decode cX12_cut 10 = .ok (.iconst 1, 1) := by decide +kernel
theorem dX12_cut_11 : decode cX12_cut 11 = .ok (.bipush 9, 2) := by decide +kernel
theorem dX12_cut_13 : decode cX12_cut 13 = .ok (.invokestatic 102, 3) := by decide +kernel
theorem dX12_cut_16 : decode cX12_cut 16 = .ok (.ifCond .eq 13, 3) := by decide +kernel
theorem dX12_cut_19 : decode cX12_cut 19 = .ok (.iload_n 3, 1) := by decide +kernel
theorem dX12_cut_20 : decode cX12_cut 20 = .ok (.iconst 0, 1) := by decide +kernel
theorem dX12_cut_21 : decode cX12_cut 21 = .ok (.bipush 63, 2) := by decide +kernel
theorem dX12_cut_23 : decode cX12_cut 23 = .ok (.invokestatic 102, 3) := by decide +kernel
theorem dX12_cut_26 : decode cX12_cut 26 = .ok (.ifCond .ne 5, 3) := by decide +kernel
theorem dX12_cut_29 : decode cX12_cut 29 = .ok (.iconst (-1), 1) := by decide +kernel
theorem dX12_cut_30 : decode cX12_cut 30 = .ok (.ireturn, 1) := by decide +kernel
theorem dX12_cut_31 : decode cX12_cut 31 = .ok (.iconst 0, 1) := by decide +kernel
theorem dX12_cut_32 : decode cX12_cut 32 = .ok (.istore 4, 2) := by decide +kernel
theorem dX12_cut_34 : decode cX12_cut 34 = .ok (.iconst 0, 1) := by decide +kernel
theorem dX12_cut_35 : decode cX12_cut 35 = .ok (.istore 5, 2) := by decide +kernel
theorem dX12_cut_37 : decode cX12_cut 37 = .ok (.iload 5, 2) := by decide +kernel
theorem dX12_cut_39 : decode cX12_cut 39 = .ok (.aload_n 0, 1) := by decide +kernel
theorem dX12_cut_40 : decode cX12_cut 40 = .ok (.getfield 7, 3) := by decide +kernel
theorem dX12_cut_43 : decode cX12_cut 43 = .ok (.sipush 512, 3) := by decide +kernel
theorem dX12_cut_46 : decode cX12_cut 46 = .ok (.iaload, 1) := by decide +kernel
theorem dX12_cut_47 : decode cX12_cut 47 = .ok (.if_icmp .ge 44, 3) := by decide +kernel
theorem dX12_cut_50 : decode cX12_cut 50 = .ok (.aload_n 0, 1) := by decide +kernel
theorem dX12_cut_51 : decode cX12_cut 51 = .ok (.iload 5, 2) := by decide +kernel
theorem dX12_cut_53 : decode cX12_cut 53 = .ok (.iload_n 1, 1) := by decide +kernel
theorem dX12_cut_54 : decode cX12_cut 54 = .ok (.iload_n 2, 1) := by decide +kernel
theorem dX12_cut_55 : decode cX12_cut 55 = .ok (.aload_n 0, 1) := by decide +kernel
theorem dX12_cut_56 : decode cX12_cut 56 = .ok (.iload 5, 2) := by decide +kernel
theorem dX12_cut_58 : decode cX12_cut 58 = .ok (.invokevirtual 347, 3) := by decide +kernel
theorem dX12_cut_61 : decode cX12_cut 61 = .ok (.invokevirtual 350, 3) := by decide +kernel
theorem dX12_cut_64 : decode cX12_cut 64 = .ok (.ifCond .ne 21, 3) := by decide +kernel
theorem dX12_cut_67 : decode cX12_cut 67 = .ok (.aload_n 0, 1) := by decide +kernel
theorem dX12_cut_68 : decode cX12_cut 68 = .ok (.iload 5, 2) := by decide +kernel
theorem dX12_cut_70 : decode cX12_cut 70 = .ok (.iload_n 1, 1) := by decide +kernel
theorem dX12_cut_71 : decode cX12_cut 71 = .ok (.iload_n 2, 1) := by decide +kernel
theorem dX12_cut_72 : decode cX12_cut 72 = .ok (.iload_n 3, 1) := by decide +kernel
theorem dX12_cut_73 : decode cX12_cut 73 = .ok (.invokevirtual 350, 3) := by decide +kernel
theorem dX12_cut_76 : decode cX12_cut 76 = .ok (.ifCond .eq 9, 3) := by decide +kernel
theorem dX12_cut_79 : decode cX12_cut 79 = .ok (.iload 4, 2) := by decide +kernel
theorem dX12_cut_81 : decode cX12_cut 81 = .ok (.iconst 1, 1) := by decide +kernel
theorem dX12_cut_82 : decode cX12_cut 82 = .ok (.iadd, 1) := by decide +kernel
theorem dX12_cut_83 : decode cX12_cut 83 = .ok (.istore 4, 2) := by decide +kernel
theorem dX12_cut_85 : decode cX12_cut 85 = .ok (.iinc 5 1, 3) := by decide +kernel
theorem dX12_cut_88 : decode cX12_cut 88 = .ok (.goto (-51), 3) := by decide +kernel
theorem dX12_cut_91 : decode cX12_cut 91 = .ok (.iload 4, 2) := by decide +kernel
theorem dX12_cut_93 : decode cX12_cut 93 = .ok (.ireturn, 1) := by decide +kernel
def md_X12_cut : List (Nat × Nat) := [(162, 0), (163, 0)]
set_option maxRecDepth 100000 in
set_option maxHeartbeats 4000000 in
theorem c_X12_cut {l : Launch} {D : q_D} (τ : q_T) (σ : q_V) (a0 : Nat) (x1 : Int32) (x2 : Int32) (x3 : Int32) (hI : q_I τ σ) (tA0 : τ a0 = some (10, 1)) (hW : q_wf σ a0) : q_Ci l D yX12_cut cX12_cut 6 (some .int) 4 95 τ σ [.ref a0, .int x1, .int x2, .int x3] (fun r σ1 => q_S md_X12_cut τ σ σ1 ∧ (q_r r (-2147483648) 2147483647)) := by
  refine q_meti rfl (Nat.le_of_ble_eq_true rfl) (fun X hG hE => ?_)
  show q_O X 0 0 τ σ 0 [(0, .ref a0), (1, .int x1), (2, .int x2), (3, .int x3)] []
  have hS0 : q_S md_X12_cut τ σ σ := q_S.rf hI
  refine q_iload_n (pc := 0) hG dX12_cut_0 1 rfl ?_
  refine q_iconst (pc := 1) hG dX12_cut_1 ki_0 ?_
  refine q_iconst (pc := 2) hG dX12_cut_2 ki_1 ?_
  refine q_pS (pc := 3) [.int x1, .int 0, .int 1] [] hG (c_X12_in τ σ x1 0 1 hI) my_X12_in w778 w777 dX12_cut_3 rfl rfl (Nat.le_of_ble_eq_true rfl) (by decide) (fun v3 p3 => ?_)
  refine q_if_eq (pc := 6) hG 29 dX12_cut_6 rfl ?_ ?_
  · intro c6
    refine q_iconst (pc := 29) hG dX12_cut_29 ki_m1 ?_
    exact q_irt hG hE dX12_cut_30 ⟨hS0, (q_r.mono rl_m1 (by decide))⟩
  intro c6
  have g_1 := p3.2.2.mp (q_one p3.1 c6)
  have r_2 := q_rge (q_r_any x1) rl_0 g_1.1
  refine q_iload_n (pc := 9) hG dX12_cut_9 2 rfl ?_
  refine q_iconst (pc := 10) hG dX12_cut_10 ki_1 ?_
  refine q_bipush (pc := 11) hG dX12_cut_11 kb_9 ?_
  refine q_pS (pc := 13) [.int x2, .int 1, .int 9] [] hG (c_X12_in τ σ x2 1 9 hI) my_X12_in w778 w777 dX12_cut_13 rfl rfl (Nat.le_of_ble_eq_true rfl) (by decide) (fun v13 p13 => ?_)
  refine q_if_eq (pc := 16) hG 29 dX12_cut_16 rfl ?_ ?_
  · intro c16
    refine q_iconst (pc := 29) hG dX12_cut_29 ki_m1 ?_
    exact q_irt hG hE dX12_cut_30 ⟨hS0, (q_r.mono rl_m1 (by decide))⟩
  intro c16
  have g_3 := p13.2.2.mp (q_one p13.1 c16)
  have r_4 := q_rge (q_r_any x2) rl_1 g_3.1
  refine q_iload_n (pc := 19) hG dX12_cut_19 3 rfl ?_
  refine q_iconst (pc := 20) hG dX12_cut_20 ki_0 ?_
  refine q_bipush (pc := 21) hG dX12_cut_21 kb_63 ?_
  refine q_pS (pc := 23) [.int x3, .int 0, .int 63] [] hG (c_X12_in τ σ x3 0 63 hI) my_X12_in w778 w777 dX12_cut_23 rfl rfl (Nat.le_of_ble_eq_true rfl) (by decide) (fun v23 p23 => ?_)
  refine q_if_ne (pc := 26) hG 31 dX12_cut_26 rfl ?_ ?_
  · intro c26
    have g_5 := p23.2.2.mp (q_one p23.1 c26)
    have r_6 := q_rge (q_r_any x3) rl_0 g_5.1
    refine q_iconst (pc := 31) hG dX12_cut_31 ki_0 ?_
    refine q_istore (pc := 32) [(4, .int 0), (0, .ref a0), (1, .int x1), (2, .int x2), (3, .int x3)] hG dX12_cut_32 (by decide) rfl ?_
    refine q_iconst (pc := 34) hG dX12_cut_34 ki_0 ?_
    refine q_istore (pc := 35) [(5, .int 0), (4, .int 0), (0, .ref a0), (1, .int x1), (2, .int x2), (3, .int x3)] hG dX12_cut_35 (by decide) rfl ?_
    have J37 : ∀ (n37 : Nat) (p37_4 : Int32) (p37_5 : Int32) (σ37 : q_V), (q_r p37_5 0 64) → (q_S md_X12_cut τ σ σ37) → ((64 - p37_5.toInt).toNat < n37) → q_O X 0 0 τ σ37 37 [(0, .ref a0), (1, .int x1), (2, .int x2), (3, .int x3), (4, .int p37_4), (5, .int p37_5)] [] := by
      intro n37
      induction n37 with
      | zero => intro p37_4 p37_5 σ37 r37_5 hS37 hm37; exact absurd hm37 (Nat.not_lt_zero _)
      | succ n37 ih37 =>
        intro p37_4 p37_5 σ37 r37_5 hS37 hm37
        refine q_iload (pc := 37) hG dX12_cut_37 5 rfl ?_
        refine q_aload_n (pc := 39) hG dX12_cut_39 0 rfl ?_
        refine q_getR (pc := 40) (k2 := 100) (n2 := 549) hG fl_X12_7 dX12_cut_40 hS37.1 tA0 ff_10_0 (fun b40 f40 T40 => ?_)
        have f_7 := (hS37.2 _ _ _ _ tA0 rfl).symm.trans f40
        refine q_sipush (pc := 43) hG dX12_cut_43 ks_512 ?_
        refine q_naldc (pc := 46) (a1 := 8) (a2 := 64) hG dX12_cut_46 hS37.1 T40 (q_ix rl_512 (by decide)) rfl (fun v46 f46 g46 => ?_)
        have f_8 := (hS37.2 _ _ _ _ T40 rfl).symm.trans f46
        refine q_icmp_ge (pc := 47) hG 91 dX12_cut_47 rfl ?_ ?_
        · intro c47
          refine q_iload (pc := 91) hG dX12_cut_91 4 rfl ?_
          exact q_irt hG hE dX12_cut_93 ⟨hS37, (q_r_any p37_4)⟩
        intro c47
        refine q_aload_n (pc := 50) hG dX12_cut_50 0 rfl ?_
        refine q_iload (pc := 51) hG dX12_cut_51 5 rfl ?_
        refine q_iload_n (pc := 53) hG dX12_cut_53 1 rfl ?_
        refine q_iload_n (pc := 54) hG dX12_cut_54 2 rfl ?_
        refine q_aload_n (pc := 55) hG dX12_cut_55 0 rfl ?_
        refine q_iload (pc := 56) hG dX12_cut_56 5 rfl ?_
        have r_9 := q_rlt r37_5 g46 c47 63 (by decide)
        refine q_cVi (pc := 58) [.int p37_5] [.int x2, .int x1, .int p37_5, .ref a0] hG (c_X12_mustSee τ σ37 a0 p37_5 hS37.1 tA0 r_9 (q_wf.keep hI hS37.2 tA0 rfl hW)) my_X12_mustSee mv_X12_mustSee w1091 dX12_cut_58 tA0 (by decide) rfl rfl (Nat.le_of_ble_eq_true rfl) (by decide) (fun v58 s58 p58 => ?_)
        have w58 := hS37.trans p58.1 rfl
        have r_10 := q_rle r_2 rl_1 g_1.2
        refine q_pV (pc := 61) [.int p37_5, .int x1, .int x2, .int v58] [] hG (c_X12_isEnough τ s58 a0 p37_5 x1 x2 v58 w58.1 tA0 r_9 r_10) my_X12_isEnough mv_X12_isEnough w1094 dX12_cut_61 tA0 (by decide) rfl rfl (Nat.le_of_ble_eq_true rfl) (by decide) (fun v61 p61 => ?_)
        have J85 : ∀ (p85_4 : Int32), q_O X 0 0 τ s58 85 [(0, .ref a0), (1, .int x1), (2, .int x2), (3, .int x3), (4, .int p85_4), (5, .int p37_5)] [] := by
          intro p85_4
          obtain ⟨v85, e85⟩ : ∃ z : Int32, z = p37_5 + Int32.ofInt 1 := ⟨_, rfl⟩
          have h85 := q_incN (lo := 1) (hi := 64) r_9 (by decide) (by decide) e85
          refine q_iinc (pc := 85) [(5, .int v85), (0, .ref a0), (1, .int x1), (2, .int x2), (3, .int x3), (4, .int p85_4)] hG dX12_cut_85 5 rfl e85 (by decide) rfl ?_
          refine q_goto (pc := 88) 37 hG dX12_cut_88 rfl ?_
          refine q_lv [1, 2, 3, 4, 5, 0] rfl ?_
          exact ih37 p85_4 v85 s58 (q_r.mono h85.2 (by decide)) w58 (q_measU hm37 (by have o0 := c47; have o1 := h85.1; have o2 := r_9; have o3 := g46; have o4 := h85.2; unfold q_r at o2 o3 o4; omega) (h85.2).2)
        refine q_if_ne (pc := 64) hG 85 dX12_cut_64 rfl ?_ ?_
        · intro c64
          refine q_lv [0, 1, 2, 3, 4, 5] rfl ?_
          exact J85 p37_4
        intro c64
        refine q_aload_n (pc := 67) hG dX12_cut_67 0 rfl ?_
        refine q_iload (pc := 68) hG dX12_cut_68 5 rfl ?_
        refine q_iload_n (pc := 70) hG dX12_cut_70 1 rfl ?_
        refine q_iload_n (pc := 71) hG dX12_cut_71 2 rfl ?_
        refine q_iload_n (pc := 72) hG dX12_cut_72 3 rfl ?_
        refine q_pV (pc := 73) [.int p37_5, .int x1, .int x2, .int x3] [] hG (c_X12_isEnough τ s58 a0 p37_5 x1 x2 x3 w58.1 tA0 r_9 r_10) my_X12_isEnough mv_X12_isEnough w1094 dX12_cut_73 tA0 (by decide) rfl rfl (Nat.le_of_ble_eq_true rfl) (by decide) (fun v73 p73 => ?_)
        refine q_if_eq (pc := 76) hG 85 dX12_cut_76 rfl ?_ ?_
        · intro c76
          refine q_lv [0, 1, 2, 3, 4, 5] rfl ?_
          exact J85 p37_4
        intro c76
        refine q_iload (pc := 79) hG dX12_cut_79 4 rfl ?_
        refine q_iconst (pc := 81) hG dX12_cut_81 ki_1 ?_
        refine q_iadd (pc := 82) hG dX12_cut_82 (fun v82 e82 => ?_)
        refine q_istore (pc := 83) [(4, .int v82), (0, .ref a0), (1, .int x1), (2, .int x2), (3, .int x3), (5, .int p37_5)] hG dX12_cut_83 (by decide) rfl ?_
        refine q_lv [1, 2, 3, 4, 0, 5] rfl ?_
        exact J85 v82
    refine q_lv [2, 3, 4, 5, 1, 0] rfl ?_
    exact J37 _ 0 0 σ (q_r.mono rl_0 (by decide)) hS0 (Nat.lt_succ_self _)
  intro c26
  refine q_iconst (pc := 29) hG dX12_cut_29 ki_m1 ?_
  exact q_irt hG hE dX12_cut_30 ⟨hS0, (q_r.mono rl_m1 (by decide))⟩
theorem dX12_joins_0 : decode cX12_joins 0 = .ok (.iload_n 1, 1) := by decide +kernel
theorem dX12_joins_1 : decode cX12_joins 1 = .ok (.bipush (-99), 2) := by decide +kernel
theorem dX12_joins_3 : decode cX12_joins 3 = .ok (.bipush 99, 2) := by decide +kernel
theorem dX12_joins_5 : decode cX12_joins 5 = .ok (.invokestatic 102, 3) := by decide +kernel
theorem dX12_joins_8 : decode cX12_joins 8 = .ok (.ifCond .eq 24, 3) := by decide +kernel
theorem dX12_joins_11 : decode cX12_joins 11 = .ok (.iload_n 2, 1) := by decide +kernel
theorem dX12_joins_12 : decode cX12_joins 12 = .ok (.bipush (-99), 2) := by decide +kernel
theorem dX12_joins_14 : decode cX12_joins 14 = .ok (.bipush 99, 2) := by decide +kernel
theorem dX12_joins_16 : decode cX12_joins 16 = .ok (.invokestatic 102, 3) := by decide +kernel
theorem dX12_joins_19 : decode cX12_joins 19 = .ok (.ifCond .eq 13, 3) := by decide +kernel
theorem dX12_joins_22 : decode cX12_joins 22 = .ok (.iload_n 3, 1) := by decide +kernel
theorem dX12_joins_23 : decode cX12_joins 23 = .ok (.iconst 0, 1) := by decide +kernel
theorem dX12_joins_24 : decode cX12_joins 24 = .ok (.bipush 9, 2) := by decide +kernel
theorem dX12_joins_26 : decode cX12_joins 26 = .ok (.invokestatic 102, 3) := by decide +kernel
theorem dX12_joins_29 : decode cX12_joins 29 = .ok (.ifCond .ne 5, 3) := by decide +kernel
theorem dX12_joins_32 : decode cX12_joins 32 = .ok (.iconst (-1), 1) := by decide +kernel
theorem dX12_joins_33 : decode cX12_joins 33 = .ok (.ireturn, 1) := by decide +kernel
theorem dX12_joins_34 : decode cX12_joins 34 = .ok (.iload_n 2, 1) := by decide +kernel
theorem dX12_joins_35 : decode cX12_joins 35 = .ok (.iload_n 1, 1) := by decide +kernel
theorem dX12_joins_36 : decode cX12_joins 36 = .ok (.isub, 1) := by decide +kernel
theorem dX12_joins_37 : decode cX12_joins 37 = .ok (.invokestatic 218, 3) := by decide +kernel
theorem dX12_joins_40 : decode cX12_joins 40 = .ok (.istore 4, 2) := by decide +kernel
theorem dX12_joins_42 : decode cX12_joins 42 = .ok (.iload 4, 2) := by decide +kernel
theorem dX12_joins_44 : decode cX12_joins 44 = .ok (.ifCond .ne 5, 3) := by decide +kernel
theorem dX12_joins_47 : decode cX12_joins 47 = .ok (.iconst 0, 1) := by decide +kernel
theorem dX12_joins_48 : decode cX12_joins 48 = .ok (.ireturn, 1) := by decide +kernel
theorem dX12_joins_49 : decode cX12_joins 49 = .ok (.iload_n 3, 1) := by decide +kernel
theorem dX12_joins_50 : decode cX12_joins 50 = .ok (.ifCond .ne 8, 3) := by decide +kernel
theorem dX12_joins_53 : decode cX12_joins 53 = .ok (.bipush (-2), 2) := by decide +kernel
theorem dX12_joins_55 : decode cX12_joins 55 = .ok (.goto 13, 3) := by decide +kernel
theorem dX12_joins_58 : decode cX12_joins 58 = .ok (.iload 4, 2) := by decide +kernel
theorem dX12_joins_60 : decode cX12_joins 60 = .ok (.iload_n 3, 1) := by decide +kernel
theorem dX12_joins_61 : decode cX12_joins 61 = .ok (.iadd, 1) := by decide +kernel
theorem dX12_joins_62 : decode cX12_joins 62 = .ok (.iconst 1, 1) := by decide +kernel
theorem dX12_joins_63 : decode cX12_joins 63 = .ok (.isub, 1) := by decide +kernel
theorem dX12_joins_64 : decode cX12_joins 64 = .ok (.iload_n 3, 1) := by decide +kernel
theorem dX12_joins_65 : decode cX12_joins 65 = .ok (.idiv, 1) := by decide +kernel
theorem dX12_joins_66 : decode cX12_joins 66 = .ok (.iconst 1, 1) := by decide +kernel
theorem dX12_joins_67 : decode cX12_joins 67 = .ok (.isub, 1) := by decide +kernel
theorem dX12_joins_68 : decode cX12_joins 68 = .ok (.ireturn, 1) := by decide +kernel
set_option maxRecDepth 100000 in
set_option maxHeartbeats 4000000 in
theorem c_X12_joins {l : Launch} {D : q_D} (τ : q_T) (σ : q_V) (a0 : Nat) (x1 : Int32) (x2 : Int32) (x3 : Int32) (hI : q_I τ σ) (tA0 : τ a0 = some (10, 1)) : q_Cp l D yX12_joins cX12_joins 5 (some .int) 1 22 τ σ [.ref a0, .int x1, .int x2, .int x3] (fun r => q_r r (-2) 205) := by
  refine q_meti rfl (Nat.le_of_ble_eq_true rfl) (fun X hG hE => ?_)
  show q_O X 0 0 τ σ 0 [(0, .ref a0), (1, .int x1), (2, .int x2), (3, .int x3)] []
  refine q_iload_n (pc := 0) hG dX12_joins_0 1 rfl ?_
  refine q_bipush (pc := 1) hG dX12_joins_1 kb_m99 ?_
  refine q_bipush (pc := 3) hG dX12_joins_3 kb_99 ?_
  refine q_pS (pc := 5) [.int x1, .int (-99), .int 99] [] hG (c_X12_in τ σ x1 (-99) 99 hI) my_X12_in w778 w777 dX12_joins_5 rfl rfl (Nat.le_of_ble_eq_true rfl) (by decide) (fun v5 p5 => ?_)
  refine q_if_eq (pc := 8) hG 32 dX12_joins_8 rfl ?_ ?_
  · intro c8
    refine q_iconst (pc := 32) hG dX12_joins_32 ki_m1 ?_
    exact q_irt hG hE dX12_joins_33 ⟨rfl, (q_r.mono rl_m1 (by decide))⟩
  intro c8
  have g_1 := p5.2.2.mp (q_one p5.1 c8)
  have r_2 := q_rge (q_r_any x1) rl_m99 g_1.1
  refine q_iload_n (pc := 11) hG dX12_joins_11 2 rfl ?_
  refine q_bipush (pc := 12) hG dX12_joins_12 kb_m99 ?_
  refine q_bipush (pc := 14) hG dX12_joins_14 kb_99 ?_
  refine q_pS (pc := 16) [.int x2, .int (-99), .int 99] [] hG (c_X12_in τ σ x2 (-99) 99 hI) my_X12_in w778 w777 dX12_joins_16 rfl rfl (Nat.le_of_ble_eq_true rfl) (by decide) (fun v16 p16 => ?_)
  refine q_if_eq (pc := 19) hG 32 dX12_joins_19 rfl ?_ ?_
  · intro c19
    refine q_iconst (pc := 32) hG dX12_joins_32 ki_m1 ?_
    exact q_irt hG hE dX12_joins_33 ⟨rfl, (q_r.mono rl_m1 (by decide))⟩
  intro c19
  have g_3 := p16.2.2.mp (q_one p16.1 c19)
  have r_4 := q_rge (q_r_any x2) rl_m99 g_3.1
  refine q_iload_n (pc := 22) hG dX12_joins_22 3 rfl ?_
  refine q_iconst (pc := 23) hG dX12_joins_23 ki_0 ?_
  refine q_bipush (pc := 24) hG dX12_joins_24 kb_9 ?_
  refine q_pS (pc := 26) [.int x3, .int 0, .int 9] [] hG (c_X12_in τ σ x3 0 9 hI) my_X12_in w778 w777 dX12_joins_26 rfl rfl (Nat.le_of_ble_eq_true rfl) (by decide) (fun v26 p26 => ?_)
  refine q_if_ne (pc := 29) hG 34 dX12_joins_29 rfl ?_ ?_
  · intro c29
    have g_5 := p26.2.2.mp (q_one p26.1 c29)
    have r_6 := q_rge (q_r_any x3) rl_0 g_5.1
    refine q_iload_n (pc := 34) hG dX12_joins_34 2 rfl ?_
    refine q_iload_n (pc := 35) hG dX12_joins_35 1 rfl ?_
    refine q_isub (pc := 36) hG dX12_joins_36 (fun v36 e36 => ?_)
    have r_7 := q_rle r_4 rl_99 g_3.2
    have r_8 := q_rle r_2 rl_99 g_1.2
    refine q_pS (pc := 37) [.int v36] [] hG (c_X12_size τ σ v36 hI) my_X12_size w895 w894 dX12_joins_37 rfl rfl (Nat.le_of_ble_eq_true rfl) (by decide) (fun v37 p37 => ?_)
    have r_9 := (q_subN (lo := (-198)) (hi := 198) e36 r_7 r_8 (by decide)).2
    refine q_istore (pc := 40) [(4, .int v37), (0, .ref a0), (1, .int x1), (2, .int x2), (3, .int x3)] hG dX12_joins_40 (by decide) rfl ?_
    refine q_iload (pc := 42) hG dX12_joins_42 0 rfl ?_
    refine q_if_ne (pc := 44) hG 49 dX12_joins_44 rfl ?_ ?_
    · intro c44
      have r_10 := q_absN (lo := 0) (hi := 198) p37.2.2.1 r_9 (by decide)
      refine q_iload_n (pc := 49) hG dX12_joins_49 4 rfl ?_
      refine q_if_ne (pc := 50) hG 58 dX12_joins_50 rfl ?_ ?_
      · intro c50
        have r_11 := q_rle r_6 rl_9 g_5.2
        refine q_iload (pc := 58) hG dX12_joins_58 0 rfl ?_
        refine q_iload_n (pc := 60) hG dX12_joins_60 4 rfl ?_
        refine q_iadd (pc := 61) hG dX12_joins_61 (fun v61 e61 => ?_)
        have r_12 := q_neL (c := 1) r_10 c44 (by decide)
        have r_13 := q_neL (c := 1) r_11 c50 (by decide)
        refine q_iconst (pc := 62) hG dX12_joins_62 ki_1 ?_
        refine q_isub (pc := 63) hG dX12_joins_63 (fun v63 e63 => ?_)
        have r_14 := (q_addN (lo := 2) (hi := 207) e61 r_12 r_13 (by decide)).2
        refine q_iload_n (pc := 64) hG dX12_joins_64 4 rfl ?_
        refine q_idiv (pc := 65) hG dX12_joins_65 (q_nzr r_13 (by decide)) (fun v65 e65 => ?_)
        have r_15 := (q_subN (lo := 1) (hi := 206) e63 r_14 rl_1 (by decide)).2
        refine q_iconst (pc := 66) hG dX12_joins_66 ki_1 ?_
        refine q_isub (pc := 67) hG dX12_joins_67 (fun v67 e67 => ?_)
        have r_16 := (q_divN (lo := 0) (hi := 206) e65 r_15 r_13 (by decide)).2
        have r_17 := (q_subN (lo := (-1)) (hi := 205) e67 r_16 rl_1 (by decide)).2
        exact q_irt hG hE dX12_joins_68 ⟨rfl, (q_r.mono r_17 (by decide))⟩
      intro c50
      have r_18 := q_rle r_6 rl_9 g_5.2
      refine q_bipush (pc := 53) hG dX12_joins_53 kb_m2 ?_
      refine q_goto (pc := 55) 68 hG dX12_joins_55 rfl ?_
      exact q_irt hG hE dX12_joins_68 ⟨rfl, (q_r.mono rl_m2 (by decide))⟩
    intro c44
    have r_19 := q_absN (lo := 0) (hi := 198) p37.2.2.1 r_9 (by decide)
    refine q_iconst (pc := 47) hG dX12_joins_47 ki_0 ?_
    exact q_irt hG hE dX12_joins_48 ⟨rfl, (q_r.mono rl_0 (by decide))⟩
  intro c29
  refine q_iconst (pc := 32) hG dX12_joins_32 ki_m1 ?_
  exact q_irt hG hE dX12_joins_33 ⟨rfl, (q_r.mono rl_m1 (by decide))⟩
theorem dX12_startsOne_0 : decode cX12_startsOne 0 = .ok (.aload_n 0, 1) := by decide +kernel
theorem dX12_startsOne_1 : decode cX12_startsOne 1 = .ok (.getfield 86, 3) := by decide +kernel
theorem dX12_startsOne_4 : decode cX12_startsOne 4 = .ok (.iload_n 1, 1) := by decide +kernel
theorem dX12_startsOne_5 : decode cX12_startsOne 5 = .ok (.iaload, 1) := by decide +kernel
theorem dX12_startsOne_6 : decode cX12_startsOne 6 = .ok (.iconst (-1), 1) := by decide +kernel
theorem dX12_startsOne_7 : decode cX12_startsOne 7 = .ok (.if_icmp .ne 14, 3) := by decide +kernel
theorem dX12_startsOne_10 : decode cX12_startsOne 10 = .ok (.aload_n 0, 1) := by decide +kernel
theorem dX12_startsOne_11 : decode cX12_startsOne 11 = .ok (.getfield 356, 3) := by decide +kernel
theorem dX12_startsOne_14 : decode cX12_startsOne 14 = .ok (.aload_n 0, 1) := by decide +kernel
theorem dX12_startsOne_15 : decode cX12_startsOne 15 = .ok (.getfield 359, 3) := by decide +kernel
theorem dX12_startsOne_18 : decode cX12_startsOne 18 = .ok (.if_icmp .le 4, 3) := by decide +kernel
theorem dX12_startsOne_21 : decode cX12_startsOne 21 = .ok (.return_, 1) := by decide +kernel
theorem dX12_startsOne_22 : decode cX12_startsOne 22 = .ok (.aload_n 0, 1) := by decide +kernel
theorem dX12_startsOne_23 : decode cX12_startsOne 23 = .ok (.getfield 86, 3) := by decide +kernel
theorem dX12_startsOne_26 : decode cX12_startsOne 26 = .ok (.iload_n 1, 1) := by decide +kernel
theorem dX12_startsOne_27 : decode cX12_startsOne 27 = .ok (.iload_n 1, 1) := by decide +kernel
theorem dX12_startsOne_28 : decode cX12_startsOne 28 = .ok (.ifCond .ne 10, 3) := by decide +kernel
theorem dX12_startsOne_31 : decode cX12_startsOne 31 = .ok (.aload_n 0, 1) := by decide +kernel
theorem dX12_startsOne_32 : decode cX12_startsOne 32 = .ok (.getfield 356, 3) := by decide +kernel
theorem dX12_startsOne_35 : decode cX12_startsOne 35 = .ok (.goto 7, 3) := by decide +kernel
theorem dX12_startsOne_38 : decode cX12_startsOne 38 = .ok (.aload_n 0, 1) := by decide +kernel
theorem dX12_startsOne_39 : decode cX12_startsOne 39 = .ok (.getfield 359, 3) := by decide +kernel
theorem dX12_startsOne_42 : decode cX12_startsOne 42 = .ok (.iastore, 1) := by decide +kernel
theorem dX12_startsOne_43 : decode cX12_startsOne 43 = .ok (.iload_n 1, 1) := by decide +kernel
theorem dX12_startsOne_44 : decode cX12_startsOne 44 = .ok (.ifCond .ne 16, 3) := by decide +kernel
theorem dX12_startsOne_47 : decode cX12_startsOne 47 = .ok (.aload_n 0, 1) := by decide +kernel
theorem dX12_startsOne_48 : decode cX12_startsOne 48 = .ok (.aload_n 0, 1) := by decide +kernel
theorem dX12_startsOne_49 : decode cX12_startsOne 49 = .ok (.getfield 356, 3) := by decide +kernel
theorem dX12_startsOne_52 : decode cX12_startsOne 52 = .ok (.iconst 1, 1) := by decide +kernel
theorem dX12_startsOne_53 : decode cX12_startsOne 53 = .ok (.iadd, 1) := by decide +kernel
theorem dX12_startsOne_54 : decode cX12_startsOne 54 = .ok (.putfield 356, 3) := by decide +kernel
theorem dX12_startsOne_57 : decode cX12_startsOne 57 = .ok (.goto 13, 3) := by decide +kernel
theorem dX12_startsOne_60 : decode cX12_startsOne 60 = .ok (.aload_n 0, 1) := by decide +kernel
theorem dX12_startsOne_61 : decode cX12_startsOne 61 = .ok (.aload_n 0, 1) := by decide +kernel
theorem dX12_startsOne_62 : decode cX12_startsOne 62 = .ok (.getfield 359, 3) := by decide +kernel
theorem dX12_startsOne_65 : decode cX12_startsOne 65 = .ok (.iconst 1, 1) := by decide +kernel
theorem dX12_startsOne_66 : decode cX12_startsOne 66 = .ok (.isub, 1) := by decide +kernel
theorem dX12_startsOne_67 : decode cX12_startsOne 67 = .ok (.putfield 359, 3) := by decide +kernel
theorem dX12_startsOne_70 : decode cX12_startsOne 70 = .ok (.aload_n 0, 1) := by decide +kernel
theorem dX12_startsOne_71 : decode cX12_startsOne 71 = .ok (.getfield 80, 3) := by decide +kernel
theorem dX12_startsOne_74 : decode cX12_startsOne 74 = .ok (.aload_n 0, 1) := by decide +kernel
theorem dX12_startsOne_75 : decode cX12_startsOne 75 = .ok (.getfield 86, 3) := by decide +kernel
theorem dX12_startsOne_78 : decode cX12_startsOne 78 = .ok (.iload_n 1, 1) := by decide +kernel
theorem dX12_startsOne_79 : decode cX12_startsOne 79 = .ok (.iaload, 1) := by decide +kernel
theorem dX12_startsOne_80 : decode cX12_startsOne 80 = .ok (.iload_n 2, 1) := by decide +kernel
theorem dX12_startsOne_81 : decode cX12_startsOne 81 = .ok (.iastore, 1) := by decide +kernel
theorem dX12_startsOne_82 : decode cX12_startsOne 82 = .ok (.aload_n 0, 1) := by decide +kernel
theorem dX12_startsOne_83 : decode cX12_startsOne 83 = .ok (.getfield 89, 3) := by decide +kernel
theorem dX12_startsOne_86 : decode cX12_startsOne 86 = .ok (.iload_n 1, 1) := by decide +kernel
theorem dX12_startsOne_87 : decode cX12_startsOne 87 = .ok (.aload_n 0, 1) := by decide +kernel
theorem dX12_startsOne_88 : decode cX12_startsOne 88 = .ok (.aload_n 0, 1) := by decide +kernel
theorem dX12_startsOne_89 : decode cX12_startsOne 89 = .ok (.getfield 86, 3) := by decide +kernel
theorem dX12_startsOne_92 : decode cX12_startsOne 92 = .ok (.iload_n 1, 1) := by decide +kernel
theorem dX12_startsOne_93 : decode cX12_startsOne 93 = .ok (.iaload, 1) := by decide +kernel
theorem dX12_startsOne_94 : decode cX12_startsOne 94 = .ok (.iload_n 2, 1) := by decide +kernel
theorem dX12_startsOne_95 : decode cX12_startsOne 95 = .ok (.iload_n 1, 1) := by decide +kernel
theorem dX12_startsOne_96 : decode cX12_startsOne 96 = .ok (.invokevirtual 269, 3) := by decide +kernel
theorem dX12_startsOne_99 : decode cX12_startsOne 99 = .ok (.iastore, 1) := by decide +kernel
theorem dX12_startsOne_100 : decode cX12_startsOne 100 = .ok (.return_, 1) := by decide +kernel
def md_X12_startsOne_0 : List (Nat × Nat) := [(10, 39), (162, 0), (163, 0), (169, 0), (171, 0), (172, 0)]
set_option maxRecDepth 100000 in
set_option maxHeartbeats 4000000 in
theorem c_X12_startsOne_0 {l : Launch} {D : q_D} (τ : q_T) (σ : q_V) (a0 : Nat) (x1 : Int32) (x2 : Int32) (hI : q_I τ σ) (tA0 : τ a0 = some (10, 1)) (rA1 : q_r x1 0 0) (hW : q_wf σ a0) (bd bl : Nat) (hbd : σ a0 37 = .ref bd) (hbl : σ a0 38 = .ref bl) (Tbd : τ bd = some (171, 2)) (Tbl : τ bl = some (172, 2)) (L H d0 d1 l0 l1 : Int32) (hp : q_pb σ a0 bd bl L H d0 d1 l0 l1) : q_Cv l D yX12_startsOne cX12_startsOne 3 none 4 97 τ σ [.ref a0, .int x1, .int x2] (fun σ1 => q_S md_X12_startsOne_0 τ σ σ1 ∧ (∃ L2 H2 d2 d3 l2 l3 : Int32, q_pb σ1 a0 bd bl L2 H2 d2 d3 l2 l3 ∧ q_ps0 L.toInt H.toInt d0.toInt d1.toInt l0.toInt l1.toInt L2.toInt H2.toInt d2.toInt d3.toInt l2.toInt l3.toInt)) := by
  refine q_metv rfl (Nat.le_of_ble_eq_true rfl) (fun X hG hE => ?_)
  show q_O X 0 0 τ σ 0 [(0, .ref a0), (1, .int x1), (2, .int x2)] []
  have hS0 : q_S md_X12_startsOne_0 τ σ σ := q_S.rf hI
  obtain rfl : x1 = 0 := q_is0 rA1
  have hr6 := hp.rng hI tA0 Tbd
  obtain ⟨hp1, hp2, hp3, hp4, hp5, hp6⟩ := hp
  refine q_aload_n (pc := 0) hG dX12_startsOne_0 0 rfl ?_
  refine q_getV (pc := 1) (v := .ref bd) hG fl_X12_86 dX12_startsOne_1 tA0 hbd ?_
  refine q_iload_n (pc := 4) hG dX12_startsOne_4 1 rfl ?_
  refine q_ialdV (pc := 5) (v := .int d0) hG dX12_startsOne_5 Tbd (by decide) (by decide) (q_ix rl_0 (by decide)) hp3 ?_
  refine q_iconst (pc := 6) hG dX12_startsOne_6 ki_m1 ?_
  refine q_icmp_ne (pc := 7) hG 21 dX12_startsOne_7 rfl ?_ ?_
  · intro c7
    have r_1 := q_neL (c := 0) hr6.2.2.1 (q_nel c7 tl_m1) (by decide)
    exact q_vrt hG hE dX12_startsOne_21 ⟨hS0, ⟨L, H, d0, d1, l0, l1, ⟨hp1, hp2, hp3, hp4, hp5, hp6⟩, Or.inl ⟨rfl, rfl, rfl, rfl, rfl, rfl, (by have o0 := c7; have o1 := hr6.2.1; have o2 := hr6.1; have o3 := r_1; have l4 := tl_m1; unfold q_r at o1 o2 o3; omega)⟩⟩⟩
  intro c7
  refine q_aload_n (pc := 10) hG dX12_startsOne_10 0 rfl ?_
  refine q_getV (pc := 11) (v := .int L) hG fl_X12_356 dX12_startsOne_11 tA0 hp1 ?_
  refine q_aload_n (pc := 14) hG dX12_startsOne_14 0 rfl ?_
  refine q_getV (pc := 15) (v := .int H) hG fl_X12_359 dX12_startsOne_15 tA0 hp2 ?_
  refine q_icmp_le (pc := 18) hG 22 dX12_startsOne_18 rfl ?_ ?_
  · intro c18
    refine q_aload_n (pc := 22) hG dX12_startsOne_22 0 rfl ?_
    refine q_getV (pc := 23) (v := .ref bd) hG fl_X12_86 dX12_startsOne_23 tA0 hbd ?_
    refine q_iload_n (pc := 26) hG dX12_startsOne_26 1 rfl ?_
    refine q_iload_n (pc := 27) hG dX12_startsOne_27 1 rfl ?_
    refine q_if_ne (pc := 28) hG 38 dX12_startsOne_28 rfl ?_ ?_
    · intro c28
      exact absurd c28 (by have l0 := tl_0; omega)
    intro c28
    refine q_aload_n (pc := 31) hG dX12_startsOne_31 0 rfl ?_
    refine q_getV (pc := 32) (v := .int L) hG fl_X12_356 dX12_startsOne_32 tA0 hp1 ?_
    refine q_goto (pc := 35) 42 hG dX12_startsOne_35 rfl ?_
    have r_2 := q_rle hr6.1 hr6.2.1 c18
    refine q_iast (pc := 42) hG dX12_startsOne_42 hS0 ai_171 Tbd (q_ix rl_0 (by decide)) r_2 (by decide) rfl (fun s42 u42 w42 => ?_)
    have m42 : s42 bd (0 : Int32).toInt.toNat = .int L := by rw [u42]; exact q_up_same
    refine q_iload_n (pc := 43) hG dX12_startsOne_43 1 rfl ?_
    refine q_if_ne (pc := 44) hG 60 dX12_startsOne_44 rfl ?_ ?_
    · intro c44
      exact absurd c44 (by have l0 := tl_0; omega)
    intro c44
    refine q_aload_n (pc := 47) hG dX12_startsOne_47 0 rfl ?_
    refine q_aload_n (pc := 48) hG dX12_startsOne_48 0 rfl ?_
    refine q_getV (pc := 49) (v := .int L) hG fl_X12_356 dX12_startsOne_49 tA0 (by rw [u42]; exact (q_keepK tA0 Tbd (by decide)).trans hp1) ?_
    refine q_iconst (pc := 52) hG dX12_startsOne_52 ki_1 ?_
    refine q_iadd (pc := 53) hG dX12_startsOne_53 (fun v53 e53 => ?_)
    have r_3 := (q_addN (lo := 1) (hi := 64) e53 r_2 rl_1 (by decide)).2
    refine q_putI (pc := 54) hG fl_X12_356 dX12_startsOne_54 w42 tA0 ff_10_39 r_3 (by decide) rfl (fun s54 u54 w54 => ?_)
    have m54 : s54 a0 39 = .int v53 := by rw [u54]; exact q_up_same
    refine q_goto (pc := 57) 70 hG dX12_startsOne_57 rfl ?_
    refine q_aload_n (pc := 70) hG dX12_startsOne_70 0 rfl ?_
    refine q_getR (pc := 71) (k2 := 169) (n2 := 64) hG fl_X12_80 dX12_startsOne_71 w54.1 tA0 ff_10_35 (fun b71 f71 T71 => ?_)
    have f_4 := (w54.2 _ _ _ _ tA0 rfl).symm.trans f71
    refine q_aload_n (pc := 74) hG dX12_startsOne_74 0 rfl ?_
    refine q_getV (pc := 75) (v := .ref bd) hG fl_X12_86 dX12_startsOne_75 tA0 (w54.same tA0 rfl hbd) ?_
    refine q_iload_n (pc := 78) hG dX12_startsOne_78 1 rfl ?_
    refine q_ialdV (pc := 79) (v := .int L) hG dX12_startsOne_79 Tbd (by decide) (by decide) (q_ix rl_0 (by decide)) (by rw [u54]; exact (q_keepK Tbd tA0 (by decide)).trans m42) ?_
    refine q_iload_n (pc := 80) hG dX12_startsOne_80 2 rfl ?_
    refine q_iast (pc := 81) hG dX12_startsOne_81 w54 ai_169 T71 (q_ix r_2 (by decide)) (q_r_any x2) (by decide) rfl (fun s81 u81 w81 => ?_)
    have m81 : s81 b71 L.toInt.toNat = .int x2 := by rw [u81]; exact q_up_same
    refine q_aload_n (pc := 82) hG dX12_startsOne_82 0 rfl ?_
    refine q_getV (pc := 83) (v := .ref bl) hG fl_X12_89 dX12_startsOne_83 tA0 (w81.same tA0 rfl hbl) ?_
    refine q_iload_n (pc := 86) hG dX12_startsOne_86 1 rfl ?_
    refine q_aload_n (pc := 87) hG dX12_startsOne_87 0 rfl ?_
    refine q_aload_n (pc := 88) hG dX12_startsOne_88 0 rfl ?_
    refine q_getV (pc := 89) (v := .ref bd) hG fl_X12_86 dX12_startsOne_89 tA0 (w81.same tA0 rfl hbd) ?_
    refine q_iload_n (pc := 92) hG dX12_startsOne_92 1 rfl ?_
    refine q_ialdV (pc := 93) (v := .int L) hG dX12_startsOne_93 Tbd (by decide) (by decide) (q_ix rl_0 (by decide)) (by rw [u81]; exact (q_keepK Tbd T71 (by decide)).trans (by rw [u54]; exact (q_keepK Tbd tA0 (by decide)).trans m42)) ?_
    refine q_iload_n (pc := 94) hG dX12_startsOne_94 2 rfl ?_
    refine q_iload_n (pc := 95) hG dX12_startsOne_95 1 rfl ?_
    refine q_cVi (pc := 96) [.int L, .int x2, .int 0] [.int 0, .ref bl] hG (c_X12_paintsFor τ s81 a0 L x2 0 w81.1 tA0 r_2 (q_wf.keep hI w81.2 tA0 rfl hW)) my_X12_paintsFor mv_X12_paintsFor w978 dX12_startsOne_96 tA0 (by decide) rfl rfl (Nat.le_of_ble_eq_true rfl) (by decide) (fun v96 s96 p96 => ?_)
    have w96 := w81.trans p96.1 rfl
    refine q_iast (pc := 99) hG dX12_startsOne_99 w96 ai_172 Tbl (q_ix rl_0 (by decide)) p96.2.1 (by decide) rfl (fun s99 u99 w99 => ?_)
    have m99 : s99 bl (0 : Int32).toInt.toNat = .int v96 := by rw [u99]; exact q_up_same
    have r_5 := q_req rl_m1 c7
    have r_6 := q_rge hr6.2.1 hr6.1 c18
    exact q_vrt hG hE dX12_startsOne_100 ⟨w99, ⟨v53, H, L, d1, v96, l1, ⟨(by rw [u99]; exact (q_keepK tA0 Tbl (by decide)).trans (p96.1.same tA0 rfl (by rw [u81]; exact (q_keepK tA0 T71 (by decide)).trans m54))), (w99.same tA0 rfl hp2), (by rw [u99]; exact (q_keepK Tbd Tbl (by decide)).trans (p96.1.same Tbd rfl (by rw [u81]; exact (q_keepK Tbd T71 (by decide)).trans (by rw [u54]; exact (q_keepK Tbd tA0 (by decide)).trans m42)))), (by rw [u99]; exact (q_keepK Tbd Tbl (by decide)).trans (p96.1.same Tbd rfl (by rw [u81]; exact (q_keepK Tbd T71 (by decide)).trans (by rw [u54]; exact (q_keepK Tbd tA0 (by decide)).trans (by rw [u42]; exact (q_up_else (Or.inr (by decide))).trans hp4))))), m99, (by rw [u99]; exact (q_up_else (Or.inr (by decide))).trans (p96.1.same Tbl rfl (by rw [u81]; exact (q_keepK Tbl T71 (by decide)).trans (by rw [u54]; exact (q_keepK Tbl tA0 (by decide)).trans (by rw [u42]; exact (q_keepK Tbl Tbd (by decide)).trans hp6)))))⟩, Or.inr ⟨(by have o0 := c7; have o1 := r_5; have l2 := tl_m1; unfold q_r at o1; omega), (by have o0 := c18; have o1 := (q_addN (lo := 1) (hi := 64) e53 r_2 rl_1 (by decide)).1; have o2 := r_6; have o3 := r_2; have o4 := r_3; have l5 := tl_1; unfold q_r at o2 o3 o4; omega), (by have o0 := c18; have o1 := (q_addN (lo := 1) (hi := 64) e53 r_2 rl_1 (by decide)).1; have o2 := r_6; have o3 := r_2; have o4 := r_3; have l5 := tl_1; unfold q_r at o2 o3 o4; omega), rfl, (by have o0 := c18; have o1 := (q_addN (lo := 1) (hi := 64) e53 r_2 rl_1 (by decide)).1; have o2 := r_6; have o3 := r_2; have o4 := r_3; have l5 := tl_1; unfold q_r at o2 o3 o4; omega), rfl, (by have o0 := p96.2.1; unfold q_r at o0; omega), (by have o0 := p96.2.1; unfold q_r at o0; omega), rfl⟩⟩⟩
  intro c18
  have r_7 := q_req rl_m1 c7
  exact q_vrt hG hE dX12_startsOne_21 ⟨hS0, ⟨L, H, d0, d1, l0, l1, ⟨hp1, hp2, hp3, hp4, hp5, hp6⟩, Or.inl ⟨rfl, rfl, rfl, rfl, rfl, rfl, (by have o0 := c7; have o1 := c18; have o2 := hr6.2.1; have o3 := hr6.1; have o4 := r_7; have l5 := tl_m1; unfold q_r at o2 o3 o4; omega)⟩⟩⟩
def md_X12_startsOne_1 : List (Nat × Nat) := [(10, 40), (162, 0), (163, 0), (169, 0), (171, 0), (172, 0)]
set_option maxRecDepth 100000 in
set_option maxHeartbeats 4000000 in
theorem c_X12_startsOne_1 {l : Launch} {D : q_D} (τ : q_T) (σ : q_V) (a0 : Nat) (x1 : Int32) (x2 : Int32) (hI : q_I τ σ) (tA0 : τ a0 = some (10, 1)) (rA1 : q_r x1 1 1) (hW : q_wf σ a0) (bd bl : Nat) (hbd : σ a0 37 = .ref bd) (hbl : σ a0 38 = .ref bl) (Tbd : τ bd = some (171, 2)) (Tbl : τ bl = some (172, 2)) (L H d0 d1 l0 l1 : Int32) (hp : q_pb σ a0 bd bl L H d0 d1 l0 l1) : q_Cv l D yX12_startsOne cX12_startsOne 3 none 4 97 τ σ [.ref a0, .int x1, .int x2] (fun σ1 => q_S md_X12_startsOne_1 τ σ σ1 ∧ (∃ L2 H2 d2 d3 l2 l3 : Int32, q_pb σ1 a0 bd bl L2 H2 d2 d3 l2 l3 ∧ q_ps1 L.toInt H.toInt d0.toInt d1.toInt l0.toInt l1.toInt L2.toInt H2.toInt d2.toInt d3.toInt l2.toInt l3.toInt)) := by
  refine q_metv rfl (Nat.le_of_ble_eq_true rfl) (fun X hG hE => ?_)
  show q_O X 0 0 τ σ 0 [(0, .ref a0), (1, .int x1), (2, .int x2)] []
  have hS0 : q_S md_X12_startsOne_1 τ σ σ := q_S.rf hI
  obtain rfl : x1 = 1 := q_is1 rA1
  have hr6 := hp.rng hI tA0 Tbd
  obtain ⟨hp1, hp2, hp3, hp4, hp5, hp6⟩ := hp
  refine q_aload_n (pc := 0) hG dX12_startsOne_0 0 rfl ?_
  refine q_getV (pc := 1) (v := .ref bd) hG fl_X12_86 dX12_startsOne_1 tA0 hbd ?_
  refine q_iload_n (pc := 4) hG dX12_startsOne_4 1 rfl ?_
  refine q_ialdV (pc := 5) (v := .int d1) hG dX12_startsOne_5 Tbd (by decide) (by decide) (q_ix rl_1 (by decide)) hp4 ?_
  refine q_iconst (pc := 6) hG dX12_startsOne_6 ki_m1 ?_
  refine q_icmp_ne (pc := 7) hG 21 dX12_startsOne_7 rfl ?_ ?_
  · intro c7
    have r_1 := q_neL (c := 0) hr6.2.2.2 (q_nel c7 tl_m1) (by decide)
    exact q_vrt hG hE dX12_startsOne_21 ⟨hS0, ⟨L, H, d0, d1, l0, l1, ⟨hp1, hp2, hp3, hp4, hp5, hp6⟩, Or.inl ⟨rfl, rfl, rfl, rfl, rfl, rfl, (by have o0 := c7; have o1 := hr6.2.1; have o2 := hr6.1; have o3 := r_1; have l4 := tl_m1; unfold q_r at o1 o2 o3; omega)⟩⟩⟩
  intro c7
  refine q_aload_n (pc := 10) hG dX12_startsOne_10 0 rfl ?_
  refine q_getV (pc := 11) (v := .int L) hG fl_X12_356 dX12_startsOne_11 tA0 hp1 ?_
  refine q_aload_n (pc := 14) hG dX12_startsOne_14 0 rfl ?_
  refine q_getV (pc := 15) (v := .int H) hG fl_X12_359 dX12_startsOne_15 tA0 hp2 ?_
  refine q_icmp_le (pc := 18) hG 22 dX12_startsOne_18 rfl ?_ ?_
  · intro c18
    refine q_aload_n (pc := 22) hG dX12_startsOne_22 0 rfl ?_
    refine q_getV (pc := 23) (v := .ref bd) hG fl_X12_86 dX12_startsOne_23 tA0 hbd ?_
    refine q_iload_n (pc := 26) hG dX12_startsOne_26 1 rfl ?_
    refine q_iload_n (pc := 27) hG dX12_startsOne_27 1 rfl ?_
    refine q_if_ne (pc := 28) hG 38 dX12_startsOne_28 rfl ?_ ?_
    · intro c28
      refine q_aload_n (pc := 38) hG dX12_startsOne_38 0 rfl ?_
      refine q_getV (pc := 39) (v := .int H) hG fl_X12_359 dX12_startsOne_39 tA0 hp2 ?_
      have r_2 := q_rge hr6.2.1 hr6.1 c18
      refine q_iast (pc := 42) hG dX12_startsOne_42 hS0 ai_171 Tbd (q_ix rl_1 (by decide)) r_2 (by decide) rfl (fun s42 u42 w42 => ?_)
      have m42 : s42 bd (1 : Int32).toInt.toNat = .int H := by rw [u42]; exact q_up_same
      refine q_iload_n (pc := 43) hG dX12_startsOne_43 1 rfl ?_
      refine q_if_ne (pc := 44) hG 60 dX12_startsOne_44 rfl ?_ ?_
      · intro c44
        refine q_aload_n (pc := 60) hG dX12_startsOne_60 0 rfl ?_
        refine q_aload_n (pc := 61) hG dX12_startsOne_61 0 rfl ?_
        refine q_getV (pc := 62) (v := .int H) hG fl_X12_359 dX12_startsOne_62 tA0 (by rw [u42]; exact (q_keepK tA0 Tbd (by decide)).trans hp2) ?_
        refine q_iconst (pc := 65) hG dX12_startsOne_65 ki_1 ?_
        refine q_isub (pc := 66) hG dX12_startsOne_66 (fun v66 e66 => ?_)
        have r_3 := (q_subN (lo := (-1)) (hi := 62) e66 r_2 rl_1 (by decide)).2
        refine q_putI (pc := 67) hG fl_X12_359 dX12_startsOne_67 w42 tA0 ff_10_40 r_3 (by decide) rfl (fun s67 u67 w67 => ?_)
        have m67 : s67 a0 40 = .int v66 := by rw [u67]; exact q_up_same
        refine q_aload_n (pc := 70) hG dX12_startsOne_70 0 rfl ?_
        refine q_getR (pc := 71) (k2 := 169) (n2 := 64) hG fl_X12_80 dX12_startsOne_71 w67.1 tA0 ff_10_35 (fun b71 f71 T71 => ?_)
        have f_4 := (w67.2 _ _ _ _ tA0 rfl).symm.trans f71
        refine q_aload_n (pc := 74) hG dX12_startsOne_74 0 rfl ?_
        refine q_getV (pc := 75) (v := .ref bd) hG fl_X12_86 dX12_startsOne_75 tA0 (w67.same tA0 rfl hbd) ?_
        refine q_iload_n (pc := 78) hG dX12_startsOne_78 1 rfl ?_
        refine q_ialdV (pc := 79) (v := .int H) hG dX12_startsOne_79 Tbd (by decide) (by decide) (q_ix rl_1 (by decide)) (by rw [u67]; exact (q_keepK Tbd tA0 (by decide)).trans m42) ?_
        refine q_iload_n (pc := 80) hG dX12_startsOne_80 2 rfl ?_
        refine q_iast (pc := 81) hG dX12_startsOne_81 w67 ai_169 T71 (q_ix r_2 (by decide)) (q_r_any x2) (by decide) rfl (fun s81 u81 w81 => ?_)
        have m81 : s81 b71 H.toInt.toNat = .int x2 := by rw [u81]; exact q_up_same
        refine q_aload_n (pc := 82) hG dX12_startsOne_82 0 rfl ?_
        refine q_getV (pc := 83) (v := .ref bl) hG fl_X12_89 dX12_startsOne_83 tA0 (w81.same tA0 rfl hbl) ?_
        refine q_iload_n (pc := 86) hG dX12_startsOne_86 1 rfl ?_
        refine q_aload_n (pc := 87) hG dX12_startsOne_87 0 rfl ?_
        refine q_aload_n (pc := 88) hG dX12_startsOne_88 0 rfl ?_
        refine q_getV (pc := 89) (v := .ref bd) hG fl_X12_86 dX12_startsOne_89 tA0 (w81.same tA0 rfl hbd) ?_
        refine q_iload_n (pc := 92) hG dX12_startsOne_92 1 rfl ?_
        refine q_ialdV (pc := 93) (v := .int H) hG dX12_startsOne_93 Tbd (by decide) (by decide) (q_ix rl_1 (by decide)) (by rw [u81]; exact (q_keepK Tbd T71 (by decide)).trans (by rw [u67]; exact (q_keepK Tbd tA0 (by decide)).trans m42)) ?_
        refine q_iload_n (pc := 94) hG dX12_startsOne_94 2 rfl ?_
        refine q_iload_n (pc := 95) hG dX12_startsOne_95 1 rfl ?_
        refine q_cVi (pc := 96) [.int H, .int x2, .int 1] [.int 1, .ref bl] hG (c_X12_paintsFor τ s81 a0 H x2 1 w81.1 tA0 r_2 (q_wf.keep hI w81.2 tA0 rfl hW)) my_X12_paintsFor mv_X12_paintsFor w978 dX12_startsOne_96 tA0 (by decide) rfl rfl (Nat.le_of_ble_eq_true rfl) (by decide) (fun v96 s96 p96 => ?_)
        have w96 := w81.trans p96.1 rfl
        refine q_iast (pc := 99) hG dX12_startsOne_99 w96 ai_172 Tbl (q_ix rl_1 (by decide)) p96.2.1 (by decide) rfl (fun s99 u99 w99 => ?_)
        have m99 : s99 bl (1 : Int32).toInt.toNat = .int v96 := by rw [u99]; exact q_up_same
        have r_5 := q_req rl_m1 c7
        have r_6 := q_rle hr6.1 hr6.2.1 c18
        exact q_vrt hG hE dX12_startsOne_100 ⟨w99, ⟨L, v66, d0, H, l0, v96, ⟨(w99.same tA0 rfl hp1), (by rw [u99]; exact (q_keepK tA0 Tbl (by decide)).trans (p96.1.same tA0 rfl (by rw [u81]; exact (q_keepK tA0 T71 (by decide)).trans m67))), (by rw [u99]; exact (q_keepK Tbd Tbl (by decide)).trans (p96.1.same Tbd rfl (by rw [u81]; exact (q_keepK Tbd T71 (by decide)).trans (by rw [u67]; exact (q_keepK Tbd tA0 (by decide)).trans (by rw [u42]; exact (q_up_else (Or.inr (by decide))).trans hp3))))), (by rw [u99]; exact (q_keepK Tbd Tbl (by decide)).trans (p96.1.same Tbd rfl (by rw [u81]; exact (q_keepK Tbd T71 (by decide)).trans (by rw [u67]; exact (q_keepK Tbd tA0 (by decide)).trans m42)))), (by rw [u99]; exact (q_up_else (Or.inr (by decide))).trans (p96.1.same Tbl rfl (by rw [u81]; exact (q_keepK Tbl T71 (by decide)).trans (by rw [u67]; exact (q_keepK Tbl tA0 (by decide)).trans (by rw [u42]; exact (q_keepK Tbl Tbd (by decide)).trans hp5))))), m99⟩, Or.inr ⟨(by have o0 := c7; have o1 := r_5; have l2 := tl_m1; unfold q_r at o1; omega), (by have o0 := c18; have o1 := (q_subN (lo := (-1)) (hi := 62) e66 r_2 rl_1 (by decide)).1; have o2 := r_2; have o3 := r_6; have o4 := r_3; have l5 := tl_1; unfold q_r at o2 o3 o4; omega), rfl, (by have o0 := c18; have o1 := (q_subN (lo := (-1)) (hi := 62) e66 r_2 rl_1 (by decide)).1; have o2 := r_2; have o3 := r_6; have o4 := r_3; have l5 := tl_1; unfold q_r at o2 o3 o4; omega), (by have o0 := c18; have o1 := (q_subN (lo := (-1)) (hi := 62) e66 r_2 rl_1 (by decide)).1; have o2 := r_2; have o3 := r_6; have o4 := r_3; have l5 := tl_1; unfold q_r at o2 o3 o4; omega), rfl, (by have o0 := p96.2.1; unfold q_r at o0; omega), (by have o0 := p96.2.1; unfold q_r at o0; omega), rfl⟩⟩⟩
      intro c44
      exact absurd c44 (by have l0 := tl_1; omega)
    intro c28
    exact absurd c28 (by have l0 := tl_1; omega)
  intro c18
  have r_7 := q_req rl_m1 c7
  exact q_vrt hG hE dX12_startsOne_21 ⟨hS0, ⟨L, H, d0, d1, l0, l1, ⟨hp1, hp2, hp3, hp4, hp5, hp6⟩, Or.inl ⟨rfl, rfl, rfl, rfl, rfl, rfl, (by have o0 := c7; have o1 := c18; have o2 := hr6.2.1; have o3 := hr6.1; have o4 := r_7; have l5 := tl_m1; unfold q_r at o2 o3 o4; omega)⟩⟩⟩
theorem dX12_endsOne_0 : decode cX12_endsOne 0 = .ok (.aload_n 0, 1) := by decide +kernel
theorem dX12_endsOne_1 : decode cX12_endsOne 1 = .ok (.getfield 86, 3) := by decide +kernel
theorem dX12_endsOne_4 : decode cX12_endsOne 4 = .ok (.iload_n 1, 1) := by decide +kernel
theorem dX12_endsOne_5 : decode cX12_endsOne 5 = .ok (.iaload, 1) := by decide +kernel
theorem dX12_endsOne_6 : decode cX12_endsOne 6 = .ok (.iconst (-1), 1) := by decide +kernel
theorem dX12_endsOne_7 : decode cX12_endsOne 7 = .ok (.if_icmp .ne 4, 3) := by decide +kernel
theorem dX12_endsOne_10 : decode cX12_endsOne 10 = .ok (.return_, 1) := by decide +kernel
theorem dX12_endsOne_11 : decode cX12_endsOne 11 = .ok (.aload_n 0, 1) := by decide +kernel
theorem dX12_endsOne_12 : decode cX12_endsOne 12 = .ok (.getfield 89, 3) := by decide +kernel
theorem dX12_endsOne_15 : decode cX12_endsOne 15 = .ok (.iload_n 1, 1) := by decide +kernel
theorem dX12_endsOne_16 : decode cX12_endsOne 16 = .ok (.aload_n 0, 1) := by decide +kernel
theorem dX12_endsOne_17 : decode cX12_endsOne 17 = .ok (.getfield 89, 3) := by decide +kernel
theorem dX12_endsOne_20 : decode cX12_endsOne 20 = .ok (.iload_n 1, 1) := by decide +kernel
theorem dX12_endsOne_21 : decode cX12_endsOne 21 = .ok (.iaload, 1) := by decide +kernel
theorem dX12_endsOne_22 : decode cX12_endsOne 22 = .ok (.iconst 1, 1) := by decide +kernel
theorem dX12_endsOne_23 : decode cX12_endsOne 23 = .ok (.isub, 1) := by decide +kernel
theorem dX12_endsOne_24 : decode cX12_endsOne 24 = .ok (.iastore, 1) := by decide +kernel
theorem dX12_endsOne_25 : decode cX12_endsOne 25 = .ok (.aload_n 0, 1) := by decide +kernel
theorem dX12_endsOne_26 : decode cX12_endsOne 26 = .ok (.getfield 89, 3) := by decide +kernel
theorem dX12_endsOne_29 : decode cX12_endsOne 29 = .ok (.iload_n 1, 1) := by decide +kernel
theorem dX12_endsOne_30 : decode cX12_endsOne 30 = .ok (.iaload, 1) := by decide +kernel
theorem dX12_endsOne_31 : decode cX12_endsOne 31 = .ok (.ifCond .le 4, 3) := by decide +kernel
theorem dX12_endsOne_34 : decode cX12_endsOne 34 = .ok (.return_, 1) := by decide +kernel
theorem dX12_endsOne_35 : decode cX12_endsOne 35 = .ok (.aload_n 0, 1) := by decide +kernel
theorem dX12_endsOne_36 : decode cX12_endsOne 36 = .ok (.getfield 86, 3) := by decide +kernel
theorem dX12_endsOne_39 : decode cX12_endsOne 39 = .ok (.iload_n 1, 1) := by decide +kernel
theorem dX12_endsOne_40 : decode cX12_endsOne 40 = .ok (.iaload, 1) := by decide +kernel
theorem dX12_endsOne_41 : decode cX12_endsOne 41 = .ok (.istore_n 3, 1) := by decide +kernel
theorem dX12_endsOne_42 : decode cX12_endsOne 42 = .ok (.aload_n 0, 1) := by decide +kernel
theorem dX12_endsOne_43 : decode cX12_endsOne 43 = .ok (.getfield 74, 3) := by decide +kernel
theorem dX12_endsOne_46 : decode cX12_endsOne 46 = .ok (.iload_n 3, 1) := by decide +kernel
theorem dX12_endsOne_47 : decode cX12_endsOne 47 = .ok (.iload_n 2, 1) := by decide +kernel
theorem dX12_endsOne_48 : decode cX12_endsOne 48 = .ok (.iconst 1, 1) := by decide +kernel
theorem dX12_endsOne_49 : decode cX12_endsOne 49 = .ok (.iadd, 1) := by decide +kernel
theorem dX12_endsOne_50 : decode cX12_endsOne 50 = .ok (.iastore, 1) := by decide +kernel
theorem dX12_endsOne_51 : decode cX12_endsOne 51 = .ok (.aload_n 0, 1) := by decide +kernel
theorem dX12_endsOne_52 : decode cX12_endsOne 52 = .ok (.getfield 77, 3) := by decide +kernel
theorem dX12_endsOne_55 : decode cX12_endsOne 55 = .ok (.iload_n 3, 1) := by decide +kernel
theorem dX12_endsOne_56 : decode cX12_endsOne 56 = .ok (.iload_n 1, 1) := by decide +kernel
theorem dX12_endsOne_57 : decode cX12_endsOne 57 = .ok (.iastore, 1) := by decide +kernel
theorem dX12_endsOne_58 : decode cX12_endsOne 58 = .ok (.aload_n 0, 1) := by decide +kernel
theorem dX12_endsOne_59 : decode cX12_endsOne 59 = .ok (.getfield 83, 3) := by decide +kernel
theorem dX12_endsOne_62 : decode cX12_endsOne 62 = .ok (.iload_n 3, 1) := by decide +kernel
theorem dX12_endsOne_63 : decode cX12_endsOne 63 = .ok (.iload_n 2, 1) := by decide +kernel
theorem dX12_endsOne_64 : decode cX12_endsOne 64 = .ok (.iconst 1, 1) := by decide +kernel
theorem dX12_endsOne_65 : decode cX12_endsOne 65 = .ok (.iadd, 1) := by decide +kernel
theorem dX12_endsOne_66 : decode cX12_endsOne 66 = .ok (.aload_n 0, 1) := by decide +kernel
theorem dX12_endsOne_67 : decode cX12_endsOne 67 = .ok (.iload_n 3, 1) := by decide +kernel
theorem dX12_endsOne_68 : decode cX12_endsOne 68 = .ok (.iload_n 2, 1) := by decide +kernel
theorem dX12_endsOne_69 : decode cX12_endsOne 69 = .ok (.iconst 1, 1) := by decide +kernel
theorem dX12_endsOne_70 : decode cX12_endsOne 70 = .ok (.iadd, 1) := by decide +kernel
theorem dX12_endsOne_71 : decode cX12_endsOne 71 = .ok (.iload_n 1, 1) := by decide +kernel
theorem dX12_endsOne_72 : decode cX12_endsOne 72 = .ok (.invokevirtual 275, 3) := by decide +kernel
theorem dX12_endsOne_75 : decode cX12_endsOne 75 = .ok (.iadd, 1) := by decide +kernel
theorem dX12_endsOne_76 : decode cX12_endsOne 76 = .ok (.iastore, 1) := by decide +kernel
theorem dX12_endsOne_77 : decode cX12_endsOne 77 = .ok (.aload_n 0, 1) := by decide +kernel
theorem dX12_endsOne_78 : decode cX12_endsOne 78 = .ok (.iload_n 3, 1) := by decide +kernel
theorem dX12_endsOne_79 : decode cX12_endsOne 79 = .ok (.putfield 362, 3) := by decide +kernel
theorem dX12_endsOne_82 : decode cX12_endsOne 82 = .ok (.aload_n 0, 1) := by decide +kernel
theorem dX12_endsOne_83 : decode cX12_endsOne 83 = .ok (.iload_n 2, 1) := by decide +kernel
theorem dX12_endsOne_84 : decode cX12_endsOne 84 = .ok (.iconst 1, 1) := by decide +kernel
theorem dX12_endsOne_85 : decode cX12_endsOne 85 = .ok (.iadd, 1) := by decide +kernel
theorem dX12_endsOne_86 : decode cX12_endsOne 86 = .ok (.putfield 365, 3) := by decide +kernel
theorem dX12_endsOne_89 : decode cX12_endsOne 89 = .ok (.aload_n 0, 1) := by decide +kernel
theorem dX12_endsOne_90 : decode cX12_endsOne 90 = .ok (.getfield 86, 3) := by decide +kernel
theorem dX12_endsOne_93 : decode cX12_endsOne 93 = .ok (.iload_n 1, 1) := by decide +kernel
theorem dX12_endsOne_94 : decode cX12_endsOne 94 = .ok (.iconst (-1), 1) := by decide +kernel
theorem dX12_endsOne_95 : decode cX12_endsOne 95 = .ok (.iastore, 1) := by decide +kernel
theorem dX12_endsOne_96 : decode cX12_endsOne 96 = .ok (.return_, 1) := by decide +kernel
def md_X12_endsOne_0 : List (Nat × Nat) := [(10, 41), (10, 42), (162, 0), (163, 0), (167, 0), (168, 0), (170, 0), (171, 0), (172, 0)]
set_option maxRecDepth 100000 in
set_option maxHeartbeats 4000000 in
theorem c_X12_endsOne_0 {l : Launch} {D : q_D} (τ : q_T) (σ : q_V) (a0 : Nat) (x1 : Int32) (x2 : Int32) (hI : q_I τ σ) (tA0 : τ a0 = some (10, 1)) (rA1 : q_r x1 0 0) (hW : q_wf σ a0) (bd bl : Nat) (hbd : σ a0 37 = .ref bd) (hbl : σ a0 38 = .ref bl) (Tbd : τ bd = some (171, 2)) (Tbl : τ bl = some (172, 2)) (L H d0 d1 l0 l1 : Int32) (hp : q_pb σ a0 bd bl L H d0 d1 l0 l1) (hl : d0.toInt ≠ -1 → q_r l0 1 9) : q_Cv l D yX12_endsOne cX12_endsOne 4 none 4 97 τ σ [.ref a0, .int x1, .int x2] (fun σ1 => q_S md_X12_endsOne_0 τ σ σ1 ∧ (∃ L2 H2 d2 d3 l2 l3 : Int32, q_pb σ1 a0 bd bl L2 H2 d2 d3 l2 l3 ∧ q_pe0 L.toInt H.toInt d0.toInt d1.toInt l0.toInt l1.toInt L2.toInt H2.toInt d2.toInt d3.toInt l2.toInt l3.toInt)) := by
  refine q_metv rfl (Nat.le_of_ble_eq_true rfl) (fun X hG hE => ?_)
  show q_O X 0 0 τ σ 0 [(0, .ref a0), (1, .int x1), (2, .int x2)] []
  have hS0 : q_S md_X12_endsOne_0 τ σ σ := q_S.rf hI
  obtain rfl : x1 = 0 := q_is0 rA1
  have hr6 := hp.rng hI tA0 Tbd
  obtain ⟨hp1, hp2, hp3, hp4, hp5, hp6⟩ := hp
  refine q_aload_n (pc := 0) hG dX12_endsOne_0 0 rfl ?_
  refine q_getV (pc := 1) (v := .ref bd) hG fl_X12_86 dX12_endsOne_1 tA0 hbd ?_
  refine q_iload_n (pc := 4) hG dX12_endsOne_4 1 rfl ?_
  refine q_ialdV (pc := 5) (v := .int d0) hG dX12_endsOne_5 Tbd (by decide) (by decide) (q_ix rl_0 (by decide)) hp3 ?_
  refine q_iconst (pc := 6) hG dX12_endsOne_6 ki_m1 ?_
  refine q_icmp_ne (pc := 7) hG 11 dX12_endsOne_7 rfl ?_ ?_
  · intro c7
    refine q_aload_n (pc := 11) hG dX12_endsOne_11 0 rfl ?_
    refine q_getV (pc := 12) (v := .ref bl) hG fl_X12_89 dX12_endsOne_12 tA0 hbl ?_
    refine q_iload_n (pc := 15) hG dX12_endsOne_15 1 rfl ?_
    refine q_aload_n (pc := 16) hG dX12_endsOne_16 0 rfl ?_
    refine q_getV (pc := 17) (v := .ref bl) hG fl_X12_89 dX12_endsOne_17 tA0 hbl ?_
    refine q_iload_n (pc := 20) hG dX12_endsOne_20 1 rfl ?_
    refine q_ialdV (pc := 21) (v := .int l0) hG dX12_endsOne_21 Tbl (by decide) (by decide) (q_ix rl_0 (by decide)) hp5 ?_
    have r_1 := q_neL (c := 0) hr6.2.2.1 (q_nel c7 tl_m1) (by decide)
    have rl21 := hl (by have o0 := c7; have o1 := r_1; have l2 := tl_m1; unfold q_r at o1; omega)
    refine q_iconst (pc := 22) hG dX12_endsOne_22 ki_1 ?_
    refine q_isub (pc := 23) hG dX12_endsOne_23 (fun v23 e23 => ?_)
    have r_2 := (q_subN (lo := 0) (hi := 8) e23 rl21 rl_1 (by decide)).2
    refine q_iast (pc := 24) hG dX12_endsOne_24 hS0 ai_172 Tbl (q_ix rl_0 (by decide)) r_2 (by decide) rfl (fun s24 u24 w24 => ?_)
    have m24 : s24 bl (0 : Int32).toInt.toNat = .int v23 := by rw [u24]; exact q_up_same
    refine q_aload_n (pc := 25) hG dX12_endsOne_25 0 rfl ?_
    refine q_getV (pc := 26) (v := .ref bl) hG fl_X12_89 dX12_endsOne_26 tA0 (w24.same tA0 rfl hbl) ?_
    refine q_iload_n (pc := 29) hG dX12_endsOne_29 1 rfl ?_
    refine q_ialdV (pc := 30) (v := .int v23) hG dX12_endsOne_30 Tbl (by decide) (by decide) (q_ix rl_0 (by decide)) m24 ?_
    refine q_if_le (pc := 31) hG 35 dX12_endsOne_31 rfl ?_ ?_
    · intro c31
      refine q_aload_n (pc := 35) hG dX12_endsOne_35 0 rfl ?_
      refine q_getV (pc := 36) (v := .ref bd) hG fl_X12_86 dX12_endsOne_36 tA0 (w24.same tA0 rfl hbd) ?_
      refine q_iload_n (pc := 39) hG dX12_endsOne_39 1 rfl ?_
      refine q_ialdV (pc := 40) (v := .int d0) hG dX12_endsOne_40 Tbd (by decide) (by decide) (q_ix rl_0 (by decide)) (by rw [u24]; exact (q_keepK Tbd Tbl (by decide)).trans hp3) ?_
      refine q_istore_n (pc := 41) [(3, .int d0), (0, .ref a0), (1, .int 0), (2, .int x2)] hG dX12_endsOne_41 (by decide) rfl ?_
      refine q_aload_n (pc := 42) hG dX12_endsOne_42 1 rfl ?_
      refine q_getR (pc := 43) (k2 := 167) (n2 := 64) hG fl_X12_74 dX12_endsOne_43 w24.1 tA0 ff_10_33 (fun b43 f43 T43 => ?_)
      have f_3 := (w24.2 _ _ _ _ tA0 rfl).symm.trans f43
      refine q_iload_n (pc := 46) hG dX12_endsOne_46 0 rfl ?_
      refine q_iload_n (pc := 47) hG dX12_endsOne_47 3 rfl ?_
      refine q_iconst (pc := 48) hG dX12_endsOne_48 ki_1 ?_
      refine q_iadd (pc := 49) hG dX12_endsOne_49 (fun v49 e49 => ?_)
      refine q_iast (pc := 50) hG dX12_endsOne_50 w24 ai_167 T43 (q_ix r_1 (by decide)) (q_r_any v49) (by decide) rfl (fun s50 u50 w50 => ?_)
      have m50 : s50 b43 d0.toInt.toNat = .int v49 := by rw [u50]; exact q_up_same
      refine q_aload_n (pc := 51) hG dX12_endsOne_51 1 rfl ?_
      refine q_getR (pc := 52) (k2 := 168) (n2 := 64) hG fl_X12_77 dX12_endsOne_52 w50.1 tA0 ff_10_34 (fun b52 f52 T52 => ?_)
      have f_4 := (w50.2 _ _ _ _ tA0 rfl).symm.trans f52
      refine q_iload_n (pc := 55) hG dX12_endsOne_55 0 rfl ?_
      refine q_iload_n (pc := 56) hG dX12_endsOne_56 2 rfl ?_
      refine q_iast (pc := 57) hG dX12_endsOne_57 w50 ai_168 T52 (q_ix r_1 (by decide)) rl_0 (by decide) rfl (fun s57 u57 w57 => ?_)
      have m57 : s57 b52 d0.toInt.toNat = .int 0 := by rw [u57]; exact q_up_same
      refine q_aload_n (pc := 58) hG dX12_endsOne_58 1 rfl ?_
      refine q_getR (pc := 59) (k2 := 170) (n2 := 64) hG fl_X12_83 dX12_endsOne_59 w57.1 tA0 ff_10_36 (fun b59 f59 T59 => ?_)
      have f_5 := (w57.2 _ _ _ _ tA0 rfl).symm.trans f59
      refine q_iload_n (pc := 62) hG dX12_endsOne_62 0 rfl ?_
      refine q_iload_n (pc := 63) hG dX12_endsOne_63 3 rfl ?_
      refine q_iconst (pc := 64) hG dX12_endsOne_64 ki_1 ?_
      refine q_iadd (pc := 65) hG dX12_endsOne_65 (fun v65 e65 => ?_)
      rw [e65.trans e49.symm]
      refine q_aload_n (pc := 66) hG dX12_endsOne_66 1 rfl ?_
      refine q_iload_n (pc := 67) hG dX12_endsOne_67 0 rfl ?_
      refine q_iload_n (pc := 68) hG dX12_endsOne_68 3 rfl ?_
      refine q_iconst (pc := 69) hG dX12_endsOne_69 ki_1 ?_
      refine q_iadd (pc := 70) hG dX12_endsOne_70 (fun v70 e70 => ?_)
      rw [e70.trans e49.symm]
      refine q_iload_n (pc := 71) hG dX12_endsOne_71 2 rfl ?_
      refine q_cVi (pc := 72) [.int d0, .int v49, .int 0] [.int v49, .int d0, .ref b59] hG (c_X12_driesFor τ s57 a0 d0 v49 0 w57.1 tA0 r_1 (q_wf.keep hI w57.2 tA0 rfl hW)) my_X12_driesFor mv_X12_driesFor w1005 dX12_endsOne_72 tA0 (by decide) rfl rfl (Nat.le_of_ble_eq_true rfl) (by decide) (fun v72 s72 p72 => ?_)
      have w72 := w57.trans p72.1 rfl
      refine q_iadd (pc := 75) hG dX12_endsOne_75 (fun v75 e75 => ?_)
      refine q_iast (pc := 76) hG dX12_endsOne_76 w72 ai_170 T59 (q_ix r_1 (by decide)) (q_r_any v75) (by decide) rfl (fun s76 u76 w76 => ?_)
      have m76 : s76 b59 d0.toInt.toNat = .int v75 := by rw [u76]; exact q_up_same
      refine q_aload_n (pc := 77) hG dX12_endsOne_77 1 rfl ?_
      refine q_iload_n (pc := 78) hG dX12_endsOne_78 0 rfl ?_
      refine q_putI (pc := 79) hG fl_X12_362 dX12_endsOne_79 w76 tA0 ff_10_41 r_1 (by decide) rfl (fun s79 u79 w79 => ?_)
      have m79 : s79 a0 41 = .int d0 := by rw [u79]; exact q_up_same
      refine q_aload_n (pc := 82) hG dX12_endsOne_82 1 rfl ?_
      refine q_iload_n (pc := 83) hG dX12_endsOne_83 3 rfl ?_
      refine q_iconst (pc := 84) hG dX12_endsOne_84 ki_1 ?_
      refine q_iadd (pc := 85) hG dX12_endsOne_85 (fun v85 e85 => ?_)
      rw [e85.trans e49.symm]
      refine q_putI (pc := 86) hG fl_X12_365 dX12_endsOne_86 w79 tA0 ff_10_42 (q_r_any v49) (by decide) rfl (fun s86 u86 w86 => ?_)
      have m86 : s86 a0 42 = .int v49 := by rw [u86]; exact q_up_same
      refine q_aload_n (pc := 89) hG dX12_endsOne_89 1 rfl ?_
      refine q_getV (pc := 90) (v := .ref bd) hG fl_X12_86 dX12_endsOne_90 tA0 (w86.same tA0 rfl hbd) ?_
      refine q_iload_n (pc := 93) hG dX12_endsOne_93 2 rfl ?_
      refine q_iconst (pc := 94) hG dX12_endsOne_94 ki_m1 ?_
      refine q_iast (pc := 95) hG dX12_endsOne_95 w86 ai_171 Tbd (q_ix rl_0 (by decide)) rl_m1 (by decide) rfl (fun s95 u95 w95 => ?_)
      have m95 : s95 bd (0 : Int32).toInt.toNat = .int (-1) := by rw [u95]; exact q_up_same
      have r_6 := q_zle r_2 c31
      exact q_vrt hG hE dX12_endsOne_96 ⟨w95, ⟨L, H, (-1 : Int32), d1, v23, l1, ⟨(w95.same tA0 rfl hp1), (w95.same tA0 rfl hp2), m95, (by rw [u95]; exact (q_up_else (Or.inr (by decide))).trans (by rw [u86]; exact (q_keepK Tbd tA0 (by decide)).trans (by rw [u79]; exact (q_keepK Tbd tA0 (by decide)).trans (by rw [u76]; exact (q_keepK Tbd T59 (by decide)).trans (p72.1.same Tbd rfl (by rw [u57]; exact (q_keepK Tbd T52 (by decide)).trans (by rw [u50]; exact (q_keepK Tbd T43 (by decide)).trans (by rw [u24]; exact (q_keepK Tbd Tbl (by decide)).trans hp4)))))))), (by rw [u95]; exact (q_keepK Tbl Tbd (by decide)).trans (by rw [u86]; exact (q_keepK Tbl tA0 (by decide)).trans (by rw [u79]; exact (q_keepK Tbl tA0 (by decide)).trans (by rw [u76]; exact (q_keepK Tbl T59 (by decide)).trans (p72.1.same Tbl rfl (by rw [u57]; exact (q_keepK Tbl T52 (by decide)).trans (by rw [u50]; exact (q_keepK Tbl T43 (by decide)).trans m24))))))), (by rw [u95]; exact (q_keepK Tbl Tbd (by decide)).trans (by rw [u86]; exact (q_keepK Tbl tA0 (by decide)).trans (by rw [u79]; exact (q_keepK Tbl tA0 (by decide)).trans (by rw [u76]; exact (q_keepK Tbl T59 (by decide)).trans (p72.1.same Tbl rfl (by rw [u57]; exact (q_keepK Tbl T52 (by decide)).trans (by rw [u50]; exact (q_keepK Tbl T43 (by decide)).trans (by rw [u24]; exact (q_up_else (Or.inr (by decide))).trans hp6))))))))⟩, Or.inr ⟨(by have o0 := c7; have o1 := r_1; have l2 := tl_m1; unfold q_r at o1; omega), rfl, rfl, rfl, rfl, (by have o0 := (q_subN (lo := 0) (hi := 8) e23 rl21 rl_1 (by decide)).1; have o1 := c31; have o2 := rl21; have o3 := r_6; have l4 := tl_1; unfold q_r at o2 o3; omega), Or.inr ⟨(by have o0 := (q_subN (lo := 0) (hi := 8) e23 rl21 rl_1 (by decide)).1; have o1 := c31; have o2 := rl21; have o3 := r_6; have l4 := tl_1; unfold q_r at o2 o3; omega), (by have l0 := tl_m1; omega)⟩⟩⟩⟩
    intro c31
    have r_7 := q_zgt r_2 c31
    exact q_vrt hG hE dX12_endsOne_34 ⟨w24, ⟨L, H, d0, d1, v23, l1, ⟨(w24.same tA0 rfl hp1), (w24.same tA0 rfl hp2), (by rw [u24]; exact (q_keepK Tbd Tbl (by decide)).trans hp3), (by rw [u24]; exact (q_keepK Tbd Tbl (by decide)).trans hp4), m24, (by rw [u24]; exact (q_up_else (Or.inr (by decide))).trans hp6)⟩, Or.inr ⟨(by have o0 := c7; have o1 := r_1; have l2 := tl_m1; unfold q_r at o1; omega), rfl, rfl, rfl, rfl, (by have o0 := (q_subN (lo := 0) (hi := 8) e23 rl21 rl_1 (by decide)).1; have o1 := c31; have o2 := rl21; have o3 := r_7; have l4 := tl_1; unfold q_r at o2 o3; omega), Or.inl ⟨(by have o0 := (q_subN (lo := 0) (hi := 8) e23 rl21 rl_1 (by decide)).1; have o1 := c31; have o2 := rl21; have o3 := r_7; have l4 := tl_1; unfold q_r at o2 o3; omega), rfl⟩⟩⟩⟩
  intro c7
  have r_8 := q_req rl_m1 c7
  exact q_vrt hG hE dX12_endsOne_10 ⟨hS0, ⟨L, H, d0, d1, l0, l1, ⟨hp1, hp2, hp3, hp4, hp5, hp6⟩, Or.inl ⟨rfl, rfl, rfl, rfl, rfl, rfl, (by have o0 := c7; have o1 := r_8; have l2 := tl_m1; unfold q_r at o1; omega)⟩⟩⟩
def md_X12_endsOne_1 : List (Nat × Nat) := [(10, 41), (10, 42), (162, 0), (163, 0), (167, 0), (168, 0), (170, 0), (171, 0), (172, 0)]
set_option maxRecDepth 100000 in
set_option maxHeartbeats 4000000 in
theorem c_X12_endsOne_1 {l : Launch} {D : q_D} (τ : q_T) (σ : q_V) (a0 : Nat) (x1 : Int32) (x2 : Int32) (hI : q_I τ σ) (tA0 : τ a0 = some (10, 1)) (rA1 : q_r x1 1 1) (hW : q_wf σ a0) (bd bl : Nat) (hbd : σ a0 37 = .ref bd) (hbl : σ a0 38 = .ref bl) (Tbd : τ bd = some (171, 2)) (Tbl : τ bl = some (172, 2)) (L H d0 d1 l0 l1 : Int32) (hp : q_pb σ a0 bd bl L H d0 d1 l0 l1) (hl : d1.toInt ≠ -1 → q_r l1 1 9) : q_Cv l D yX12_endsOne cX12_endsOne 4 none 4 97 τ σ [.ref a0, .int x1, .int x2] (fun σ1 => q_S md_X12_endsOne_1 τ σ σ1 ∧ (∃ L2 H2 d2 d3 l2 l3 : Int32, q_pb σ1 a0 bd bl L2 H2 d2 d3 l2 l3 ∧ q_pe1 L.toInt H.toInt d0.toInt d1.toInt l0.toInt l1.toInt L2.toInt H2.toInt d2.toInt d3.toInt l2.toInt l3.toInt)) := by
  refine q_metv rfl (Nat.le_of_ble_eq_true rfl) (fun X hG hE => ?_)
  show q_O X 0 0 τ σ 0 [(0, .ref a0), (1, .int x1), (2, .int x2)] []
  have hS0 : q_S md_X12_endsOne_1 τ σ σ := q_S.rf hI
  obtain rfl : x1 = 1 := q_is1 rA1
  have hr6 := hp.rng hI tA0 Tbd
  obtain ⟨hp1, hp2, hp3, hp4, hp5, hp6⟩ := hp
  refine q_aload_n (pc := 0) hG dX12_endsOne_0 0 rfl ?_
  refine q_getV (pc := 1) (v := .ref bd) hG fl_X12_86 dX12_endsOne_1 tA0 hbd ?_
  refine q_iload_n (pc := 4) hG dX12_endsOne_4 1 rfl ?_
  refine q_ialdV (pc := 5) (v := .int d1) hG dX12_endsOne_5 Tbd (by decide) (by decide) (q_ix rl_1 (by decide)) hp4 ?_
  refine q_iconst (pc := 6) hG dX12_endsOne_6 ki_m1 ?_
  refine q_icmp_ne (pc := 7) hG 11 dX12_endsOne_7 rfl ?_ ?_
  · intro c7
    refine q_aload_n (pc := 11) hG dX12_endsOne_11 0 rfl ?_
    refine q_getV (pc := 12) (v := .ref bl) hG fl_X12_89 dX12_endsOne_12 tA0 hbl ?_
    refine q_iload_n (pc := 15) hG dX12_endsOne_15 1 rfl ?_
    refine q_aload_n (pc := 16) hG dX12_endsOne_16 0 rfl ?_
    refine q_getV (pc := 17) (v := .ref bl) hG fl_X12_89 dX12_endsOne_17 tA0 hbl ?_
    refine q_iload_n (pc := 20) hG dX12_endsOne_20 1 rfl ?_
    refine q_ialdV (pc := 21) (v := .int l1) hG dX12_endsOne_21 Tbl (by decide) (by decide) (q_ix rl_1 (by decide)) hp6 ?_
    have r_1 := q_neL (c := 0) hr6.2.2.2 (q_nel c7 tl_m1) (by decide)
    have rl21 := hl (by have o0 := c7; have o1 := r_1; have l2 := tl_m1; unfold q_r at o1; omega)
    refine q_iconst (pc := 22) hG dX12_endsOne_22 ki_1 ?_
    refine q_isub (pc := 23) hG dX12_endsOne_23 (fun v23 e23 => ?_)
    have r_2 := (q_subN (lo := 0) (hi := 8) e23 rl21 rl_1 (by decide)).2
    refine q_iast (pc := 24) hG dX12_endsOne_24 hS0 ai_172 Tbl (q_ix rl_1 (by decide)) r_2 (by decide) rfl (fun s24 u24 w24 => ?_)
    have m24 : s24 bl (1 : Int32).toInt.toNat = .int v23 := by rw [u24]; exact q_up_same
    refine q_aload_n (pc := 25) hG dX12_endsOne_25 0 rfl ?_
    refine q_getV (pc := 26) (v := .ref bl) hG fl_X12_89 dX12_endsOne_26 tA0 (w24.same tA0 rfl hbl) ?_
    refine q_iload_n (pc := 29) hG dX12_endsOne_29 1 rfl ?_
    refine q_ialdV (pc := 30) (v := .int v23) hG dX12_endsOne_30 Tbl (by decide) (by decide) (q_ix rl_1 (by decide)) m24 ?_
    refine q_if_le (pc := 31) hG 35 dX12_endsOne_31 rfl ?_ ?_
    · intro c31
      refine q_aload_n (pc := 35) hG dX12_endsOne_35 0 rfl ?_
      refine q_getV (pc := 36) (v := .ref bd) hG fl_X12_86 dX12_endsOne_36 tA0 (w24.same tA0 rfl hbd) ?_
      refine q_iload_n (pc := 39) hG dX12_endsOne_39 1 rfl ?_
      refine q_ialdV (pc := 40) (v := .int d1) hG dX12_endsOne_40 Tbd (by decide) (by decide) (q_ix rl_1 (by decide)) (by rw [u24]; exact (q_keepK Tbd Tbl (by decide)).trans hp4) ?_
      refine q_istore_n (pc := 41) [(3, .int d1), (0, .ref a0), (1, .int 1), (2, .int x2)] hG dX12_endsOne_41 (by decide) rfl ?_
      refine q_aload_n (pc := 42) hG dX12_endsOne_42 1 rfl ?_
      refine q_getR (pc := 43) (k2 := 167) (n2 := 64) hG fl_X12_74 dX12_endsOne_43 w24.1 tA0 ff_10_33 (fun b43 f43 T43 => ?_)
      have f_3 := (w24.2 _ _ _ _ tA0 rfl).symm.trans f43
      refine q_iload_n (pc := 46) hG dX12_endsOne_46 0 rfl ?_
      refine q_iload_n (pc := 47) hG dX12_endsOne_47 3 rfl ?_
      refine q_iconst (pc := 48) hG dX12_endsOne_48 ki_1 ?_
      refine q_iadd (pc := 49) hG dX12_endsOne_49 (fun v49 e49 => ?_)
      refine q_iast (pc := 50) hG dX12_endsOne_50 w24 ai_167 T43 (q_ix r_1 (by decide)) (q_r_any v49) (by decide) rfl (fun s50 u50 w50 => ?_)
      have m50 : s50 b43 d1.toInt.toNat = .int v49 := by rw [u50]; exact q_up_same
      refine q_aload_n (pc := 51) hG dX12_endsOne_51 1 rfl ?_
      refine q_getR (pc := 52) (k2 := 168) (n2 := 64) hG fl_X12_77 dX12_endsOne_52 w50.1 tA0 ff_10_34 (fun b52 f52 T52 => ?_)
      have f_4 := (w50.2 _ _ _ _ tA0 rfl).symm.trans f52
      refine q_iload_n (pc := 55) hG dX12_endsOne_55 0 rfl ?_
      refine q_iload_n (pc := 56) hG dX12_endsOne_56 2 rfl ?_
      refine q_iast (pc := 57) hG dX12_endsOne_57 w50 ai_168 T52 (q_ix r_1 (by decide)) rl_1 (by decide) rfl (fun s57 u57 w57 => ?_)
      have m57 : s57 b52 d1.toInt.toNat = .int 1 := by rw [u57]; exact q_up_same
      refine q_aload_n (pc := 58) hG dX12_endsOne_58 1 rfl ?_
      refine q_getR (pc := 59) (k2 := 170) (n2 := 64) hG fl_X12_83 dX12_endsOne_59 w57.1 tA0 ff_10_36 (fun b59 f59 T59 => ?_)
      have f_5 := (w57.2 _ _ _ _ tA0 rfl).symm.trans f59
      refine q_iload_n (pc := 62) hG dX12_endsOne_62 0 rfl ?_
      refine q_iload_n (pc := 63) hG dX12_endsOne_63 3 rfl ?_
      refine q_iconst (pc := 64) hG dX12_endsOne_64 ki_1 ?_
      refine q_iadd (pc := 65) hG dX12_endsOne_65 (fun v65 e65 => ?_)
      rw [e65.trans e49.symm]
      refine q_aload_n (pc := 66) hG dX12_endsOne_66 1 rfl ?_
      refine q_iload_n (pc := 67) hG dX12_endsOne_67 0 rfl ?_
      refine q_iload_n (pc := 68) hG dX12_endsOne_68 3 rfl ?_
      refine q_iconst (pc := 69) hG dX12_endsOne_69 ki_1 ?_
      refine q_iadd (pc := 70) hG dX12_endsOne_70 (fun v70 e70 => ?_)
      rw [e70.trans e49.symm]
      refine q_iload_n (pc := 71) hG dX12_endsOne_71 2 rfl ?_
      refine q_cVi (pc := 72) [.int d1, .int v49, .int 1] [.int v49, .int d1, .ref b59] hG (c_X12_driesFor τ s57 a0 d1 v49 1 w57.1 tA0 r_1 (q_wf.keep hI w57.2 tA0 rfl hW)) my_X12_driesFor mv_X12_driesFor w1005 dX12_endsOne_72 tA0 (by decide) rfl rfl (Nat.le_of_ble_eq_true rfl) (by decide) (fun v72 s72 p72 => ?_)
      have w72 := w57.trans p72.1 rfl
      refine q_iadd (pc := 75) hG dX12_endsOne_75 (fun v75 e75 => ?_)
      refine q_iast (pc := 76) hG dX12_endsOne_76 w72 ai_170 T59 (q_ix r_1 (by decide)) (q_r_any v75) (by decide) rfl (fun s76 u76 w76 => ?_)
      have m76 : s76 b59 d1.toInt.toNat = .int v75 := by rw [u76]; exact q_up_same
      refine q_aload_n (pc := 77) hG dX12_endsOne_77 1 rfl ?_
      refine q_iload_n (pc := 78) hG dX12_endsOne_78 0 rfl ?_
      refine q_putI (pc := 79) hG fl_X12_362 dX12_endsOne_79 w76 tA0 ff_10_41 r_1 (by decide) rfl (fun s79 u79 w79 => ?_)
      have m79 : s79 a0 41 = .int d1 := by rw [u79]; exact q_up_same
      refine q_aload_n (pc := 82) hG dX12_endsOne_82 1 rfl ?_
      refine q_iload_n (pc := 83) hG dX12_endsOne_83 3 rfl ?_
      refine q_iconst (pc := 84) hG dX12_endsOne_84 ki_1 ?_
      refine q_iadd (pc := 85) hG dX12_endsOne_85 (fun v85 e85 => ?_)
      rw [e85.trans e49.symm]
      refine q_putI (pc := 86) hG fl_X12_365 dX12_endsOne_86 w79 tA0 ff_10_42 (q_r_any v49) (by decide) rfl (fun s86 u86 w86 => ?_)
      have m86 : s86 a0 42 = .int v49 := by rw [u86]; exact q_up_same
      refine q_aload_n (pc := 89) hG dX12_endsOne_89 1 rfl ?_
      refine q_getV (pc := 90) (v := .ref bd) hG fl_X12_86 dX12_endsOne_90 tA0 (w86.same tA0 rfl hbd) ?_
      refine q_iload_n (pc := 93) hG dX12_endsOne_93 2 rfl ?_
      refine q_iconst (pc := 94) hG dX12_endsOne_94 ki_m1 ?_
      refine q_iast (pc := 95) hG dX12_endsOne_95 w86 ai_171 Tbd (q_ix rl_1 (by decide)) rl_m1 (by decide) rfl (fun s95 u95 w95 => ?_)
      have m95 : s95 bd (1 : Int32).toInt.toNat = .int (-1) := by rw [u95]; exact q_up_same
      have r_6 := q_zle r_2 c31
      exact q_vrt hG hE dX12_endsOne_96 ⟨w95, ⟨L, H, d0, (-1 : Int32), l0, v23, ⟨(w95.same tA0 rfl hp1), (w95.same tA0 rfl hp2), (by rw [u95]; exact (q_up_else (Or.inr (by decide))).trans (by rw [u86]; exact (q_keepK Tbd tA0 (by decide)).trans (by rw [u79]; exact (q_keepK Tbd tA0 (by decide)).trans (by rw [u76]; exact (q_keepK Tbd T59 (by decide)).trans (p72.1.same Tbd rfl (by rw [u57]; exact (q_keepK Tbd T52 (by decide)).trans (by rw [u50]; exact (q_keepK Tbd T43 (by decide)).trans (by rw [u24]; exact (q_keepK Tbd Tbl (by decide)).trans hp3)))))))), m95, (by rw [u95]; exact (q_keepK Tbl Tbd (by decide)).trans (by rw [u86]; exact (q_keepK Tbl tA0 (by decide)).trans (by rw [u79]; exact (q_keepK Tbl tA0 (by decide)).trans (by rw [u76]; exact (q_keepK Tbl T59 (by decide)).trans (p72.1.same Tbl rfl (by rw [u57]; exact (q_keepK Tbl T52 (by decide)).trans (by rw [u50]; exact (q_keepK Tbl T43 (by decide)).trans (by rw [u24]; exact (q_up_else (Or.inr (by decide))).trans hp5)))))))), (by rw [u95]; exact (q_keepK Tbl Tbd (by decide)).trans (by rw [u86]; exact (q_keepK Tbl tA0 (by decide)).trans (by rw [u79]; exact (q_keepK Tbl tA0 (by decide)).trans (by rw [u76]; exact (q_keepK Tbl T59 (by decide)).trans (p72.1.same Tbl rfl (by rw [u57]; exact (q_keepK Tbl T52 (by decide)).trans (by rw [u50]; exact (q_keepK Tbl T43 (by decide)).trans m24)))))))⟩, Or.inr ⟨(by have o0 := c7; have o1 := r_1; have l2 := tl_m1; unfold q_r at o1; omega), rfl, rfl, rfl, rfl, (by have o0 := (q_subN (lo := 0) (hi := 8) e23 rl21 rl_1 (by decide)).1; have o1 := c31; have o2 := rl21; have o3 := r_6; have l4 := tl_1; unfold q_r at o2 o3; omega), Or.inr ⟨(by have o0 := (q_subN (lo := 0) (hi := 8) e23 rl21 rl_1 (by decide)).1; have o1 := c31; have o2 := rl21; have o3 := r_6; have l4 := tl_1; unfold q_r at o2 o3; omega), (by have l0 := tl_m1; omega)⟩⟩⟩⟩
    intro c31
    have r_7 := q_zgt r_2 c31
    exact q_vrt hG hE dX12_endsOne_34 ⟨w24, ⟨L, H, d0, d1, l0, v23, ⟨(w24.same tA0 rfl hp1), (w24.same tA0 rfl hp2), (by rw [u24]; exact (q_keepK Tbd Tbl (by decide)).trans hp3), (by rw [u24]; exact (q_keepK Tbd Tbl (by decide)).trans hp4), (by rw [u24]; exact (q_up_else (Or.inr (by decide))).trans hp5), m24⟩, Or.inr ⟨(by have o0 := c7; have o1 := r_1; have l2 := tl_m1; unfold q_r at o1; omega), rfl, rfl, rfl, rfl, (by have o0 := (q_subN (lo := 0) (hi := 8) e23 rl21 rl_1 (by decide)).1; have o1 := c31; have o2 := rl21; have o3 := r_7; have l4 := tl_1; unfold q_r at o2 o3; omega), Or.inl ⟨(by have o0 := (q_subN (lo := 0) (hi := 8) e23 rl21 rl_1 (by decide)).1; have o1 := c31; have o2 := rl21; have o3 := r_7; have l4 := tl_1; unfold q_r at o2 o3; omega), rfl⟩⟩⟩⟩
  intro c7
  have r_8 := q_req rl_m1 c7
  exact q_vrt hG hE dX12_endsOne_10 ⟨hS0, ⟨L, H, d0, d1, l0, l1, ⟨hp1, hp2, hp3, hp4, hp5, hp6⟩, Or.inl ⟨rfl, rfl, rfl, rfl, rfl, rfl, (by have o0 := c7; have o1 := r_8; have l2 := tl_m1; unfold q_r at o1; omega)⟩⟩⟩
theorem dX12_paintsBare_0 : decode cX12_paintsBare 0 = .ok (.aload_n 0, 1) := by decide +kernel
theorem dX12_paintsBare_1 : decode cX12_paintsBare 1 = .ok (.iconst 0, 1) := by decide +kernel
theorem dX12_paintsBare_2 : decode cX12_paintsBare 2 = .ok (.putfield 356, 3) := by decide +kernel
theorem dX12_paintsBare_5 : decode cX12_paintsBare 5 = .ok (.aload_n 0, 1) := by decide +kernel
theorem dX12_paintsBare_6 : decode cX12_paintsBare 6 = .ok (.aload_n 0, 1) := by decide +kernel
theorem dX12_paintsBare_7 : decode cX12_paintsBare 7 = .ok (.getfield 7, 3) := by decide +kernel
theorem dX12_paintsBare_10 : decode cX12_paintsBare 10 = .ok (.sipush 512, 3) := by decide +kernel
theorem dX12_paintsBare_13 : decode cX12_paintsBare 13 = .ok (.iaload, 1) := by decide +kernel
theorem dX12_paintsBare_14 : decode cX12_paintsBare 14 = .ok (.iconst 1, 1) := by decide +kernel
theorem dX12_paintsBare_15 : decode cX12_paintsBare 15 = .ok (.isub, 1) := by decide +kernel
theorem dX12_paintsBare_16 : decode cX12_paintsBare 16 = .ok (.putfield 359, 3) := by decide +kernel
theorem dX12_paintsBare_19 : decode cX12_paintsBare 19 = .ok (.aload_n 0, 1) := by decide +kernel
theorem dX12_paintsBare_20 : decode cX12_paintsBare 20 = .ok (.getfield 86, 3) := by decide +kernel
theorem dX12_paintsBare_23 : decode cX12_paintsBare 23 = .ok (.iconst 0, 1) := by decide +kernel
theorem dX12_paintsBare_24 : decode cX12_paintsBare 24 = .ok (.iconst (-1), 1) := by decide +kernel
theorem dX12_paintsBare_25 : decode cX12_paintsBare 25 = .ok (.iastore, 1) := by decide +kernel
theorem dX12_paintsBare_26 : decode cX12_paintsBare 26 = .ok (.aload_n 0, 1) := by decide +kernel
theorem dX12_paintsBare_27 : decode cX12_paintsBare 27 = .ok (.getfield 86, 3) := by decide +kernel
theorem dX12_paintsBare_30 : decode cX12_paintsBare 30 = .ok (.iconst 1, 1) := by decide +kernel
theorem dX12_paintsBare_31 : decode cX12_paintsBare 31 = .ok (.iconst (-1), 1) := by decide +kernel
theorem dX12_paintsBare_32 : decode cX12_paintsBare 32 = .ok (.iastore, 1) := by decide +kernel
theorem dX12_paintsBare_33 : decode cX12_paintsBare 33 = .ok (.iload_n 1, 1) := by decide +kernel
theorem dX12_paintsBare_34 : decode cX12_paintsBare 34 = .ok (.iload_n 2, 1) := by decide +kernel
theorem dX12_paintsBare_35 : decode cX12_paintsBare 35 = .ok (.invokestatic 257, 3) := by decide +kernel
theorem dX12_paintsBare_38 : decode cX12_paintsBare 38 = .ok (.istore_n 3, 1) := by decide +kernel
theorem dX12_paintsBare_39 : decode cX12_paintsBare 39 = .ok (.aload_n 0, 1) := by decide +kernel
theorem dX12_paintsBare_40 : decode cX12_paintsBare 40 = .ok (.getfield 356, 3) := by decide +kernel
theorem dX12_paintsBare_43 : decode cX12_paintsBare 43 = .ok (.aload_n 0, 1) := by decide +kernel
theorem dX12_paintsBare_44 : decode cX12_paintsBare 44 = .ok (.getfield 359, 3) := by decide +kernel
theorem dX12_paintsBare_47 : decode cX12_paintsBare 47 = .ok (.if_icmp .le 23, 3) := by decide +kernel
theorem dX12_paintsBare_50 : decode cX12_paintsBare 50 = .ok (.aload_n 0, 1) := by decide +kernel
theorem dX12_paintsBare_51 : decode cX12_paintsBare 51 = .ok (.getfield 86, 3) := by decide +kernel
theorem dX12_paintsBare_54 : decode cX12_paintsBare 54 = .ok (.iconst 0, 1) := by decide +kernel
theorem dX12_paintsBare_55 : decode cX12_paintsBare 55 = .ok (.iaload, 1) := by decide +kernel
theorem dX12_paintsBare_56 : decode cX12_paintsBare 56 = .ok (.iconst (-1), 1) := by decide +kernel
theorem dX12_paintsBare_57 : decode cX12_paintsBare 57 = .ok (.if_icmp .ne 13, 3) := by decide +kernel
theorem dX12_paintsBare_60 : decode cX12_paintsBare 60 = .ok (.aload_n 0, 1) := by decide +kernel
theorem dX12_paintsBare_61 : decode cX12_paintsBare 61 = .ok (.getfield 86, 3) := by decide +kernel
theorem dX12_paintsBare_64 : decode cX12_paintsBare 64 = .ok (.iconst 1, 1) := by decide +kernel
theorem dX12_paintsBare_65 : decode cX12_paintsBare 65 = .ok (.iaload, 1) := by decide +kernel
theorem dX12_paintsBare_66 : decode cX12_paintsBare 66 = .ok (.iconst (-1), 1) := by decide +kernel
theorem dX12_paintsBare_67 : decode cX12_paintsBare 67 = .ok (.if_icmp .eq 43, 3) := by decide +kernel
theorem dX12_paintsBare_70 : decode cX12_paintsBare 70 = .ok (.iload_n 3, 1) := by decide +kernel
theorem dX12_paintsBare_71 : decode cX12_paintsBare 71 = .ok (.iload_n 1, 1) := by decide +kernel
theorem dX12_paintsBare_72 : decode cX12_paintsBare 72 = .ok (.if_icmp .lt 9, 3) := by decide +kernel
theorem dX12_paintsBare_75 : decode cX12_paintsBare 75 = .ok (.aload_n 0, 1) := by decide +kernel
theorem dX12_paintsBare_76 : decode cX12_paintsBare 76 = .ok (.iconst 0, 1) := by decide +kernel
theorem dX12_paintsBare_77 : decode cX12_paintsBare 77 = .ok (.iload_n 3, 1) := by decide +kernel
theorem dX12_paintsBare_78 : decode cX12_paintsBare 78 = .ok (.invokevirtual 368, 3) := by decide +kernel
theorem dX12_paintsBare_81 : decode cX12_paintsBare 81 = .ok (.iload_n 3, 1) := by decide +kernel
theorem dX12_paintsBare_82 : decode cX12_paintsBare 82 = .ok (.iload_n 2, 1) := by decide +kernel
theorem dX12_paintsBare_83 : decode cX12_paintsBare 83 = .ok (.if_icmp .lt 9, 3) := by decide +kernel
theorem dX12_paintsBare_86 : decode cX12_paintsBare 86 = .ok (.aload_n 0, 1) := by decide +kernel
theorem dX12_paintsBare_87 : decode cX12_paintsBare 87 = .ok (.iconst 1, 1) := by decide +kernel
theorem dX12_paintsBare_88 : decode cX12_paintsBare 88 = .ok (.iload_n 3, 1) := by decide +kernel
theorem dX12_paintsBare_89 : decode cX12_paintsBare 89 = .ok (.invokevirtual 368, 3) := by decide +kernel
theorem dX12_paintsBare_92 : decode cX12_paintsBare 92 = .ok (.aload_n 0, 1) := by decide +kernel
theorem dX12_paintsBare_93 : decode cX12_paintsBare 93 = .ok (.iconst 0, 1) := by decide +kernel
theorem dX12_paintsBare_94 : decode cX12_paintsBare 94 = .ok (.iload_n 3, 1) := by decide +kernel
theorem dX12_paintsBare_95 : decode cX12_paintsBare 95 = .ok (.invokevirtual 371, 3) := by decide +kernel
theorem dX12_paintsBare_98 : decode cX12_paintsBare 98 = .ok (.aload_n 0, 1) := by decide +kernel
theorem dX12_paintsBare_99 : decode cX12_paintsBare 99 = .ok (.iconst 1, 1) := by decide +kernel
theorem dX12_paintsBare_100 : decode cX12_paintsBare 100 = .ok (.iload_n 3, 1) := by decide +kernel
theorem dX12_paintsBare_101 : decode cX12_paintsBare 101 = .ok (.invokevirtual 371, 3) := by decide +kernel
theorem dX12_paintsBare_104 : decode cX12_paintsBare 104 = .ok (.iinc 3 1, 3) := by decide +kernel
theorem dX12_paintsBare_107 : decode cX12_paintsBare 107 = .ok (.goto (-68), 3) := by decide +kernel
theorem dX12_paintsBare_110 : decode cX12_paintsBare 110 = .ok (.return_, 1) := by decide +kernel
def md_X12_paintsBare : List (Nat × Nat) := [(10, 39), (10, 40), (10, 41), (10, 42), (162, 0), (163, 0), (167, 0), (168, 0), (169, 0), (170, 0), (171, 0), (172, 0)]
set_option maxRecDepth 100000 in
set_option maxHeartbeats 4000000 in
theorem c_X12_paintsBare {l : Launch} {D : q_D} (τ : q_T) (σ : q_V) (a0 : Nat) (x1 : Int32) (x2 : Int32) (hI : q_I τ σ) (tA0 : τ a0 = some (10, 1)) (rA1 : q_r x1 0 600) (rA2 : q_r x2 0 600) (hW : q_wf σ a0) : q_Cv l D yX12_paintsBare cX12_paintsBare 4 none 5 120 τ σ [.ref a0, .int x1, .int x2] (fun σ1 => q_S md_X12_paintsBare τ σ σ1) := by
  refine q_metv rfl (Nat.le_of_ble_eq_true rfl) (fun X hG hE => ?_)
  show q_O X 0 0 τ σ 0 [(0, .ref a0), (1, .int x1), (2, .int x2)] []
  have hS0 : q_S md_X12_paintsBare τ σ σ := q_S.rf hI
  obtain ⟨bd, hbd, Tbd⟩ := (hI a0 10 1 tA0 37 (by decide)).ref (k := 171) (n := 2) rfl
  obtain ⟨bl, hbl, Tbl⟩ := (hI a0 10 1 tA0 38 (by decide)).ref (k := 172) (n := 2) rfl
  obtain ⟨w0, hw0, -⟩ := (hI bl 172 2 Tbl (0 : Int32).toInt.toNat (by decide)).int (ai_172.2.2 _)
  obtain ⟨w1, hw1, -⟩ := (hI bl 172 2 Tbl (1 : Int32).toInt.toNat (by decide)).int (ai_172.2.2 _)
  refine q_aload_n (pc := 0) hG dX12_paintsBare_0 0 rfl ?_
  refine q_iconst (pc := 1) hG dX12_paintsBare_1 ki_0 ?_
  refine q_putI (pc := 2) hG fl_X12_356 dX12_paintsBare_2 hS0 tA0 ff_10_39 rl_0 (by decide) rfl (fun s2 u2 w2 => ?_)
  have m2 : s2 a0 39 = .int 0 := by rw [u2]; exact q_up_same
  refine q_aload_n (pc := 5) hG dX12_paintsBare_5 0 rfl ?_
  refine q_aload_n (pc := 6) hG dX12_paintsBare_6 0 rfl ?_
  refine q_getR (pc := 7) (k2 := 100) (n2 := 549) hG fl_X12_7 dX12_paintsBare_7 w2.1 tA0 ff_10_0 (fun b7 f7 T7 => ?_)
  have f_1 := (w2.2 _ _ _ _ tA0 rfl).symm.trans f7
  refine q_sipush (pc := 10) hG dX12_paintsBare_10 ks_512 ?_
  refine q_naldc (pc := 13) (a1 := 8) (a2 := 64) hG dX12_paintsBare_13 w2.1 T7 (q_ix rl_512 (by decide)) rfl (fun v13 f13 g13 => ?_)
  have f_2 := (w2.2 _ _ _ _ T7 rfl).symm.trans f13
  refine q_iconst (pc := 14) hG dX12_paintsBare_14 ki_1 ?_
  refine q_isub (pc := 15) hG dX12_paintsBare_15 (fun v15 e15 => ?_)
  have r_3 := (q_subN (lo := 7) (hi := 63) e15 g13 rl_1 (by decide)).2
  refine q_putI (pc := 16) hG fl_X12_359 dX12_paintsBare_16 w2 tA0 ff_10_40 r_3 (by decide) rfl (fun s16 u16 w16 => ?_)
  have m16 : s16 a0 40 = .int v15 := by rw [u16]; exact q_up_same
  refine q_aload_n (pc := 19) hG dX12_paintsBare_19 0 rfl ?_
  refine q_getV (pc := 20) (v := .ref bd) hG fl_X12_86 dX12_paintsBare_20 tA0 (w16.same tA0 rfl hbd) ?_
  refine q_iconst (pc := 23) hG dX12_paintsBare_23 ki_0 ?_
  refine q_iconst (pc := 24) hG dX12_paintsBare_24 ki_m1 ?_
  refine q_iast (pc := 25) hG dX12_paintsBare_25 w16 ai_171 Tbd (q_ix rl_0 (by decide)) rl_m1 (by decide) rfl (fun s25 u25 w25 => ?_)
  have m25 : s25 bd (0 : Int32).toInt.toNat = .int (-1) := by rw [u25]; exact q_up_same
  refine q_aload_n (pc := 26) hG dX12_paintsBare_26 0 rfl ?_
  refine q_getV (pc := 27) (v := .ref bd) hG fl_X12_86 dX12_paintsBare_27 tA0 (w25.same tA0 rfl hbd) ?_
  refine q_iconst (pc := 30) hG dX12_paintsBare_30 ki_1 ?_
  refine q_iconst (pc := 31) hG dX12_paintsBare_31 ki_m1 ?_
  refine q_iast (pc := 32) hG dX12_paintsBare_32 w25 ai_171 Tbd (q_ix rl_1 (by decide)) rl_m1 (by decide) rfl (fun s32 u32 w32 => ?_)
  have m32 : s32 bd (1 : Int32).toInt.toNat = .int (-1) := by rw [u32]; exact q_up_same
  refine q_iload_n (pc := 33) hG dX12_paintsBare_33 1 rfl ?_
  refine q_iload_n (pc := 34) hG dX12_paintsBare_34 2 rfl ?_
  refine q_pS (pc := 35) [.int x1, .int x2] [] hG (c_X12_min τ s32 x1 x2 w32.1) my_X12_min w1000 w999 dX12_paintsBare_35 rfl rfl (Nat.le_of_ble_eq_true rfl) (by decide) (fun v35 p35 => ?_)
  refine q_istore_n (pc := 38) [(3, .int v35), (0, .ref a0), (1, .int x1), (2, .int x2)] hG dX12_paintsBare_38 (by decide) rfl ?_
  have J39 : ∀ (n39 : Nat) (p39_3 : Int32) (σ39 : q_V) (L39 : Int32) (H39 : Int32) (d39 : Int32) (D39 : Int32) (l39 : Int32) (m39 : Int32) (N39 : Int), (q_r p39_3 0 1301) → (q_S md_X12_paintsBare τ σ σ39) → (q_pb σ39 a0 bd bl L39 H39 d39 D39 l39 m39 ∧ q_pm L39.toInt H39.toInt d39.toInt D39.toInt l39.toInt m39.toInt N39 ∧ (p39_3.toInt ≤ 600 ∨ p39_3.toInt + N39 ≤ 1300) ∧ N39 ≤ 700) → ((N39 + ((600 - p39_3.toInt).toNat : Nat)).toNat < n39) → q_O X 0 0 τ σ39 39 [(0, .ref a0), (1, .int x1), (2, .int x2), (3, .int p39_3)] [] := by
    intro n39
    induction n39 with
    | zero => intro p39_3 σ39 L39 H39 d39 D39 l39 m39 N39 r39_3 hS39 iP39 hm39; exact absurd hm39 (Nat.not_lt_zero _)
    | succ n39 ih39 =>
      intro p39_3 σ39 L39 H39 d39 D39 l39 m39 N39 r39_3 hS39 iP39 hm39
      refine q_aload_n (pc := 39) hG dX12_paintsBare_39 0 rfl ?_
      refine q_getV (pc := 40) (v := .int L39) hG fl_X12_356 dX12_paintsBare_40 tA0 iP39.1.1 ?_
      refine q_aload_n (pc := 43) hG dX12_paintsBare_43 0 rfl ?_
      refine q_getV (pc := 44) (v := .int H39) hG fl_X12_359 dX12_paintsBare_44 tA0 iP39.1.2.1 ?_
      have J70 : (L39.toInt ≤ H39.toInt ∨ d39.toInt ≠ -1 ∨ D39.toInt ≠ -1) → q_O X 0 0 τ σ39 70 [(0, .ref a0), (1, .int x1), (2, .int x2), (3, .int p39_3)] [] := by
        intro iA70
        refine q_iload_n (pc := 70) hG dX12_paintsBare_70 3 rfl ?_
        refine q_iload_n (pc := 71) hG dX12_paintsBare_71 1 rfl ?_
        have J81 : ∀ (σ81 : q_V) (L81 : Int32) (H81 : Int32) (d81 : Int32) (D81 : Int32) (l81 : Int32) (m81 : Int32) (N81 : Int), (q_S md_X12_paintsBare τ σ σ81) → (q_pb σ81 a0 bd bl L81 H81 d81 D81 l81 m81 ∧ q_pm L81.toInt H81.toInt d81.toInt D81.toInt l81.toInt m81.toInt N81 ∧ N81 ≤ N39 ∧ (x1.toInt ≤ p39_3.toInt → (d81.toInt ≠ -1 ∨ D81.toInt ≠ -1))) → q_O X 0 0 τ σ81 81 [(0, .ref a0), (1, .int x1), (2, .int x2), (3, .int p39_3)] [] := by
          intro σ81 L81 H81 d81 D81 l81 m81 N81 hS81 iP81
          refine q_iload_n (pc := 81) hG dX12_paintsBare_81 3 rfl ?_
          refine q_iload_n (pc := 82) hG dX12_paintsBare_82 2 rfl ?_
          have J92 : ∀ (σ92 : q_V) (L92 : Int32) (H92 : Int32) (d92 : Int32) (D92 : Int32) (l92 : Int32) (m92 : Int32) (N92 : Int), (q_S md_X12_paintsBare τ σ σ92) → (q_pb σ92 a0 bd bl L92 H92 d92 D92 l92 m92 ∧ q_pm L92.toInt H92.toInt d92.toInt D92.toInt l92.toInt m92.toInt N92 ∧ N92 ≤ N39 ∧ (x1.toInt ≤ p39_3.toInt → (d92.toInt ≠ -1 ∨ D92.toInt ≠ -1))) → q_O X 0 0 τ σ92 92 [(0, .ref a0), (1, .int x1), (2, .int x2), (3, .int p39_3)] [] := by
            intro σ92 L92 H92 d92 D92 l92 m92 N92 hS92 iP92
            refine q_aload_n (pc := 92) hG dX12_paintsBare_92 0 rfl ?_
            refine q_iconst (pc := 93) hG dX12_paintsBare_93 ki_0 ?_
            refine q_iload_n (pc := 94) hG dX12_paintsBare_94 3 rfl ?_
            refine q_cVv (pc := 95) [.int 0, .int p39_3] [] hG (c_X12_endsOne_0 τ σ92 a0 0 p39_3 hS92.1 tA0 rl_0 (q_wf.keep hI hS92.2 tA0 rfl hW) bd bl (hS92.same tA0 rfl hbd) (hS92.same tA0 rfl hbl) Tbd Tbl L92 H92 d92 D92 l92 m92 iP92.1 (fun q => q_pm.lef0 iP92.2.1 q)) my_X12_endsOne mv_X12_endsOne w1119 dX12_paintsBare_95 tA0 (by decide) rfl rfl (Nat.le_of_ble_eq_true rfl) (by decide) (fun s95 p95 => ?_)
            have w95 := hS92.trans p95.1 rfl
            obtain ⟨L95, H95, d95, D95, l95, m95, B95, R95⟩ := p95.2
            obtain ⟨N95, M95, K95⟩ := q_pm.e0 iP92.2.1 R95
            refine q_aload_n (pc := 98) hG dX12_paintsBare_98 0 rfl ?_
            refine q_iconst (pc := 99) hG dX12_paintsBare_99 ki_1 ?_
            refine q_iload_n (pc := 100) hG dX12_paintsBare_100 3 rfl ?_
            refine q_cVv (pc := 101) [.int 1, .int p39_3] [] hG (c_X12_endsOne_1 τ s95 a0 1 p39_3 w95.1 tA0 rl_1 (q_wf.keep hI w95.2 tA0 rfl hW) bd bl (w95.same tA0 rfl hbd) (w95.same tA0 rfl hbl) Tbd Tbl L95 H95 d95 D95 l95 m95 B95 (fun q => q_pm.lef1 M95 q)) my_X12_endsOne mv_X12_endsOne w1119 dX12_paintsBare_101 tA0 (by decide) rfl rfl (Nat.le_of_ble_eq_true rfl) (by decide) (fun s101 p101 => ?_)
            have w101 := w95.trans p101.1 rfl
            obtain ⟨L101, H101, d101, D101, l101, m101, B101, R101⟩ := p101.2
            obtain ⟨N101, M101, K101⟩ := q_pm.e1 M95 R101
            have E101 := q_pmE iP92.2.2.2 K95 K101
            have F101 := iP92.2.2.1
            have G101 := q_pm.nn M101
            obtain ⟨v104, e104⟩ : ∃ z : Int32, z = p39_3 + Int32.ofInt 1 := ⟨_, rfl⟩
            have h104 := q_incN (lo := 1) (hi := 1302) r39_3 (by decide) (by decide) e104
            refine q_iinc (pc := 104) [(3, .int v104), (0, .ref a0), (1, .int x1), (2, .int x2)] hG dX12_paintsBare_104 3 rfl e104 (by decide) rfl ?_
            have Z104 := q_pmZ h104.1 iP39.2.2 E101 F101 G101 rA1.2 r39_3.1
            refine q_goto (pc := 107) 39 hG dX12_paintsBare_107 rfl ?_
            refine q_lv [1, 2, 3, 0] rfl ?_
            exact ih39 v104 s101 L101 H101 d101 D101 l101 m101 N101 Z104.1 w101 ⟨B101, M101, Z104.2.1⟩ (Z104.2.2 _ hm39)
          refine q_icmp_lt (pc := 83) hG 92 dX12_paintsBare_83 rfl ?_ ?_
          · intro c83
            refine q_lv [0, 1, 2, 3] rfl ?_
            exact J92 σ81 L81 H81 d81 D81 l81 m81 N81 hS81 ⟨iP81.1, iP81.2.1, iP81.2.2⟩
          intro c83
          refine q_aload_n (pc := 86) hG dX12_paintsBare_86 0 rfl ?_
          refine q_iconst (pc := 87) hG dX12_paintsBare_87 ki_1 ?_
          refine q_iload_n (pc := 88) hG dX12_paintsBare_88 3 rfl ?_
          refine q_cVv (pc := 89) [.int 1, .int p39_3] [] hG (c_X12_startsOne_1 τ σ81 a0 1 p39_3 hS81.1 tA0 rl_1 (q_wf.keep hI hS81.2 tA0 rfl hW) bd bl (hS81.same tA0 rfl hbd) (hS81.same tA0 rfl hbl) Tbd Tbl L81 H81 d81 D81 l81 m81 iP81.1) my_X12_startsOne mv_X12_startsOne w1116 dX12_paintsBare_89 tA0 (by decide) rfl rfl (Nat.le_of_ble_eq_true rfl) (by decide) (fun s89 p89 => ?_)
          have w89 := hS81.trans p89.1 rfl
          obtain ⟨L89, H89, d89, D89, l89, m89, B89, R89⟩ := p89.2
          obtain ⟨N89, M89, K89⟩ := q_pm.s1 iP81.2.1 R89
          refine q_lv [0, 1, 2, 3] rfl ?_
          exact J92 s89 L89 H89 d89 D89 l89 m89 N89 w89 ⟨B89, M89, ⟨Int.le_trans K89.1 iP81.2.2.1, fun q => K89.2 (iP81.2.2.2 q)⟩⟩
        refine q_icmp_lt (pc := 72) hG 81 dX12_paintsBare_72 rfl ?_ ?_
        · intro c72
          refine q_lv [0, 1, 2, 3] rfl ?_
          exact J81 σ39 L39 H39 d39 D39 l39 m39 N39 hS39 ⟨iP39.1, iP39.2.1, ⟨Int.le_refl _, fun q => absurd q (Int.not_le.mpr c72)⟩⟩
        intro c72
        refine q_aload_n (pc := 75) hG dX12_paintsBare_75 0 rfl ?_
        refine q_iconst (pc := 76) hG dX12_paintsBare_76 ki_0 ?_
        refine q_iload_n (pc := 77) hG dX12_paintsBare_77 3 rfl ?_
        refine q_cVv (pc := 78) [.int 0, .int p39_3] [] hG (c_X12_startsOne_0 τ σ39 a0 0 p39_3 hS39.1 tA0 rl_0 (q_wf.keep hI hS39.2 tA0 rfl hW) bd bl (hS39.same tA0 rfl hbd) (hS39.same tA0 rfl hbl) Tbd Tbl L39 H39 d39 D39 l39 m39 iP39.1) my_X12_startsOne mv_X12_startsOne w1116 dX12_paintsBare_78 tA0 (by decide) rfl rfl (Nat.le_of_ble_eq_true rfl) (by decide) (fun s78 p78 => ?_)
        have w78 := hS39.trans p78.1 rfl
        obtain ⟨L78, H78, d78, D78, l78, m78, B78, R78⟩ := p78.2
        obtain ⟨N78, M78, K78⟩ := q_pm.s0 iP39.2.1 R78
        refine q_lv [0, 1, 2, 3] rfl ?_
        exact J81 s78 L78 H78 d78 D78 l78 m78 N78 w78 ⟨B78, M78, ⟨K78.1, fun _ => K78.2 iA70⟩⟩
      refine q_icmp_le (pc := 47) hG 70 dX12_paintsBare_47 rfl ?_ ?_
      · intro c47
        refine q_lv [0, 1, 2, 3] rfl ?_
        exact J70 (by have o0 := c47; omega)
      intro c47
      refine q_aload_n (pc := 50) hG dX12_paintsBare_50 0 rfl ?_
      refine q_getV (pc := 51) (v := .ref bd) hG fl_X12_86 dX12_paintsBare_51 tA0 (hS39.same tA0 rfl hbd) ?_
      refine q_iconst (pc := 54) hG dX12_paintsBare_54 ki_0 ?_
      refine q_ialdV (pc := 55) (v := .int d39) hG dX12_paintsBare_55 Tbd (by decide) (by decide) (q_ix rl_0 (by decide)) iP39.1.2.2.1 ?_
      refine q_iconst (pc := 56) hG dX12_paintsBare_56 ki_m1 ?_
      refine q_icmp_ne (pc := 57) hG 70 dX12_paintsBare_57 rfl ?_ ?_
      · intro c57
        refine q_lv [0, 1, 2, 3] rfl ?_
        have r_4 := q_rlt (q_r_any H39) (q_r_any L39) c47 2147483646 (by decide)
        have r_5 := q_rgt (q_r_any L39) (q_r_any H39) c47 (-2147483647) (by decide)
        exact J70 (by have o0 := c47; have o1 := c57; have o2 := r_4; have o3 := r_5; have l4 := tl_m1; unfold q_r at o2 o3; omega)
      intro c57
      refine q_aload_n (pc := 60) hG dX12_paintsBare_60 0 rfl ?_
      refine q_getV (pc := 61) (v := .ref bd) hG fl_X12_86 dX12_paintsBare_61 tA0 (hS39.same tA0 rfl hbd) ?_
      refine q_iconst (pc := 64) hG dX12_paintsBare_64 ki_1 ?_
      refine q_ialdV (pc := 65) (v := .int D39) hG dX12_paintsBare_65 Tbd (by decide) (by decide) (q_ix rl_1 (by decide)) iP39.1.2.2.2.1 ?_
      refine q_iconst (pc := 66) hG dX12_paintsBare_66 ki_m1 ?_
      refine q_icmp_eq (pc := 67) hG 110 dX12_paintsBare_67 rfl ?_ ?_
      · intro c67
        exact q_vrt hG hE dX12_paintsBare_110 hS39
      intro c67
      refine q_lv [0, 1, 2, 3] rfl ?_
      have r_6 := q_rlt (q_r_any H39) (q_r_any L39) c47 2147483646 (by decide)
      have r_7 := q_rgt (q_r_any L39) (q_r_any H39) c47 (-2147483647) (by decide)
      have r_8 := q_req rl_m1 c57
      exact J70 (by have o0 := c47; have o1 := c57; have o2 := c67; have o3 := r_6; have o4 := r_7; have o5 := r_8; have l6 := tl_m1; unfold q_r at o3 o4 o5; omega)
  refine q_lv [1, 2, 3, 0] rfl ?_
  have r_9 := q_minN (lo := 0) (hi := 600) p35.2.2 rA1 rA2 (by decide)
  exact J39 _ v35 s32 (0 : Int32) v15 ((-1) : Int32) ((-1) : Int32) w0 w1 (10 * (v15.toInt + 1)) (q_r.mono r_9 (by decide)) w32 ⟨⟨(by rw [u32]; exact (q_keepK tA0 Tbd (by decide)).trans (by rw [u25]; exact (q_keepK tA0 Tbd (by decide)).trans (by rw [u16]; exact (q_up_else (Or.inr (by decide))).trans m2))), (by rw [u32]; exact (q_keepK tA0 Tbd (by decide)).trans (by rw [u25]; exact (q_keepK tA0 Tbd (by decide)).trans m16)), (by rw [u32]; exact (q_up_else (Or.inr (by decide))).trans m25), m32, (by rw [u32]; exact (q_keepK Tbl Tbd (by decide)).trans (by rw [u25]; exact (q_keepK Tbl Tbd (by decide)).trans (by rw [u16]; exact (q_keepK Tbl tA0 (by decide)).trans (by rw [u2]; exact (q_keepK Tbl tA0 (by decide)).trans hw0)))), (by rw [u32]; exact (q_keepK Tbl Tbd (by decide)).trans (by rw [u25]; exact (q_keepK Tbl Tbd (by decide)).trans (by rw [u16]; exact (q_keepK Tbl tA0 (by decide)).trans (by rw [u2]; exact (q_keepK Tbl tA0 (by decide)).trans hw1))))⟩, (And.intro (by have l0 := tl_0; omega) (And.intro (by have o0 := (q_subN (lo := 7) (hi := 63) e15 g13 rl_1 (by decide)).1; have o1 := g13; have o2 := r_3; have l3 := tl_0; have l4 := tl_1; unfold q_r at o1 o2; omega) (And.intro (by have o0 := (q_subN (lo := 7) (hi := 63) e15 g13 rl_1 (by decide)).1; have o1 := g13; have o2 := r_3; have l3 := tl_1; unfold q_r at o1 o2; omega) (Or.inl (And.intro (by have l0 := tl_m1; omega) (Or.inl (And.intro (by have l0 := tl_m1; omega) (by have o0 := (q_subN (lo := 7) (hi := 63) e15 g13 rl_1 (by decide)).1; have o1 := g13; have o2 := r_3; have l3 := tl_0; have l4 := tl_1; unfold q_r at o1 o2; omega)))))))), (by have o0 := (q_subN (lo := 7) (hi := 63) e15 g13 rl_1 (by decide)).1; have o1 := p35.2.2; have o2 := g13; have o3 := r_3; have o4 := r_9; have o5 := rA1; have o6 := rA2; have l7 := tl_1; unfold q_r at o2 o3 o4 o5 o6; omega)⟩ (Nat.lt_succ_self _)
theorem dX12_allDry_0 : decode cX12_allDry 0 = .ok (.iconst 0, 1) := by decide +kernel
theorem dX12_allDry_1 : decode cX12_allDry 1 = .ok (.istore_n 1, 1) := by decide +kernel
theorem dX12_allDry_2 : decode cX12_allDry 2 = .ok (.iconst 0, 1) := by decide +kernel
theorem dX12_allDry_3 : decode cX12_allDry 3 = .ok (.istore_n 2, 1) := by decide +kernel
theorem dX12_allDry_4 : decode cX12_allDry 4 = .ok (.iload_n 2, 1) := by decide +kernel
theorem dX12_allDry_5 : decode cX12_allDry 5 = .ok (.aload_n 0, 1) := by decide +kernel
theorem dX12_allDry_6 : decode cX12_allDry 6 = .ok (.getfield 7, 3) := by decide +kernel
theorem dX12_allDry_9 : decode cX12_allDry 9 = .ok (.sipush 512, 3) := by decide +kernel
theorem dX12_allDry_12 : decode cX12_allDry 12 = .ok (.iaload, 1) := by decide +kernel
theorem dX12_allDry_13 : decode cX12_allDry 13 = .ok (.if_icmp .ge 20, 3) := by decide +kernel
theorem dX12_allDry_16 : decode cX12_allDry 16 = .ok (.iload_n 1, 1) := by decide +kernel
theorem dX12_allDry_17 : decode cX12_allDry 17 = .ok (.aload_n 0, 1) := by decide +kernel
theorem dX12_allDry_18 : decode cX12_allDry 18 = .ok (.getfield 83, 3) := by decide +kernel
theorem dX12_allDry_21 : decode cX12_allDry 21 = .ok (.iload_n 2, 1) := by decide +kernel
theorem dX12_allDry_22 : decode cX12_allDry 22 = .ok (.iaload, 1) := by decide +kernel
theorem dX12_allDry_23 : decode cX12_allDry 23 = .ok (.invokestatic 260, 3) := by decide +kernel
theorem dX12_allDry_26 : decode cX12_allDry 26 = .ok (.istore_n 1, 1) := by decide +kernel
theorem dX12_allDry_27 : decode cX12_allDry 27 = .ok (.iinc 2 1, 3) := by decide +kernel
theorem dX12_allDry_30 : decode cX12_allDry 30 = .ok (.goto (-26), 3) := by decide +kernel
theorem dX12_allDry_33 : decode cX12_allDry 33 = .ok (.iload_n 1, 1) := by decide +kernel
theorem dX12_allDry_34 : decode cX12_allDry 34 = .ok (.ireturn, 1) := by decide +kernel
set_option maxRecDepth 100000 in
set_option maxHeartbeats 4000000 in
theorem c_X12_allDry {l : Launch} {D : q_D} (τ : q_T) (σ : q_V) (a0 : Nat) (hI : q_I τ σ) (tA0 : τ a0 = some (10, 1)) : q_Cp l D yX12_allDry cX12_allDry 3 (some .int) 1 21 τ σ [.ref a0] (fun r => q_r r 0 2147483647) := by
  refine q_meti rfl (Nat.le_of_ble_eq_true rfl) (fun X hG hE => ?_)
  show q_O X 0 0 τ σ 0 [(0, .ref a0)] []
  refine q_iconst (pc := 0) hG dX12_allDry_0 ki_0 ?_
  refine q_istore_n (pc := 1) [(1, .int 0), (0, .ref a0)] hG dX12_allDry_1 (by decide) rfl ?_
  refine q_iconst (pc := 2) hG dX12_allDry_2 ki_0 ?_
  refine q_istore_n (pc := 3) [(2, .int 0), (1, .int 0), (0, .ref a0)] hG dX12_allDry_3 (by decide) rfl ?_
  have J4 : ∀ (n4 : Nat) (p4_1 : Int32) (p4_2 : Int32), (q_r p4_1 0 2147483647) → (q_r p4_2 0 64) → ((64 - p4_2.toInt).toNat < n4) → q_O X 0 0 τ σ 4 [(0, .ref a0), (1, .int p4_1), (2, .int p4_2)] [] := by
    intro n4
    induction n4 with
    | zero => intro p4_1 p4_2 r4_1 r4_2 hm4; exact absurd hm4 (Nat.not_lt_zero _)
    | succ n4 ih4 =>
      intro p4_1 p4_2 r4_1 r4_2 hm4
      refine q_iload_n (pc := 4) hG dX12_allDry_4 2 rfl ?_
      refine q_aload_n (pc := 5) hG dX12_allDry_5 0 rfl ?_
      refine q_getR (pc := 6) (k2 := 100) (n2 := 549) hG fl_X12_7 dX12_allDry_6 hI tA0 ff_10_0 (fun b6 f6 T6 => ?_)
      refine q_sipush (pc := 9) hG dX12_allDry_9 ks_512 ?_
      refine q_naldc (pc := 12) (a1 := 8) (a2 := 64) hG dX12_allDry_12 hI T6 (q_ix rl_512 (by decide)) rfl (fun v12 f12 g12 => ?_)
      refine q_icmp_ge (pc := 13) hG 33 dX12_allDry_13 rfl ?_ ?_
      · intro c13
        refine q_iload_n (pc := 33) hG dX12_allDry_33 1 rfl ?_
        exact q_irt hG hE dX12_allDry_34 ⟨rfl, r4_1⟩
      intro c13
      refine q_iload_n (pc := 16) hG dX12_allDry_16 1 rfl ?_
      refine q_aload_n (pc := 17) hG dX12_allDry_17 0 rfl ?_
      refine q_getR (pc := 18) (k2 := 170) (n2 := 64) hG fl_X12_83 dX12_allDry_18 hI tA0 ff_10_36 (fun b18 f18 T18 => ?_)
      refine q_iload_n (pc := 21) hG dX12_allDry_21 2 rfl ?_
      have r_1 := q_rlt r4_2 g12 c13 63 (by decide)
      refine q_iald (pc := 22) hG dX12_allDry_22 hI ai_170 T18 (q_ix r_1 (by decide)) (fun v22 f22 g22 => ?_)
      refine q_pS (pc := 23) [.int p4_1, .int v22] [] hG (c_X12_max τ σ p4_1 v22 hI) my_X12_max w1003 w1002 dX12_allDry_23 rfl rfl (Nat.le_of_ble_eq_true rfl) (by decide) (fun v23 p23 => ?_)
      refine q_istore_n (pc := 26) [(1, .int v23), (0, .ref a0), (2, .int p4_2)] hG dX12_allDry_26 (by decide) rfl ?_
      obtain ⟨v27, e27⟩ : ∃ z : Int32, z = p4_2 + Int32.ofInt 1 := ⟨_, rfl⟩
      have h27 := q_incN (lo := 1) (hi := 64) r_1 (by decide) (by decide) e27
      refine q_iinc (pc := 27) [(2, .int v27), (1, .int v23), (0, .ref a0)] hG dX12_allDry_27 2 rfl e27 (by decide) rfl ?_
      refine q_goto (pc := 30) 4 hG dX12_allDry_30 rfl ?_
      refine q_lv [2, 1, 0] rfl ?_
      have r_2 := q_maxN (lo := 0) (hi := 2147483647) p23.2.2.1 r4_1 g22 (by decide)
      exact ih4 v23 v27 r_2 (q_r.mono h27.2 (by decide)) (q_measU hm4 (by have o0 := c13; have o1 := h27.1; have o2 := r_1; have o3 := g12; have o4 := h27.2; unfold q_r at o2 o3 o4; omega) (h27.2).2)
  refine q_lv [2, 1, 0] rfl ?_
  exact J4 _ 0 0 (q_r.mono rl_0 (by decide)) (q_r.mono rl_0 (by decide)) (Nat.lt_succ_self _)
theorem dX12_conesFor_0 : decode cX12_conesFor 0 = .ok (.iconst 0, 1) := by decide +kernel
theorem dX12_conesFor_1 : decode cX12_conesFor 1 = .ok (.istore_n 1, 1) := by decide +kernel
theorem dX12_conesFor_2 : decode cX12_conesFor 2 = .ok (.iconst 0, 1) := by decide +kernel
theorem dX12_conesFor_3 : decode cX12_conesFor 3 = .ok (.istore_n 2, 1) := by decide +kernel
theorem dX12_conesFor_4 : decode cX12_conesFor 4 = .ok (.iload_n 2, 1) := by decide +kernel
theorem dX12_conesFor_5 : decode cX12_conesFor 5 = .ok (.aload_n 0, 1) := by decide +kernel
theorem dX12_conesFor_6 : decode cX12_conesFor 6 = .ok (.getfield 7, 3) := by decide +kernel
theorem dX12_conesFor_9 : decode cX12_conesFor 9 = .ok (.sipush 512, 3) := by decide +kernel
theorem dX12_conesFor_12 : decode cX12_conesFor 12 = .ok (.iaload, 1) := by decide +kernel
theorem dX12_conesFor_13 : decode cX12_conesFor 13 = .ok (.if_icmp .ge 89, 3) := by decide +kernel
theorem dX12_conesFor_16 : decode cX12_conesFor 16 = .ok (.iconst 0, 1) := by decide +kernel
theorem dX12_conesFor_17 : decode cX12_conesFor 17 = .ok (.istore_n 3, 1) := by decide +kernel
theorem dX12_conesFor_18 : decode cX12_conesFor 18 = .ok (.iconst 0, 1) := by decide +kernel
theorem dX12_conesFor_19 : decode cX12_conesFor 19 = .ok (.istore 4, 2) := by decide +kernel
theorem dX12_conesFor_21 : decode cX12_conesFor 21 = .ok (.iload 4, 2) := by decide +kernel
theorem dX12_conesFor_23 : decode cX12_conesFor 23 = .ok (.aload_n 0, 1) := by decide +kernel
theorem dX12_conesFor_24 : decode cX12_conesFor 24 = .ok (.getfield 7, 3) := by decide +kernel
theorem dX12_conesFor_27 : decode cX12_conesFor 27 = .ok (.sipush 512, 3) := by decide +kernel
theorem dX12_conesFor_30 : decode cX12_conesFor 30 = .ok (.iaload, 1) := by decide +kernel
theorem dX12_conesFor_31 : decode cX12_conesFor 31 = .ok (.if_icmp .ge 59, 3) := by decide +kernel
theorem dX12_conesFor_34 : decode cX12_conesFor 34 = .ok (.iload_n 3, 1) := by decide +kernel
theorem dX12_conesFor_35 : decode cX12_conesFor 35 = .ok (.aload_n 0, 1) := by decide +kernel
theorem dX12_conesFor_36 : decode cX12_conesFor 36 = .ok (.getfield 80, 3) := by decide +kernel
theorem dX12_conesFor_39 : decode cX12_conesFor 39 = .ok (.iload 4, 2) := by decide +kernel
theorem dX12_conesFor_41 : decode cX12_conesFor 41 = .ok (.iaload, 1) := by decide +kernel
theorem dX12_conesFor_42 : decode cX12_conesFor 42 = .ok (.aload_n 0, 1) := by decide +kernel
theorem dX12_conesFor_43 : decode cX12_conesFor 43 = .ok (.getfield 80, 3) := by decide +kernel
theorem dX12_conesFor_46 : decode cX12_conesFor 46 = .ok (.iload_n 2, 1) := by decide +kernel
theorem dX12_conesFor_47 : decode cX12_conesFor 47 = .ok (.iaload, 1) := by decide +kernel
theorem dX12_conesFor_48 : decode cX12_conesFor 48 = .ok (.if_icmp .gt 33, 3) := by decide +kernel
theorem dX12_conesFor_51 : decode cX12_conesFor 51 = .ok (.aload_n 0, 1) := by decide +kernel
theorem dX12_conesFor_52 : decode cX12_conesFor 52 = .ok (.getfield 80, 3) := by decide +kernel
theorem dX12_conesFor_55 : decode cX12_conesFor 55 = .ok (.iload_n 2, 1) := by decide +kernel
theorem dX12_conesFor_56 : decode cX12_conesFor 56 = .ok (.iaload, 1) := by decide +kernel
theorem dX12_conesFor_57 : decode cX12_conesFor 57 = .ok (.aload_n 0, 1) := by decide +kernel
theorem dX12_conesFor_58 : decode cX12_conesFor 58 = .ok (.getfield 74, 3) := by decide +kernel
theorem dX12_conesFor_61 : decode cX12_conesFor 61 = .ok (.iload 4, 2) := by decide +kernel
theorem dX12_conesFor_63 : decode cX12_conesFor 63 = .ok (.iaload, 1) := by decide +kernel
theorem dX12_conesFor_64 : decode cX12_conesFor 64 = .ok (.aload_n 0, 1) := by decide +kernel
theorem dX12_conesFor_65 : decode cX12_conesFor 65 = .ok (.getfield 83, 3) := by decide +kernel
theorem dX12_conesFor_68 : decode cX12_conesFor 68 = .ok (.iload 4, 2) := by decide +kernel
theorem dX12_conesFor_70 : decode cX12_conesFor 70 = .ok (.iaload, 1) := by decide +kernel
theorem dX12_conesFor_71 : decode cX12_conesFor 71 = .ok (.invokestatic 260, 3) := by decide +kernel
theorem dX12_conesFor_74 : decode cX12_conesFor 74 = .ok (.if_icmp .ge 7, 3) := by decide +kernel
theorem dX12_conesFor_77 : decode cX12_conesFor 77 = .ok (.iconst 1, 1) := by decide +kernel
theorem dX12_conesFor_78 : decode cX12_conesFor 78 = .ok (.goto 4, 3) := by decide +kernel
theorem dX12_conesFor_81 : decode cX12_conesFor 81 = .ok (.iconst 0, 1) := by decide +kernel
theorem dX12_conesFor_82 : decode cX12_conesFor 82 = .ok (.iadd, 1) := by decide +kernel
theorem dX12_conesFor_83 : decode cX12_conesFor 83 = .ok (.istore_n 3, 1) := by decide +kernel
theorem dX12_conesFor_84 : decode cX12_conesFor 84 = .ok (.iinc 4 1, 3) := by decide +kernel
theorem dX12_conesFor_87 : decode cX12_conesFor 87 = .ok (.goto (-66), 3) := by decide +kernel
theorem dX12_conesFor_90 : decode cX12_conesFor 90 = .ok (.iload_n 1, 1) := by decide +kernel
theorem dX12_conesFor_91 : decode cX12_conesFor 91 = .ok (.iload_n 3, 1) := by decide +kernel
theorem dX12_conesFor_92 : decode cX12_conesFor 92 = .ok (.invokestatic 260, 3) := by decide +kernel
theorem dX12_conesFor_95 : decode cX12_conesFor 95 = .ok (.istore_n 1, 1) := by decide +kernel
theorem dX12_conesFor_96 : decode cX12_conesFor 96 = .ok (.iinc 2 1, 3) := by decide +kernel
theorem dX12_conesFor_99 : decode cX12_conesFor 99 = .ok (.goto (-95), 3) := by decide +kernel
theorem dX12_conesFor_102 : decode cX12_conesFor 102 = .ok (.iload_n 1, 1) := by decide +kernel
theorem dX12_conesFor_103 : decode cX12_conesFor 103 = .ok (.ireturn, 1) := by decide +kernel
set_option maxRecDepth 100000 in
set_option maxHeartbeats 4000000 in
theorem c_X12_conesFor {l : Launch} {D : q_D} (τ : q_T) (σ : q_V) (a0 : Nat) (hI : q_I τ σ) (tA0 : τ a0 = some (10, 1)) : q_Cp l D yX12_conesFor cX12_conesFor 5 (some .int) 1 21 τ σ [.ref a0] (fun r => q_r r 0 2147483647) := by
  refine q_meti rfl (Nat.le_of_ble_eq_true rfl) (fun X hG hE => ?_)
  show q_O X 0 0 τ σ 0 [(0, .ref a0)] []
  refine q_iconst (pc := 0) hG dX12_conesFor_0 ki_0 ?_
  refine q_istore_n (pc := 1) [(1, .int 0), (0, .ref a0)] hG dX12_conesFor_1 (by decide) rfl ?_
  refine q_iconst (pc := 2) hG dX12_conesFor_2 ki_0 ?_
  refine q_istore_n (pc := 3) [(2, .int 0), (1, .int 0), (0, .ref a0)] hG dX12_conesFor_3 (by decide) rfl ?_
  have J4 : ∀ (n4 : Nat) (p4_1 : Int32) (p4_2 : Int32), (q_r p4_1 0 2147483647) → (q_r p4_2 0 64) → ((64 - p4_2.toInt).toNat < n4) → q_O X 0 0 τ σ 4 [(0, .ref a0), (1, .int p4_1), (2, .int p4_2)] [] := by
    intro n4
    induction n4 with
    | zero => intro p4_1 p4_2 r4_1 r4_2 hm4; exact absurd hm4 (Nat.not_lt_zero _)
    | succ n4 ih4 =>
      intro p4_1 p4_2 r4_1 r4_2 hm4
      refine q_iload_n (pc := 4) hG dX12_conesFor_4 2 rfl ?_
      refine q_aload_n (pc := 5) hG dX12_conesFor_5 0 rfl ?_
      refine q_getR (pc := 6) (k2 := 100) (n2 := 549) hG fl_X12_7 dX12_conesFor_6 hI tA0 ff_10_0 (fun b6 f6 T6 => ?_)
      refine q_sipush (pc := 9) hG dX12_conesFor_9 ks_512 ?_
      refine q_naldc (pc := 12) (a1 := 8) (a2 := 64) hG dX12_conesFor_12 hI T6 (q_ix rl_512 (by decide)) rfl (fun v12 f12 g12 => ?_)
      refine q_icmp_ge (pc := 13) hG 102 dX12_conesFor_13 rfl ?_ ?_
      · intro c13
        refine q_iload_n (pc := 102) hG dX12_conesFor_102 1 rfl ?_
        exact q_irt hG hE dX12_conesFor_103 ⟨rfl, r4_1⟩
      intro c13
      refine q_iconst (pc := 16) hG dX12_conesFor_16 ki_0 ?_
      refine q_istore_n (pc := 17) [(3, .int 0), (0, .ref a0), (1, .int p4_1), (2, .int p4_2)] hG dX12_conesFor_17 (by decide) rfl ?_
      refine q_iconst (pc := 18) hG dX12_conesFor_18 ki_0 ?_
      refine q_istore (pc := 19) [(4, .int 0), (3, .int 0), (0, .ref a0), (1, .int p4_1), (2, .int p4_2)] hG dX12_conesFor_19 (by decide) rfl ?_
      have J21 : ∀ (n21 : Nat) (p21_3 : Int32) (p21_4 : Int32), (q_r p21_4 0 64) → ((64 - p21_4.toInt).toNat < n21) → q_O X 0 0 τ σ 21 [(0, .ref a0), (1, .int p4_1), (2, .int p4_2), (3, .int p21_3), (4, .int p21_4)] [] := by
        intro n21
        induction n21 with
        | zero => intro p21_3 p21_4 r21_4 hm21; exact absurd hm21 (Nat.not_lt_zero _)
        | succ n21 ih21 =>
          intro p21_3 p21_4 r21_4 hm21
          refine q_iload (pc := 21) hG dX12_conesFor_21 4 rfl ?_
          refine q_aload_n (pc := 23) hG dX12_conesFor_23 0 rfl ?_
          refine q_getV (pc := 24) (v := .ref b6) hG fl_X12_7 dX12_conesFor_24 tA0 f6 ?_
          refine q_sipush (pc := 27) hG dX12_conesFor_27 ks_512 ?_
          refine q_ialdV (pc := 30) (v := .int v12) hG dX12_conesFor_30 T6 (by decide) (by decide) (q_ix rl_512 (by decide)) f12 ?_
          refine q_icmp_ge (pc := 31) hG 90 dX12_conesFor_31 rfl ?_ ?_
          · intro c31
            refine q_iload_n (pc := 90) hG dX12_conesFor_90 1 rfl ?_
            refine q_iload_n (pc := 91) hG dX12_conesFor_91 3 rfl ?_
            refine q_pS (pc := 92) [.int p4_1, .int p21_3] [] hG (c_X12_max τ σ p4_1 p21_3 hI) my_X12_max w1003 w1002 dX12_conesFor_92 rfl rfl (Nat.le_of_ble_eq_true rfl) (by decide) (fun v92 p92 => ?_)
            refine q_istore_n (pc := 95) [(1, .int v92), (0, .ref a0), (2, .int p4_2), (3, .int p21_3), (4, .int p21_4)] hG dX12_conesFor_95 (by decide) rfl ?_
            obtain ⟨v96, e96⟩ : ∃ z : Int32, z = p4_2 + Int32.ofInt 1 := ⟨_, rfl⟩
            have r_1 := q_rlt r4_2 g12 c13 63 (by decide)
            have h96 := q_incN (lo := 1) (hi := 64) r_1 (by decide) (by decide) e96
            refine q_iinc (pc := 96) [(2, .int v96), (1, .int v92), (0, .ref a0), (3, .int p21_3), (4, .int p21_4)] hG dX12_conesFor_96 2 rfl e96 (by decide) rfl ?_
            refine q_goto (pc := 99) 4 hG dX12_conesFor_99 rfl ?_
            refine q_lv [2, 1, 0] rfl ?_
            have r_2 := q_maxN (lo := 0) (hi := 2147483647) p92.2.2.1 r4_1 (q_r_any p21_3) (by decide)
            have r_3 := q_rge r21_4 g12 c31
            exact ih4 v92 v96 r_2 (q_r.mono h96.2 (by decide)) (q_measU hm4 (by have o0 := c13; have o1 := c31; have o2 := h96.1; have o3 := r_3; have o4 := r_1; have o5 := g12; have o6 := h96.2; unfold q_r at o3 o4 o5 o6; omega) (h96.2).2)
          intro c31
          refine q_iload_n (pc := 34) hG dX12_conesFor_34 3 rfl ?_
          refine q_aload_n (pc := 35) hG dX12_conesFor_35 0 rfl ?_
          refine q_getR (pc := 36) (k2 := 169) (n2 := 64) hG fl_X12_80 dX12_conesFor_36 hI tA0 ff_10_35 (fun b36 f36 T36 => ?_)
          refine q_iload (pc := 39) hG dX12_conesFor_39 4 rfl ?_
          have r_4 := q_rlt r21_4 g12 c31 63 (by decide)
          refine q_iald (pc := 41) hG dX12_conesFor_41 hI ai_169 T36 (q_ix r_4 (by decide)) (fun v41 f41 g41 => ?_)
          refine q_aload_n (pc := 42) hG dX12_conesFor_42 0 rfl ?_
          refine q_getV (pc := 43) (v := .ref b36) hG fl_X12_80 dX12_conesFor_43 tA0 f36 ?_
          refine q_iload_n (pc := 46) hG dX12_conesFor_46 2 rfl ?_
          have r_5 := q_rlt r4_2 g12 c13 63 (by decide)
          refine q_iald (pc := 47) hG dX12_conesFor_47 hI ai_169 T36 (q_ix r_5 (by decide)) (fun v47 f47 g47 => ?_)
          have J82 : ∀ (p82_s0 : Int32), (q_r p82_s0 0 1) → q_O X 0 0 τ σ 82 [(0, .ref a0), (1, .int p4_1), (2, .int p4_2), (4, .int p21_4)] [.int p82_s0, .int p21_3] := by
            intro p82_s0 r82_s0
            refine q_iadd (pc := 82) hG dX12_conesFor_82 (fun v82 e82 => ?_)
            refine q_istore_n (pc := 83) [(3, .int v82), (0, .ref a0), (1, .int p4_1), (2, .int p4_2), (4, .int p21_4)] hG dX12_conesFor_83 (by decide) rfl ?_
            obtain ⟨v84, e84⟩ : ∃ z : Int32, z = p21_4 + Int32.ofInt 1 := ⟨_, rfl⟩
            have h84 := q_incN (lo := 1) (hi := 64) r_4 (by decide) (by decide) e84
            refine q_iinc (pc := 84) [(4, .int v84), (3, .int v82), (0, .ref a0), (1, .int p4_1), (2, .int p4_2)] hG dX12_conesFor_84 4 rfl e84 (by decide) rfl ?_
            refine q_goto (pc := 87) 21 hG dX12_conesFor_87 rfl ?_
            refine q_lv [2, 3, 4, 1, 0] rfl ?_
            exact ih21 v82 v84 (q_r.mono h84.2 (by decide)) (q_measU hm21 (by have o0 := c31; have o1 := h84.1; have o2 := c13; have o3 := r_4; have o4 := r_5; have o5 := g12; have o6 := h84.2; unfold q_r at o3 o4 o5 o6; omega) (h84.2).2)
          have J81 : q_O X 0 0 τ σ 81 [(0, .ref a0), (1, .int p4_1), (2, .int p4_2), (4, .int p21_4)] [.int p21_3] := by
            refine q_iconst (pc := 81) hG dX12_conesFor_81 ki_0 ?_
            refine q_lv [0, 1, 2, 3] rfl ?_
            exact J82 0 (q_r.mono rl_0 (by decide))
          refine q_icmp_gt (pc := 48) hG 81 dX12_conesFor_48 rfl ?_ ?_
          · intro c48
            refine q_lv [0, 1, 2, 4] rfl ?_
            exact J81 
          intro c48
          refine q_aload_n (pc := 51) hG dX12_conesFor_51 0 rfl ?_
          refine q_getV (pc := 52) (v := .ref b36) hG fl_X12_80 dX12_conesFor_52 tA0 f36 ?_
          refine q_iload_n (pc := 55) hG dX12_conesFor_55 2 rfl ?_
          refine q_ialdV (pc := 56) (v := .int v47) hG dX12_conesFor_56 T36 (by decide) (by decide) (q_ix r_5 (by decide)) f47 ?_
          refine q_aload_n (pc := 57) hG dX12_conesFor_57 0 rfl ?_
          refine q_getR (pc := 58) (k2 := 167) (n2 := 64) hG fl_X12_74 dX12_conesFor_58 hI tA0 ff_10_33 (fun b58 f58 T58 => ?_)
          refine q_iload (pc := 61) hG dX12_conesFor_61 4 rfl ?_
          refine q_iald (pc := 63) hG dX12_conesFor_63 hI ai_167 T58 (q_ix r_4 (by decide)) (fun v63 f63 g63 => ?_)
          refine q_aload_n (pc := 64) hG dX12_conesFor_64 0 rfl ?_
          refine q_getR (pc := 65) (k2 := 170) (n2 := 64) hG fl_X12_83 dX12_conesFor_65 hI tA0 ff_10_36 (fun b65 f65 T65 => ?_)
          refine q_iload (pc := 68) hG dX12_conesFor_68 4 rfl ?_
          refine q_iald (pc := 70) hG dX12_conesFor_70 hI ai_170 T65 (q_ix r_4 (by decide)) (fun v70 f70 g70 => ?_)
          refine q_pS (pc := 71) [.int v63, .int v70] [.int v47, .int p21_3] hG (c_X12_max τ σ v63 v70 hI) my_X12_max w1003 w1002 dX12_conesFor_71 rfl rfl (Nat.le_of_ble_eq_true rfl) (by decide) (fun v71 p71 => ?_)
          refine q_icmp_ge (pc := 74) hG 81 dX12_conesFor_74 rfl ?_ ?_
          · intro c74
            have r_6 := q_maxN (lo := (-2147483648)) (hi := 2147483647) p71.2.2.1 g63 g70 (by decide)
            refine q_lv [0, 1, 2, 4] rfl ?_
            exact J81 
          intro c74
          have r_7 := q_maxN (lo := (-2147483648)) (hi := 2147483647) p71.2.2.1 g63 g70 (by decide)
          refine q_iconst (pc := 77) hG dX12_conesFor_77 ki_1 ?_
          refine q_goto (pc := 78) 82 hG dX12_conesFor_78 rfl ?_
          refine q_lv [0, 1, 2, 4] rfl ?_
          exact J82 1 (q_r.mono rl_1 (by decide))
      refine q_lv [2, 3, 4, 1, 0] rfl ?_
      exact J21 _ 0 0 (q_r.mono rl_0 (by decide)) (Nat.lt_succ_self _)
  refine q_lv [2, 1, 0] rfl ?_
  exact J4 _ 0 0 (q_r.mono rl_0 (by decide)) (q_r.mono rl_0 (by decide)) (Nat.lt_succ_self _)
theorem dX12_begins_0 : decode cX12_begins 0 = .ok (.iload_n 1, 1) := by decide +kernel
theorem dX12_begins_1 : decode cX12_begins 1 = .ok (.iconst 0, 1) := by decide +kernel
theorem dX12_begins_2 : decode cX12_begins 2 = .ok (.sipush 600, 3) := by decide +kernel
theorem dX12_begins_5 : decode cX12_begins 5 = .ok (.invokestatic 102, 3) := by decide +kernel
theorem dX12_begins_8 : decode cX12_begins 8 = .ok (.ifCond .eq 12, 3) := by decide +kernel
theorem dX12_begins_11 : decode cX12_begins 11 = .ok (.iload_n 2, 1) := by decide +kernel
theorem dX12_begins_12 : decode cX12_begins 12 = .ok (.iconst 0, 1) := by decide +kernel
theorem dX12_begins_13 : decode cX12_begins 13 = .ok (.iconst 2, 1) := by decide +kernel
theorem dX12_begins_14 : decode cX12_begins 14 = .ok (.invokestatic 102, 3) := by decide +kernel
theorem dX12_begins_17 : decode cX12_begins 17 = .ok (.ifCond .ne 5, 3) := by decide +kernel
theorem dX12_begins_20 : decode cX12_begins 20 = .ok (.iconst (-1), 1) := by decide +kernel
theorem dX12_begins_21 : decode cX12_begins 21 = .ok (.ireturn, 1) := by decide +kernel
theorem dX12_begins_22 : decode cX12_begins 22 = .ok (.aload_n 0, 1) := by decide +kernel
theorem dX12_begins_23 : decode cX12_begins 23 = .ok (.iload_n 1, 1) := by decide +kernel
theorem dX12_begins_24 : decode cX12_begins 24 = .ok (.iload_n 1, 1) := by decide +kernel
theorem dX12_begins_25 : decode cX12_begins 25 = .ok (.invokevirtual 374, 3) := by decide +kernel
theorem dX12_begins_28 : decode cX12_begins 28 = .ok (.iload_n 2, 1) := by decide +kernel
theorem dX12_begins_29 : decode cX12_begins 29 = .ok (.ifCond .ne 10, 3) := by decide +kernel
theorem dX12_begins_32 : decode cX12_begins 32 = .ok (.aload_n 0, 1) := by decide +kernel
theorem dX12_begins_33 : decode cX12_begins 33 = .ok (.invokevirtual 377, 3) := by decide +kernel
theorem dX12_begins_36 : decode cX12_begins 36 = .ok (.goto 19, 3) := by decide +kernel
theorem dX12_begins_39 : decode cX12_begins 39 = .ok (.iload_n 2, 1) := by decide +kernel
theorem dX12_begins_40 : decode cX12_begins 40 = .ok (.iconst 1, 1) := by decide +kernel
theorem dX12_begins_41 : decode cX12_begins 41 = .ok (.if_icmp .ne 10, 3) := by decide +kernel
theorem dX12_begins_44 : decode cX12_begins 44 = .ok (.aload_n 0, 1) := by decide +kernel
theorem dX12_begins_45 : decode cX12_begins 45 = .ok (.invokevirtual 380, 3) := by decide +kernel
theorem dX12_begins_48 : decode cX12_begins 48 = .ok (.goto 7, 3) := by decide +kernel
theorem dX12_begins_51 : decode cX12_begins 51 = .ok (.aload_n 0, 1) := by decide +kernel
theorem dX12_begins_52 : decode cX12_begins 52 = .ok (.getfield 362, 3) := by decide +kernel
theorem dX12_begins_55 : decode cX12_begins 55 = .ok (.ireturn, 1) := by decide +kernel
def md_X12_begins : List (Nat × Nat) := [(10, 39), (10, 40), (10, 41), (10, 42), (162, 0), (163, 0), (167, 0), (168, 0), (169, 0), (170, 0), (171, 0), (172, 0)]
set_option maxRecDepth 100000 in
set_option maxHeartbeats 4000000 in
theorem c_X12_begins {l : Launch} {D : q_D} (τ : q_T) (σ : q_V) (a0 : Nat) (x1 : Int32) (x2 : Int32) (hI : q_I τ σ) (tA0 : τ a0 = some (10, 1)) (hW : q_wf σ a0) : q_Ci l D yX12_begins cX12_begins 3 (some .int) 6 143 τ σ [.ref a0, .int x1, .int x2] (fun r σ1 => q_S md_X12_begins τ σ σ1 ∧ (q_r r (-2147483648) 2147483647)) := by
  refine q_meti rfl (Nat.le_of_ble_eq_true rfl) (fun X hG hE => ?_)
  show q_O X 0 0 τ σ 0 [(0, .ref a0), (1, .int x1), (2, .int x2)] []
  have hS0 : q_S md_X12_begins τ σ σ := q_S.rf hI
  refine q_iload_n (pc := 0) hG dX12_begins_0 1 rfl ?_
  refine q_iconst (pc := 1) hG dX12_begins_1 ki_0 ?_
  refine q_sipush (pc := 2) hG dX12_begins_2 ks_600 ?_
  refine q_pS (pc := 5) [.int x1, .int 0, .int 600] [] hG (c_X12_in τ σ x1 0 600 hI) my_X12_in w778 w777 dX12_begins_5 rfl rfl (Nat.le_of_ble_eq_true rfl) (by decide) (fun v5 p5 => ?_)
  refine q_if_eq (pc := 8) hG 20 dX12_begins_8 rfl ?_ ?_
  · intro c8
    refine q_iconst (pc := 20) hG dX12_begins_20 ki_m1 ?_
    exact q_irt hG hE dX12_begins_21 ⟨hS0, (q_r.mono rl_m1 (by decide))⟩
  intro c8
  have g_1 := p5.2.2.mp (q_one p5.1 c8)
  have r_2 := q_rge (q_r_any x1) rl_0 g_1.1
  refine q_iload_n (pc := 11) hG dX12_begins_11 2 rfl ?_
  refine q_iconst (pc := 12) hG dX12_begins_12 ki_0 ?_
  refine q_iconst (pc := 13) hG dX12_begins_13 ki_2 ?_
  refine q_pS (pc := 14) [.int x2, .int 0, .int 2] [] hG (c_X12_in τ σ x2 0 2 hI) my_X12_in w778 w777 dX12_begins_14 rfl rfl (Nat.le_of_ble_eq_true rfl) (by decide) (fun v14 p14 => ?_)
  refine q_if_ne (pc := 17) hG 22 dX12_begins_17 rfl ?_ ?_
  · intro c17
    have g_3 := p14.2.2.mp (q_one p14.1 c17)
    have r_4 := q_rge (q_r_any x2) rl_0 g_3.1
    refine q_aload_n (pc := 22) hG dX12_begins_22 0 rfl ?_
    refine q_iload_n (pc := 23) hG dX12_begins_23 1 rfl ?_
    refine q_iload_n (pc := 24) hG dX12_begins_24 1 rfl ?_
    have r_5 := q_rle r_2 rl_600 g_1.2
    refine q_cVv (pc := 25) [.int x1, .int x1] [] hG (c_X12_paintsBare τ σ a0 x1 x1 hI tA0 r_5 r_5 hW) my_X12_paintsBare mv_X12_paintsBare w1113 dX12_begins_25 tA0 (by decide) rfl rfl (Nat.le_of_ble_eq_true rfl) (by decide) (fun s25 p25 => ?_)
    have w25 := hS0.trans p25 rfl
    refine q_iload_n (pc := 28) hG dX12_begins_28 2 rfl ?_
    refine q_if_ne (pc := 29) hG 39 dX12_begins_29 rfl ?_ ?_
    · intro c29
      have r_6 := q_rle r_4 rl_2 g_3.2
      refine q_iload_n (pc := 39) hG dX12_begins_39 2 rfl ?_
      refine q_iconst (pc := 40) hG dX12_begins_40 ki_1 ?_
      refine q_icmp_ne (pc := 41) hG 51 dX12_begins_41 rfl ?_ ?_
      · intro c41
        have r_7 := q_neL (c := 1) r_6 c29 (by decide)
        refine q_aload_n (pc := 51) hG dX12_begins_51 0 rfl ?_
        refine q_getI (pc := 52) hG fl_X12_362 dX12_begins_52 w25.1 tA0 ff_10_41 (fun v52 f52 g52 => ?_)
        exact q_irt hG hE dX12_begins_55 ⟨w25, g52⟩
      intro c41
      have r_8 := q_neL (c := 1) r_6 c29 (by decide)
      refine q_aload_n (pc := 44) hG dX12_begins_44 0 rfl ?_
      refine q_pV (pc := 45) [] [] hG (c_X12_conesFor τ s25 a0 w25.1 tA0) my_X12_conesFor mv_X12_conesFor w1125 dX12_begins_45 tA0 (by decide) rfl rfl (Nat.le_of_ble_eq_true rfl) (by decide) (fun v45 p45 => ?_)
      refine q_goto (pc := 48) 55 hG dX12_begins_48 rfl ?_
      exact q_irt hG hE dX12_begins_55 ⟨w25, (q_r.mono p45 (by decide))⟩
    intro c29
    have r_9 := q_rle r_4 rl_2 g_3.2
    refine q_aload_n (pc := 32) hG dX12_begins_32 0 rfl ?_
    refine q_pV (pc := 33) [] [] hG (c_X12_allDry τ s25 a0 w25.1 tA0) my_X12_allDry mv_X12_allDry w1122 dX12_begins_33 tA0 (by decide) rfl rfl (Nat.le_of_ble_eq_true rfl) (by decide) (fun v33 p33 => ?_)
    refine q_goto (pc := 36) 55 hG dX12_begins_36 rfl ?_
    exact q_irt hG hE dX12_begins_55 ⟨w25, (q_r.mono p33 (by decide))⟩
  intro c17
  refine q_iconst (pc := 20) hG dX12_begins_20 ki_m1 ?_
  exact q_irt hG hE dX12_begins_21 ⟨hS0, (q_r.mono rl_m1 (by decide))⟩
theorem dX12_dryFrom_0 : decode cX12_dryFrom 0 = .ok (.aload_n 0, 1) := by decide +kernel
theorem dX12_dryFrom_1 : decode cX12_dryFrom 1 = .ok (.iload_n 1, 1) := by decide +kernel
theorem dX12_dryFrom_2 : decode cX12_dryFrom 2 = .ok (.iload_n 1, 1) := by decide +kernel
theorem dX12_dryFrom_3 : decode cX12_dryFrom 3 = .ok (.invokevirtual 374, 3) := by decide +kernel
theorem dX12_dryFrom_6 : decode cX12_dryFrom 6 = .ok (.aload_n 0, 1) := by decide +kernel
theorem dX12_dryFrom_7 : decode cX12_dryFrom 7 = .ok (.invokevirtual 377, 3) := by decide +kernel
theorem dX12_dryFrom_10 : decode cX12_dryFrom 10 = .ok (.ireturn, 1) := by decide +kernel
def md_X12_dryFrom : List (Nat × Nat) := [(10, 39), (10, 40), (10, 41), (10, 42), (162, 0), (163, 0), (167, 0), (168, 0), (169, 0), (170, 0), (171, 0), (172, 0)]
set_option maxRecDepth 100000 in
set_option maxHeartbeats 4000000 in
theorem c_X12_dryFrom {l : Launch} {D : q_D} (τ : q_T) (σ : q_V) (a0 : Nat) (x1 : Int32) (hI : q_I τ σ) (tA0 : τ a0 = some (10, 1)) (rA1 : q_r x1 0 600) (hW : q_wf σ a0) : q_Ci l D yX12_dryFrom cX12_dryFrom 2 (some .int) 6 143 τ σ [.ref a0, .int x1] (fun r σ1 => q_S md_X12_dryFrom τ σ σ1 ∧ (q_r r 0 2147483647)) := by
  refine q_meti rfl (Nat.le_of_ble_eq_true rfl) (fun X hG hE => ?_)
  show q_O X 0 0 τ σ 0 [(0, .ref a0), (1, .int x1)] []
  have hS0 : q_S md_X12_dryFrom τ σ σ := q_S.rf hI
  refine q_aload_n (pc := 0) hG dX12_dryFrom_0 0 rfl ?_
  refine q_iload_n (pc := 1) hG dX12_dryFrom_1 1 rfl ?_
  refine q_iload_n (pc := 2) hG dX12_dryFrom_2 1 rfl ?_
  refine q_cVv (pc := 3) [.int x1, .int x1] [] hG (c_X12_paintsBare τ σ a0 x1 x1 hI tA0 rA1 rA1 hW) my_X12_paintsBare mv_X12_paintsBare w1113 dX12_dryFrom_3 tA0 (by decide) rfl rfl (Nat.le_of_ble_eq_true rfl) (by decide) (fun s3 p3 => ?_)
  have w3 := hS0.trans p3 rfl
  refine q_aload_n (pc := 6) hG dX12_dryFrom_6 0 rfl ?_
  refine q_pV (pc := 7) [] [] hG (c_X12_allDry τ s3 a0 w3.1 tA0) my_X12_allDry mv_X12_allDry w1122 dX12_dryFrom_7 tA0 (by decide) rfl rfl (Nat.le_of_ble_eq_true rfl) (by decide) (fun v7 p7 => ?_)
  exact q_irt hG hE dX12_dryFrom_10 ⟨w3, p7⟩
theorem dX12_latest_0 : decode cX12_latest 0 = .ok (.iload_n 1, 1) := by decide +kernel
theorem dX12_latest_1 : decode cX12_latest 1 = .ok (.iconst 0, 1) := by decide +kernel
theorem dX12_latest_2 : decode cX12_latest 2 = .ok (.sipush 600, 3) := by decide +kernel
theorem dX12_latest_5 : decode cX12_latest 5 = .ok (.invokestatic 102, 3) := by decide +kernel
theorem dX12_latest_8 : decode cX12_latest 8 = .ok (.ifCond .ne 5, 3) := by decide +kernel
theorem dX12_latest_11 : decode cX12_latest 11 = .ok (.iconst (-1), 1) := by decide +kernel
theorem dX12_latest_12 : decode cX12_latest 12 = .ok (.ireturn, 1) := by decide +kernel
theorem dX12_latest_13 : decode cX12_latest 13 = .ok (.iload_n 1, 1) := by decide +kernel
theorem dX12_latest_14 : decode cX12_latest 14 = .ok (.istore_n 2, 1) := by decide +kernel
theorem dX12_latest_15 : decode cX12_latest 15 = .ok (.iload_n 2, 1) := by decide +kernel
theorem dX12_latest_16 : decode cX12_latest 16 = .ok (.ifCond .lt 19, 3) := by decide +kernel
theorem dX12_latest_19 : decode cX12_latest 19 = .ok (.aload_n 0, 1) := by decide +kernel
theorem dX12_latest_20 : decode cX12_latest 20 = .ok (.iload_n 2, 1) := by decide +kernel
theorem dX12_latest_21 : decode cX12_latest 21 = .ok (.invokevirtual 383, 3) := by decide +kernel
theorem dX12_latest_24 : decode cX12_latest 24 = .ok (.iload_n 1, 1) := by decide +kernel
theorem dX12_latest_25 : decode cX12_latest 25 = .ok (.if_icmp .le 10, 3) := by decide +kernel
theorem dX12_latest_28 : decode cX12_latest 28 = .ok (.iload_n 2, 1) := by decide +kernel
theorem dX12_latest_29 : decode cX12_latest 29 = .ok (.iconst 1, 1) := by decide +kernel
theorem dX12_latest_30 : decode cX12_latest 30 = .ok (.isub, 1) := by decide +kernel
theorem dX12_latest_31 : decode cX12_latest 31 = .ok (.istore_n 2, 1) := by decide +kernel
theorem dX12_latest_32 : decode cX12_latest 32 = .ok (.goto (-17), 3) := by decide +kernel
theorem dX12_latest_35 : decode cX12_latest 35 = .ok (.iload_n 2, 1) := by decide +kernel
theorem dX12_latest_36 : decode cX12_latest 36 = .ok (.ifCond .ge 8, 3) := by decide +kernel
theorem dX12_latest_39 : decode cX12_latest 39 = .ok (.bipush (-2), 2) := by decide +kernel
theorem dX12_latest_41 : decode cX12_latest 41 = .ok (.goto 4, 3) := by decide +kernel
theorem dX12_latest_44 : decode cX12_latest 44 = .ok (.iload_n 2, 1) := by decide +kernel
theorem dX12_latest_45 : decode cX12_latest 45 = .ok (.ireturn, 1) := by decide +kernel
def md_X12_latest : List (Nat × Nat) := [(10, 39), (10, 40), (10, 41), (10, 42), (162, 0), (163, 0), (167, 0), (168, 0), (169, 0), (170, 0), (171, 0), (172, 0)]
set_option maxRecDepth 100000 in
set_option maxHeartbeats 4000000 in
theorem c_X12_latest {l : Launch} {D : q_D} (τ : q_T) (σ : q_V) (a0 : Nat) (x1 : Int32) (hI : q_I τ σ) (tA0 : τ a0 = some (10, 1)) (hW : q_wf σ a0) : q_Ci l D yX12_latest cX12_latest 3 (some .int) 7 164 τ σ [.ref a0, .int x1] (fun r σ1 => q_S md_X12_latest τ σ σ1 ∧ (q_r r (-2) 600)) := by
  refine q_meti rfl (Nat.le_of_ble_eq_true rfl) (fun X hG hE => ?_)
  show q_O X 0 0 τ σ 0 [(0, .ref a0), (1, .int x1)] []
  have hS0 : q_S md_X12_latest τ σ σ := q_S.rf hI
  refine q_iload_n (pc := 0) hG dX12_latest_0 1 rfl ?_
  refine q_iconst (pc := 1) hG dX12_latest_1 ki_0 ?_
  refine q_sipush (pc := 2) hG dX12_latest_2 ks_600 ?_
  refine q_pS (pc := 5) [.int x1, .int 0, .int 600] [] hG (c_X12_in τ σ x1 0 600 hI) my_X12_in w778 w777 dX12_latest_5 rfl rfl (Nat.le_of_ble_eq_true rfl) (by decide) (fun v5 p5 => ?_)
  refine q_if_ne (pc := 8) hG 13 dX12_latest_8 rfl ?_ ?_
  · intro c8
    have g_1 := p5.2.2.mp (q_one p5.1 c8)
    have r_2 := q_rge (q_r_any x1) rl_0 g_1.1
    refine q_iload_n (pc := 13) hG dX12_latest_13 1 rfl ?_
    refine q_istore_n (pc := 14) [(2, .int x1), (0, .ref a0), (1, .int x1)] hG dX12_latest_14 (by decide) rfl ?_
    have J15 : ∀ (n15 : Nat) (p15_2 : Int32) (σ15 : q_V), (q_r p15_2 (-1) 600) → (q_S md_X12_latest τ σ σ15) → ((p15_2.toInt - (-1)).toNat < n15) → q_O X 0 0 τ σ15 15 [(0, .ref a0), (1, .int x1), (2, .int p15_2)] [] := by
      intro n15
      induction n15 with
      | zero => intro p15_2 σ15 r15_2 hS15 hm15; exact absurd hm15 (Nat.not_lt_zero _)
      | succ n15 ih15 =>
        intro p15_2 σ15 r15_2 hS15 hm15
        refine q_iload_n (pc := 15) hG dX12_latest_15 2 rfl ?_
        have J35 : ∀ (σ35 : q_V), (q_S md_X12_latest τ σ σ35) → q_O X 0 0 τ σ35 35 [(2, .int p15_2)] [] := by
          intro σ35 hS35
          refine q_iload_n (pc := 35) hG dX12_latest_35 0 rfl ?_
          refine q_if_ge (pc := 36) hG 44 dX12_latest_36 rfl ?_ ?_
          · intro c36
            refine q_iload_n (pc := 44) hG dX12_latest_44 0 rfl ?_
            have r_3 := q_zge r15_2 c36
            exact q_irt hG hE dX12_latest_45 ⟨hS35, (q_r.mono r_3 (by decide))⟩
          intro c36
          refine q_bipush (pc := 39) hG dX12_latest_39 kb_m2 ?_
          refine q_goto (pc := 41) 45 hG dX12_latest_41 rfl ?_
          exact q_irt hG hE dX12_latest_45 ⟨hS35, (q_r.mono rl_m2 (by decide))⟩
        refine q_if_lt (pc := 16) hG 35 dX12_latest_16 rfl ?_ ?_
        · intro c16
          refine q_lv [2] rfl ?_
          exact J35 σ15 hS15
        intro c16
        refine q_aload_n (pc := 19) hG dX12_latest_19 0 rfl ?_
        refine q_iload_n (pc := 20) hG dX12_latest_20 2 rfl ?_
        have r_4 := q_zge r15_2 c16
        refine q_cVi (pc := 21) [.int p15_2] [] hG (c_X12_dryFrom τ σ15 a0 p15_2 hS15.1 tA0 r_4 (q_wf.keep hI hS15.2 tA0 rfl hW)) my_X12_dryFrom mv_X12_dryFrom w1132 dX12_latest_21 tA0 (by decide) rfl rfl (Nat.le_of_ble_eq_true rfl) (by decide) (fun v21 s21 p21 => ?_)
        have w21 := hS15.trans p21.1 rfl
        refine q_iload_n (pc := 24) hG dX12_latest_24 1 rfl ?_
        refine q_icmp_le (pc := 25) hG 35 dX12_latest_25 rfl ?_ ?_
        · intro c25
          have r_5 := q_rle r_2 rl_600 g_1.2
          refine q_lv [2] rfl ?_
          exact J35 s21 w21
        intro c25
        have r_6 := q_rle r_2 rl_600 g_1.2
        refine q_iload_n (pc := 28) hG dX12_latest_28 2 rfl ?_
        refine q_iconst (pc := 29) hG dX12_latest_29 ki_1 ?_
        refine q_isub (pc := 30) hG dX12_latest_30 (fun v30 e30 => ?_)
        refine q_istore_n (pc := 31) [(2, .int v30), (0, .ref a0), (1, .int x1)] hG dX12_latest_31 (by decide) rfl ?_
        refine q_goto (pc := 32) 15 hG dX12_latest_32 rfl ?_
        refine q_lv [1, 2, 0] rfl ?_
        have r_7 := (q_subN (lo := (-1)) (hi := 599) e30 r_4 rl_1 (by decide)).2
        exact ih15 v30 s21 (q_r.mono r_7 (by decide)) w21 (q_measD hm15 (by have o0 := c16; have o1 := (q_subN (lo := (-1)) (hi := 599) e30 r_4 rl_1 (by decide)).1; have o2 := r_4; have o3 := r_7; have l4 := tl_1; unfold q_r at o2 o3; omega) (r_7).1)
    refine q_lv [1, 2, 0] rfl ?_
    have r_8 := q_rle r_2 rl_600 g_1.2
    exact J15 _ x1 σ (q_r.mono r_8 (by decide)) hS0 (Nat.lt_succ_self _)
  intro c8
  refine q_iconst (pc := 11) hG dX12_latest_11 ki_m1 ?_
  exact q_irt hG hE dX12_latest_12 ⟨hS0, (q_r.mono rl_m1 (by decide))⟩
theorem dX12_gcd_0 : decode cX12_gcd 0 = .ok (.iload_n 0, 1) := by decide +kernel
theorem dX12_gcd_1 : decode cX12_gcd 1 = .ok (.istore_n 2, 1) := by decide +kernel
theorem dX12_gcd_2 : decode cX12_gcd 2 = .ok (.iload_n 1, 1) := by decide +kernel
theorem dX12_gcd_3 : decode cX12_gcd 3 = .ok (.istore_n 3, 1) := by decide +kernel
theorem dX12_gcd_4 : decode cX12_gcd 4 = .ok (.iload_n 3, 1) := by decide +kernel
theorem dX12_gcd_5 : decode cX12_gcd 5 = .ok (.ifCond .eq 16, 3) := by decide +kernel
theorem dX12_gcd_8 : decode cX12_gcd 8 = .ok (.iload_n 2, 1) := by decide +kernel
theorem dX12_gcd_9 : decode cX12_gcd 9 = .ok (.iload_n 3, 1) := by decide +kernel
theorem dX12_gcd_10 : decode cX12_gcd 10 = .ok (.irem, 1) := by decide +kernel
theorem dX12_gcd_11 : decode cX12_gcd 11 = .ok (.istore 4, 2) := by decide +kernel
theorem dX12_gcd_13 : decode cX12_gcd 13 = .ok (.iload_n 3, 1) := by decide +kernel
theorem dX12_gcd_14 : decode cX12_gcd 14 = .ok (.istore_n 2, 1) := by decide +kernel
theorem dX12_gcd_15 : decode cX12_gcd 15 = .ok (.iload 4, 2) := by decide +kernel
theorem dX12_gcd_17 : decode cX12_gcd 17 = .ok (.istore_n 3, 1) := by decide +kernel
theorem dX12_gcd_18 : decode cX12_gcd 18 = .ok (.goto (-14), 3) := by decide +kernel
theorem dX12_gcd_21 : decode cX12_gcd 21 = .ok (.iload_n 2, 1) := by decide +kernel
theorem dX12_gcd_22 : decode cX12_gcd 22 = .ok (.ireturn, 1) := by decide +kernel
set_option maxRecDepth 100000 in
set_option maxHeartbeats 4000000 in
theorem c_X12_gcd {l : Launch} {D : q_D} (τ : q_T) (σ : q_V) (x0 : Int32) (x1 : Int32) (hI : q_I τ σ) (rA0 : q_r x0 0 10200) (rA1 : q_r x1 1 10200) : q_Cp l D yX12_gcd cX12_gcd 5 (some .int) 0 0 τ σ [.int x0, .int x1] (fun r => q_r r 1 10200) := by
  refine q_meti rfl (Nat.le_of_ble_eq_true rfl) (fun X hG hE => ?_)
  show q_O X 0 0 τ σ 0 [(0, .int x0), (1, .int x1)] []
  refine q_iload_n (pc := 0) hG dX12_gcd_0 0 rfl ?_
  refine q_istore_n (pc := 1) [(2, .int x0), (0, .int x0), (1, .int x1)] hG dX12_gcd_1 (by decide) rfl ?_
  refine q_iload_n (pc := 2) hG dX12_gcd_2 2 rfl ?_
  refine q_istore_n (pc := 3) [(3, .int x1), (2, .int x0), (0, .int x0), (1, .int x1)] hG dX12_gcd_3 (by decide) rfl ?_
  have J4 : ∀ (n4 : Nat) (p4_2 : Int32) (p4_3 : Int32), (q_r p4_2 0 10200) → (q_r p4_3 0 10200) → (1 ≤ p4_2.toInt + p4_3.toInt) → ((p4_3.toInt - 0).toNat < n4) → q_O X 0 0 τ σ 4 [(2, .int p4_2), (3, .int p4_3)] [] := by
    intro n4
    induction n4 with
    | zero => intro p4_2 p4_3 r4_2 r4_3 iG4 hm4; exact absurd hm4 (Nat.not_lt_zero _)
    | succ n4 ih4 =>
      intro p4_2 p4_3 r4_2 r4_3 iG4 hm4
      refine q_iload_n (pc := 4) hG dX12_gcd_4 1 rfl ?_
      refine q_if_eq (pc := 5) hG 21 dX12_gcd_5 rfl ?_ ?_
      · intro c5
        refine q_iload_n (pc := 21) hG dX12_gcd_21 0 rfl ?_
        have r_1 := q_zeq c5
        exact q_irt hG hE dX12_gcd_22 ⟨rfl, (show q_r p4_2 1 10200 from ⟨(by have o0 := iG4; have o1 := c5; have o2 := r4_2; have o3 := r_1; unfold q_r at o2 o3; omega), (by have o0 := iG4; have o1 := c5; have o2 := r4_2; have o3 := r_1; unfold q_r at o2 o3; omega)⟩)⟩
      intro c5
      refine q_iload_n (pc := 8) hG dX12_gcd_8 0 rfl ?_
      refine q_iload_n (pc := 9) hG dX12_gcd_9 1 rfl ?_
      have r_2 := q_neL (c := 1) r4_3 c5 (by decide)
      refine q_irem (pc := 10) hG dX12_gcd_10 (q_nzr r_2 (by decide)) (fun v10 e10 => ?_)
      refine q_istore (pc := 11) [(4, .int v10), (2, .int p4_2), (3, .int p4_3)] hG dX12_gcd_11 (by decide) rfl ?_
      refine q_iload_n (pc := 13) hG dX12_gcd_13 2 rfl ?_
      refine q_istore_n (pc := 14) [(2, .int p4_3), (4, .int v10), (3, .int p4_3)] hG dX12_gcd_14 (by decide) rfl ?_
      refine q_iload (pc := 15) hG dX12_gcd_15 1 rfl ?_
      refine q_istore_n (pc := 17) [(3, .int v10), (2, .int p4_3), (4, .int v10)] hG dX12_gcd_17 (by decide) rfl ?_
      refine q_goto (pc := 18) 4 hG dX12_gcd_18 rfl ?_
      refine q_lv [1, 0] rfl ?_
      have r_3 := q_r.mono (c := 0) (d := 10199) (q_remP e10 r4_2 r_2 (by decide)).2.1 (by decide)
      exact ih4 p4_3 v10 (q_r.mono r_2 (by decide)) (q_r.mono r_3 (by decide)) (by have o0 := iG4; have o1 := c5; have o2 := (q_remP e10 r4_2 r_2 (by decide)).2.2; have o3 := (q_remL e10 r4_2 r_2 (by decide)); have o4 := r4_2; have o5 := r_2; have o6 := r_3; unfold q_r at o4 o5 o6; omega) (q_measD hm4 (by have o0 := iG4; have o1 := c5; have o2 := (q_remP e10 r4_2 r_2 (by decide)).2.2; have o3 := (q_remL e10 r4_2 r_2 (by decide)); have o4 := r4_2; have o5 := r_2; have o6 := r_3; unfold q_r at o4 o5 o6; omega) (r_3).1)
  refine q_lv [1, 0] rfl ?_
  exact J4 _ x0 x1 rA0 (q_r.mono rA1 (by decide)) (by have o0 := rA0; have o1 := rA1; unfold q_r at o0 o1; omega) (Nat.lt_succ_self _)
theorem dX12_dewOdds_0 : decode cX12_dewOdds 0 = .ok (.iload_n 1, 1) := by decide +kernel
theorem dX12_dewOdds_1 : decode cX12_dewOdds 1 = .ok (.iconst 0, 1) := by decide +kernel
theorem dX12_dewOdds_2 : decode cX12_dewOdds 2 = .ok (.sipush 600, 3) := by decide +kernel
theorem dX12_dewOdds_5 : decode cX12_dewOdds 5 = .ok (.invokestatic 102, 3) := by decide +kernel
theorem dX12_dewOdds_8 : decode cX12_dewOdds 8 = .ok (.ifCond .eq 42, 3) := by decide +kernel
theorem dX12_dewOdds_11 : decode cX12_dewOdds 11 = .ok (.iload_n 2, 1) := by decide +kernel
theorem dX12_dewOdds_12 : decode cX12_dewOdds 12 = .ok (.iconst 0, 1) := by decide +kernel
theorem dX12_dewOdds_13 : decode cX12_dewOdds 13 = .ok (.sipush 9999, 3) := by decide +kernel
theorem dX12_dewOdds_16 : decode cX12_dewOdds 16 = .ok (.invokestatic 102, 3) := by decide +kernel
theorem dX12_dewOdds_19 : decode cX12_dewOdds 19 = .ok (.ifCond .eq 31, 3) := by decide +kernel
theorem dX12_dewOdds_22 : decode cX12_dewOdds 22 = .ok (.iload_n 3, 1) := by decide +kernel
theorem dX12_dewOdds_23 : decode cX12_dewOdds 23 = .ok (.iconst 1, 1) := by decide +kernel
theorem dX12_dewOdds_24 : decode cX12_dewOdds 24 = .ok (.bipush 40, 2) := by decide +kernel
theorem dX12_dewOdds_26 : decode cX12_dewOdds 26 = .ok (.invokestatic 102, 3) := by decide +kernel
theorem dX12_dewOdds_29 : decode cX12_dewOdds 29 = .ok (.ifCond .eq 21, 3) := by decide +kernel
theorem dX12_dewOdds_32 : decode cX12_dewOdds 32 = .ok (.iload 4, 2) := by decide +kernel
theorem dX12_dewOdds_34 : decode cX12_dewOdds 34 = .ok (.iconst 0, 1) := by decide +kernel
theorem dX12_dewOdds_35 : decode cX12_dewOdds 35 = .ok (.iconst 1, 1) := by decide +kernel
theorem dX12_dewOdds_36 : decode cX12_dewOdds 36 = .ok (.invokestatic 102, 3) := by decide +kernel
theorem dX12_dewOdds_39 : decode cX12_dewOdds 39 = .ok (.ifCond .eq 11, 3) := by decide +kernel
theorem dX12_dewOdds_42 : decode cX12_dewOdds 42 = .ok (.iload_n 3, 1) := by decide +kernel
theorem dX12_dewOdds_43 : decode cX12_dewOdds 43 = .ok (.aload_n 0, 1) := by decide +kernel
theorem dX12_dewOdds_44 : decode cX12_dewOdds 44 = .ok (.getfield 119, 3) := by decide +kernel
theorem dX12_dewOdds_47 : decode cX12_dewOdds 47 = .ok (.if_icmp .le 5, 3) := by decide +kernel
theorem dX12_dewOdds_50 : decode cX12_dewOdds 50 = .ok (.iconst (-1), 1) := by decide +kernel
theorem dX12_dewOdds_51 : decode cX12_dewOdds 51 = .ok (.ireturn, 1) := by decide +kernel
theorem dX12_dewOdds_52 : decode cX12_dewOdds 52 = .ok (.aload_n 0, 1) := by decide +kernel
theorem dX12_dewOdds_53 : decode cX12_dewOdds 53 = .ok (.iconst 0, 1) := by decide +kernel
theorem dX12_dewOdds_54 : decode cX12_dewOdds 54 = .ok (.putfield 119, 3) := by decide +kernel
theorem dX12_dewOdds_57 : decode cX12_dewOdds 57 = .ok (.aload_n 0, 1) := by decide +kernel
theorem dX12_dewOdds_58 : decode cX12_dewOdds 58 = .ok (.iload_n 1, 1) := by decide +kernel
theorem dX12_dewOdds_59 : decode cX12_dewOdds 59 = .ok (.invokevirtual 383, 3) := by decide +kernel
theorem dX12_dewOdds_62 : decode cX12_dewOdds 62 = .ok (.istore 5, 2) := by decide +kernel
theorem dX12_dewOdds_64 : decode cX12_dewOdds 64 = .ok (.iconst 0, 1) := by decide +kernel
theorem dX12_dewOdds_65 : decode cX12_dewOdds 65 = .ok (.istore 6, 2) := by decide +kernel
theorem dX12_dewOdds_67 : decode cX12_dewOdds 67 = .ok (.iconst 0, 1) := by decide +kernel
theorem dX12_dewOdds_68 : decode cX12_dewOdds 68 = .ok (.istore 7, 2) := by decide +kernel
theorem dX12_dewOdds_70 : decode cX12_dewOdds 70 = .ok (.iconst 0, 1) := by decide +kernel
theorem dX12_dewOdds_71 : decode cX12_dewOdds 71 = .ok (.istore 8, 2) := by decide +kernel
theorem dX12_dewOdds_73 : decode cX12_dewOdds 73 = .ok (.iload 8, 2) := by decide +kernel
theorem dX12_dewOdds_75 : decode cX12_dewOdds 75 = .ok (.iload_n 3, 1) := by decide +kernel
theorem dX12_dewOdds_76 : decode cX12_dewOdds 76 = .ok (.if_icmp .ge 54, 3) := by decide +kernel
theorem dX12_dewOdds_79 : decode cX12_dewOdds 79 = .ok (.iload 6, 2) := by decide +kernel
theorem dX12_dewOdds_81 : decode cX12_dewOdds 81 = .ok (.aload_n 0, 1) := by decide +kernel
theorem dX12_dewOdds_82 : decode cX12_dewOdds 82 = .ok (.getfield 19, 3) := by decide +kernel
theorem dX12_dewOdds_85 : decode cX12_dewOdds 85 = .ok (.iload 8, 2) := by decide +kernel
theorem dX12_dewOdds_87 : decode cX12_dewOdds 87 = .ok (.baload, 1) := by decide +kernel
theorem dX12_dewOdds_88 : decode cX12_dewOdds 88 = .ok (.sipush 255, 3) := by decide +kernel
theorem dX12_dewOdds_91 : decode cX12_dewOdds 91 = .ok (.iand, 1) := by decide +kernel
theorem dX12_dewOdds_92 : decode cX12_dewOdds 92 = .ok (.iadd, 1) := by decide +kernel
theorem dX12_dewOdds_93 : decode cX12_dewOdds 93 = .ok (.istore 6, 2) := by decide +kernel
theorem dX12_dewOdds_95 : decode cX12_dewOdds 95 = .ok (.iload 7, 2) := by decide +kernel
theorem dX12_dewOdds_97 : decode cX12_dewOdds 97 = .ok (.iload 5, 2) := by decide +kernel
theorem dX12_dewOdds_99 : decode cX12_dewOdds 99 = .ok (.iload_n 2, 1) := by decide +kernel
theorem dX12_dewOdds_100 : decode cX12_dewOdds 100 = .ok (.iload 8, 2) := by decide +kernel
theorem dX12_dewOdds_102 : decode cX12_dewOdds 102 = .ok (.iadd, 1) := by decide +kernel
theorem dX12_dewOdds_103 : decode cX12_dewOdds 103 = .ok (.if_icmp .gt 17, 3) := by decide +kernel
theorem dX12_dewOdds_106 : decode cX12_dewOdds 106 = .ok (.aload_n 0, 1) := by decide +kernel
theorem dX12_dewOdds_107 : decode cX12_dewOdds 107 = .ok (.getfield 19, 3) := by decide +kernel
theorem dX12_dewOdds_110 : decode cX12_dewOdds 110 = .ok (.iload 8, 2) := by decide +kernel
theorem dX12_dewOdds_112 : decode cX12_dewOdds 112 = .ok (.baload, 1) := by decide +kernel
theorem dX12_dewOdds_113 : decode cX12_dewOdds 113 = .ok (.sipush 255, 3) := by decide +kernel
theorem dX12_dewOdds_116 : decode cX12_dewOdds 116 = .ok (.iand, 1) := by decide +kernel
theorem dX12_dewOdds_117 : decode cX12_dewOdds 117 = .ok (.goto 4, 3) := by decide +kernel
theorem dX12_dewOdds_120 : decode cX12_dewOdds 120 = .ok (.iconst 0, 1) := by decide +kernel
theorem dX12_dewOdds_121 : decode cX12_dewOdds 121 = .ok (.iadd, 1) := by decide +kernel
theorem dX12_dewOdds_122 : decode cX12_dewOdds 122 = .ok (.istore 7, 2) := by decide +kernel
theorem dX12_dewOdds_124 : decode cX12_dewOdds 124 = .ok (.iinc 8 1, 3) := by decide +kernel
theorem dX12_dewOdds_127 : decode cX12_dewOdds 127 = .ok (.goto (-54), 3) := by decide +kernel
theorem dX12_dewOdds_130 : decode cX12_dewOdds 130 = .ok (.iload 6, 2) := by decide +kernel
theorem dX12_dewOdds_132 : decode cX12_dewOdds 132 = .ok (.ifCond .ne 6, 3) := by decide +kernel
theorem dX12_dewOdds_135 : decode cX12_dewOdds 135 = .ok (.bipush (-2), 2) := by decide +kernel
theorem dX12_dewOdds_137 : decode cX12_dewOdds 137 = .ok (.ireturn, 1) := by decide +kernel
theorem dX12_dewOdds_138 : decode cX12_dewOdds 138 = .ok (.iload 7, 2) := by decide +kernel
theorem dX12_dewOdds_140 : decode cX12_dewOdds 140 = .ok (.iload 6, 2) := by decide +kernel
theorem dX12_dewOdds_142 : decode cX12_dewOdds 142 = .ok (.invokestatic 386, 3) := by decide +kernel
theorem dX12_dewOdds_145 : decode cX12_dewOdds 145 = .ok (.istore 8, 2) := by decide +kernel
theorem dX12_dewOdds_147 : decode cX12_dewOdds 147 = .ok (.iload 4, 2) := by decide +kernel
theorem dX12_dewOdds_149 : decode cX12_dewOdds 149 = .ok (.ifCond .ne 11, 3) := by decide +kernel
theorem dX12_dewOdds_152 : decode cX12_dewOdds 152 = .ok (.iload 7, 2) := by decide +kernel
theorem dX12_dewOdds_154 : decode cX12_dewOdds 154 = .ok (.iload 8, 2) := by decide +kernel
theorem dX12_dewOdds_156 : decode cX12_dewOdds 156 = .ok (.idiv, 1) := by decide +kernel
theorem dX12_dewOdds_157 : decode cX12_dewOdds 157 = .ok (.goto 8, 3) := by decide +kernel
theorem dX12_dewOdds_160 : decode cX12_dewOdds 160 = .ok (.iload 6, 2) := by decide +kernel
theorem dX12_dewOdds_162 : decode cX12_dewOdds 162 = .ok (.iload 8, 2) := by decide +kernel
theorem dX12_dewOdds_164 : decode cX12_dewOdds 164 = .ok (.idiv, 1) := by decide +kernel
theorem dX12_dewOdds_165 : decode cX12_dewOdds 165 = .ok (.ireturn, 1) := by decide +kernel
def md_X12_dewOdds : List (Nat × Nat) := [(10, 4), (10, 39), (10, 40), (10, 41), (10, 42), (162, 0), (163, 0), (167, 0), (168, 0), (169, 0), (170, 0), (171, 0), (172, 0)]
set_option maxRecDepth 100000 in
set_option maxHeartbeats 4000000 in
theorem c_X12_dewOdds {l : Launch} {D : q_D} (τ : q_T) (σ : q_V) (a0 : Nat) (x1 : Int32) (x2 : Int32) (x3 : Int32) (x4 : Int32) (hI : q_I τ σ) (tA0 : τ a0 = some (10, 1)) (hW : q_wf σ a0) : q_Ci l D yX12_dewOdds cX12_dewOdds 9 (some .int) 7 164 τ σ [.ref a0, .int x1, .int x2, .int x3, .int x4] (fun r σ1 => q_S md_X12_dewOdds τ σ σ1 ∧ (q_r r (-2) 10200) ∧ (∀ t : Int32, σ a0 4 = .int t → ∃ z : Int32, σ1 a0 4 = .int z ∧ (((0 ≤ x1.toInt ∧ x1.toInt ≤ 600) ∧ (0 ≤ x2.toInt ∧ x2.toInt ≤ 9999) ∧ (1 ≤ x3.toInt ∧ x3.toInt ≤ 40) ∧ (0 ≤ x4.toInt ∧ x4.toInt ≤ 1) ∧ x3.toInt ≤ t.toInt) → z.toInt = 0) ∧ (¬ ((0 ≤ x1.toInt ∧ x1.toInt ≤ 600) ∧ (0 ≤ x2.toInt ∧ x2.toInt ≤ 9999) ∧ (1 ≤ x3.toInt ∧ x3.toInt ≤ 40) ∧ (0 ≤ x4.toInt ∧ x4.toInt ≤ 1) ∧ x3.toInt ≤ t.toInt) → z.toInt = t.toInt))) := by
  refine q_meti rfl (Nat.le_of_ble_eq_true rfl) (fun X hG hE => ?_)
  show q_O X 0 0 τ σ 0 [(0, .ref a0), (1, .int x1), (2, .int x2), (3, .int x3), (4, .int x4)] []
  have hS0 : q_S md_X12_dewOdds τ σ σ := q_S.rf hI
  obtain ⟨q_1v, q_1f, q_1r⟩ := (hI a0 10 1 tA0 4 (by decide)).int ff_10_4
  refine q_iload_n (pc := 0) hG dX12_dewOdds_0 1 rfl ?_
  refine q_iconst (pc := 1) hG dX12_dewOdds_1 ki_0 ?_
  refine q_sipush (pc := 2) hG dX12_dewOdds_2 ks_600 ?_
  refine q_pS (pc := 5) [.int x1, .int 0, .int 600] [] hG (c_X12_in τ σ x1 0 600 hI) my_X12_in w778 w777 dX12_dewOdds_5 rfl rfl (Nat.le_of_ble_eq_true rfl) (by decide) (fun v5 p5 => ?_)
  refine q_if_eq (pc := 8) hG 50 dX12_dewOdds_8 rfl ?_ ?_
  · intro c8
    refine q_iconst (pc := 50) hG dX12_dewOdds_50 ki_m1 ?_
    have r_2 := q_zeq c8
    exact q_irt hG hE dX12_dewOdds_51 ⟨hS0, (q_r.mono rl_m1 (by decide)), (fun t e => by cases e.symm.trans q_1f; exact ⟨q_1v, q_1f, (by have o0 := p5.2.2; have o1 := c8; have o2 := q_1r; have o3 := r_2; have l4 := tl_m1; have l5 := tl_0; have l6 := tl_600; unfold q_r at o2 o3; omega)⟩)⟩
  intro c8
  have g_3 := p5.2.2.mp (q_one p5.1 c8)
  have r_4 := q_rge (q_r_any x1) rl_0 g_3.1
  refine q_iload_n (pc := 11) hG dX12_dewOdds_11 2 rfl ?_
  refine q_iconst (pc := 12) hG dX12_dewOdds_12 ki_0 ?_
  refine q_sipush (pc := 13) hG dX12_dewOdds_13 ks_9999 ?_
  refine q_pS (pc := 16) [.int x2, .int 0, .int 9999] [] hG (c_X12_in τ σ x2 0 9999 hI) my_X12_in w778 w777 dX12_dewOdds_16 rfl rfl (Nat.le_of_ble_eq_true rfl) (by decide) (fun v16 p16 => ?_)
  refine q_if_eq (pc := 19) hG 50 dX12_dewOdds_19 rfl ?_ ?_
  · intro c19
    refine q_iconst (pc := 50) hG dX12_dewOdds_50 ki_m1 ?_
    have r_5 := q_zeq c19
    have r_6 := q_neL (c := 1) p5.1 c8 (by decide)
    have r_7 := q_rle r_4 rl_600 g_3.2
    exact q_irt hG hE dX12_dewOdds_51 ⟨hS0, (q_r.mono rl_m1 (by decide)), (fun t e => by cases e.symm.trans q_1f; exact ⟨q_1v, q_1f, (by have o0 := p5.2.2; have o1 := c8; have o2 := g_3.1; have o3 := g_3.2; have o4 := p16.2.2; have o5 := c19; have o6 := q_1r; have o7 := r_5; have o8 := r_6; have o9 := r_7; have l10 := tl_m1; have l11 := tl_0; have l12 := tl_600; have l13 := tl_9999; unfold q_r at o6 o7 o8 o9; omega)⟩)⟩
  intro c19
  have g_8 := p16.2.2.mp (q_one p16.1 c19)
  have r_9 := q_rge (q_r_any x2) rl_0 g_8.1
  refine q_iload_n (pc := 22) hG dX12_dewOdds_22 3 rfl ?_
  refine q_iconst (pc := 23) hG dX12_dewOdds_23 ki_1 ?_
  refine q_bipush (pc := 24) hG dX12_dewOdds_24 kb_40 ?_
  refine q_pS (pc := 26) [.int x3, .int 1, .int 40] [] hG (c_X12_in τ σ x3 1 40 hI) my_X12_in w778 w777 dX12_dewOdds_26 rfl rfl (Nat.le_of_ble_eq_true rfl) (by decide) (fun v26 p26 => ?_)
  refine q_if_eq (pc := 29) hG 50 dX12_dewOdds_29 rfl ?_ ?_
  · intro c29
    refine q_iconst (pc := 50) hG dX12_dewOdds_50 ki_m1 ?_
    have r_10 := q_neL (c := 1) p16.1 c19 (by decide)
    have r_11 := q_zeq c29
    have r_12 := q_neL (c := 1) p5.1 c8 (by decide)
    have r_13 := q_rle r_4 rl_600 g_3.2
    have r_14 := q_rle r_9 rl_9999 g_8.2
    exact q_irt hG hE dX12_dewOdds_51 ⟨hS0, (q_r.mono rl_m1 (by decide)), (fun t e => by cases e.symm.trans q_1f; exact ⟨q_1v, q_1f, (by have o0 := p5.2.2; have o1 := c8; have o2 := g_3.1; have o3 := g_3.2; have o4 := p16.2.2; have o5 := c19; have o6 := g_8.1; have o7 := g_8.2; have o8 := p26.2.2; have o9 := c29; have o10 := q_1r; have o11 := r_10; have o12 := r_11; have o13 := r_12; have o14 := r_13; have o15 := r_14; have l16 := tl_m1; have l17 := tl_0; have l18 := tl_1; have l19 := tl_40; have l20 := tl_600; have l21 := tl_9999; unfold q_r at o10 o11 o12 o13 o14 o15; omega)⟩)⟩
  intro c29
  have g_15 := p26.2.2.mp (q_one p26.1 c29)
  have r_16 := q_rge (q_r_any x3) rl_1 g_15.1
  refine q_iload (pc := 32) hG dX12_dewOdds_32 4 rfl ?_
  refine q_iconst (pc := 34) hG dX12_dewOdds_34 ki_0 ?_
  refine q_iconst (pc := 35) hG dX12_dewOdds_35 ki_1 ?_
  refine q_pS (pc := 36) [.int x4, .int 0, .int 1] [] hG (c_X12_in τ σ x4 0 1 hI) my_X12_in w778 w777 dX12_dewOdds_36 rfl rfl (Nat.le_of_ble_eq_true rfl) (by decide) (fun v36 p36 => ?_)
  refine q_if_eq (pc := 39) hG 50 dX12_dewOdds_39 rfl ?_ ?_
  · intro c39
    refine q_iconst (pc := 50) hG dX12_dewOdds_50 ki_m1 ?_
    have r_17 := q_neL (c := 1) p16.1 c19 (by decide)
    have r_18 := q_neL (c := 1) p26.1 c29 (by decide)
    have r_19 := q_zeq c39
    have r_20 := q_neL (c := 1) p5.1 c8 (by decide)
    have r_21 := q_rle r_4 rl_600 g_3.2
    have r_22 := q_rle r_9 rl_9999 g_8.2
    have r_23 := q_rle r_16 rl_40 g_15.2
    exact q_irt hG hE dX12_dewOdds_51 ⟨hS0, (q_r.mono rl_m1 (by decide)), (fun t e => by cases e.symm.trans q_1f; exact ⟨q_1v, q_1f, (by have o0 := p5.2.2; have o1 := c8; have o2 := g_3.1; have o3 := g_3.2; have o4 := p16.2.2; have o5 := c19; have o6 := g_8.1; have o7 := g_8.2; have o8 := p26.2.2; have o9 := c29; have o10 := g_15.1; have o11 := g_15.2; have o12 := p36.2.2; have o13 := c39; have o14 := q_1r; have o15 := r_17; have o16 := r_18; have o17 := r_19; have o18 := r_20; have o19 := r_21; have o20 := r_22; have o21 := r_23; have l22 := tl_m1; have l23 := tl_0; have l24 := tl_1; have l25 := tl_40; have l26 := tl_600; have l27 := tl_9999; unfold q_r at o14 o15 o16 o17 o18 o19 o20 o21; omega)⟩)⟩
  intro c39
  have g_24 := p36.2.2.mp (q_one p36.1 c39)
  have r_25 := q_rge (q_r_any x4) rl_0 g_24.1
  refine q_iload_n (pc := 42) hG dX12_dewOdds_42 3 rfl ?_
  refine q_aload_n (pc := 43) hG dX12_dewOdds_43 0 rfl ?_
  refine q_getV (pc := 44) (v := .int q_1v) hG fl_X12_119 dX12_dewOdds_44 tA0 q_1f ?_
  refine q_icmp_le (pc := 47) hG 52 dX12_dewOdds_47 rfl ?_ ?_
  · intro c47
    have r_26 := q_rle r_16 rl_40 g_15.2
    refine q_aload_n (pc := 52) hG dX12_dewOdds_52 0 rfl ?_
    refine q_iconst (pc := 53) hG dX12_dewOdds_53 ki_0 ?_
    refine q_putI (pc := 54) hG fl_X12_119 dX12_dewOdds_54 hS0 tA0 ff_10_4 rl_0 (by decide) rfl (fun s54 u54 w54 => ?_)
    have m54 : s54 a0 4 = .int 0 := by rw [u54]; exact q_up_same
    refine q_aload_n (pc := 57) hG dX12_dewOdds_57 0 rfl ?_
    refine q_iload_n (pc := 58) hG dX12_dewOdds_58 1 rfl ?_
    have r_27 := q_rle r_4 rl_600 g_3.2
    refine q_cVi (pc := 59) [.int x1] [] hG (c_X12_dryFrom τ s54 a0 x1 w54.1 tA0 r_27 (q_wf.keep hI w54.2 tA0 rfl hW)) my_X12_dryFrom mv_X12_dryFrom w1132 dX12_dewOdds_59 tA0 (by decide) rfl rfl (Nat.le_of_ble_eq_true rfl) (by decide) (fun v59 s59 p59 => ?_)
    have w59 := w54.trans p59.1 rfl
    refine q_istore (pc := 62) [(5, .int v59), (0, .ref a0), (1, .int x1), (2, .int x2), (3, .int x3), (4, .int x4)] hG dX12_dewOdds_62 (by decide) rfl ?_
    refine q_iconst (pc := 64) hG dX12_dewOdds_64 ki_0 ?_
    refine q_istore (pc := 65) [(6, .int 0), (5, .int v59), (0, .ref a0), (1, .int x1), (2, .int x2), (3, .int x3), (4, .int x4)] hG dX12_dewOdds_65 (by decide) rfl ?_
    refine q_iconst (pc := 67) hG dX12_dewOdds_67 ki_0 ?_
    refine q_istore (pc := 68) [(7, .int 0), (6, .int 0), (5, .int v59), (0, .ref a0), (1, .int x1), (2, .int x2), (3, .int x3), (4, .int x4)] hG dX12_dewOdds_68 (by decide) rfl ?_
    refine q_iconst (pc := 70) hG dX12_dewOdds_70 ki_0 ?_
    refine q_istore (pc := 71) [(8, .int 0), (7, .int 0), (6, .int 0), (5, .int v59), (0, .ref a0), (1, .int x1), (2, .int x2), (3, .int x3), (4, .int x4)] hG dX12_dewOdds_71 (by decide) rfl ?_
    have J73 : ∀ (n73 : Nat) (p73_6 : Int32) (p73_7 : Int32) (p73_8 : Int32), (q_r p73_6 0 10200) → (q_r p73_7 0 10200) → (q_r p73_8 0 40) → (p73_6.toInt ≤ 255 * p73_8.toInt ∧ p73_7.toInt ≤ 255 * p73_8.toInt) → ((40 - p73_8.toInt).toNat < n73) → q_O X 0 0 τ s59 73 [(0, .ref a0), (2, .int x2), (3, .int x3), (4, .int x4), (5, .int v59), (6, .int p73_6), (7, .int p73_7), (8, .int p73_8)] [] := by
      intro n73
      induction n73 with
      | zero => intro p73_6 p73_7 p73_8 r73_6 r73_7 r73_8 iD73 hm73; exact absurd hm73 (Nat.not_lt_zero _)
      | succ n73 ih73 =>
        intro p73_6 p73_7 p73_8 r73_6 r73_7 r73_8 iD73 hm73
        refine q_iload (pc := 73) hG dX12_dewOdds_73 7 rfl ?_
        refine q_iload_n (pc := 75) hG dX12_dewOdds_75 2 rfl ?_
        refine q_icmp_ge (pc := 76) hG 130 dX12_dewOdds_76 rfl ?_ ?_
        · intro c76
          refine q_iload (pc := 130) hG dX12_dewOdds_130 5 rfl ?_
          refine q_if_ne (pc := 132) hG 138 dX12_dewOdds_132 rfl ?_ ?_
          · intro c132
            refine q_iload (pc := 138) hG dX12_dewOdds_138 6 rfl ?_
            refine q_iload (pc := 140) hG dX12_dewOdds_140 5 rfl ?_
            have r_28 := q_neL (c := 1) r73_6 c132 (by decide)
            refine q_pS (pc := 142) [.int p73_7, .int p73_6] [] hG (c_X12_gcd τ s59 p73_7 p73_6 w59.1 r73_7 r_28) my_X12_gcd w1140 w1139 dX12_dewOdds_142 rfl rfl (Nat.le_of_ble_eq_true rfl) (by decide) (fun v142 p142 => ?_)
            refine q_istore (pc := 145) [(8, .int v142), (0, .ref a0), (2, .int x2), (3, .int x3), (4, .int x4), (5, .int v59), (6, .int p73_6), (7, .int p73_7)] hG dX12_dewOdds_145 (by decide) rfl ?_
            refine q_iload (pc := 147) hG dX12_dewOdds_147 4 rfl ?_
            refine q_if_ne (pc := 149) hG 160 dX12_dewOdds_149 rfl ?_ ?_
            · intro c149
              have r_29 := q_rle r_25 rl_1 g_24.2
              refine q_iload (pc := 160) hG dX12_dewOdds_160 6 rfl ?_
              refine q_iload (pc := 162) hG dX12_dewOdds_162 0 rfl ?_
              refine q_idiv (pc := 164) hG dX12_dewOdds_164 (q_nzr p142 (by decide)) (fun v164 e164 => ?_)
              have r_30 := (q_divN (lo := 0) (hi := 10200) e164 r_28 p142 (by decide)).2
              have r_31 := q_rge r73_8 r_26 c76
              have r_32 := q_rge q_1r r_26 c47
              have r_33 := q_neL (c := 1) p16.1 c19 (by decide)
              have r_34 := q_neL (c := 1) p26.1 c29 (by decide)
              have r_35 := q_neL (c := 1) p36.1 c39 (by decide)
              have r_36 := q_neL (c := 1) p5.1 c8 (by decide)
              have r_37 := q_rle r_9 rl_9999 g_8.2
              have r_38 := q_neL (c := 1) r_29 c149 (by decide)
              exact q_irt hG hE dX12_dewOdds_165 ⟨w59, (q_r.mono r_30 (by decide)), (fun t e => by cases e.symm.trans q_1f; exact ⟨0, (p59.1.same tA0 rfl m54), (by have o0 := p5.2.2; have o1 := c8; have o2 := g_3.1; have o3 := g_3.2; have o4 := p16.2.2; have o5 := c19; have o6 := g_8.1; have o7 := g_8.2; have o8 := p26.2.2; have o9 := c29; have o10 := g_15.1; have o11 := g_15.2; have o12 := p36.2.2; have o13 := c39; have o14 := g_24.1; have o15 := g_24.2; have o16 := c47; have o17 := c76; have o18 := c149; have o19 := iD73; have o20 := c132; have o21 := r_28; have o22 := r73_7; have o23 := r_31; have o24 := r_32; have o25 := r_33; have o26 := r_30; have o27 := r_34; have o28 := r_35; have o29 := r_36; have o30 := r_27; have o31 := r_37; have o32 := r_26; have o33 := r_38; have l34 := tl_0; have l35 := tl_1; have l36 := tl_40; have l37 := tl_600; have l38 := tl_9999; unfold q_r at o21 o22 o23 o24 o25 o26 o27 o28 o29 o30 o31 o32 o33; omega)⟩)⟩
            intro c149
            have r_39 := q_rle r_25 rl_1 g_24.2
            refine q_iload (pc := 152) hG dX12_dewOdds_152 7 rfl ?_
            refine q_iload (pc := 154) hG dX12_dewOdds_154 0 rfl ?_
            refine q_idiv (pc := 156) hG dX12_dewOdds_156 (q_nzr p142 (by decide)) (fun v156 e156 => ?_)
            refine q_goto (pc := 157) 165 hG dX12_dewOdds_157 rfl ?_
            have r_40 := (q_divN (lo := 0) (hi := 10200) e156 r73_7 p142 (by decide)).2
            have r_41 := q_rge r73_8 r_26 c76
            have r_42 := q_rge q_1r r_26 c47
            have r_43 := q_neL (c := 1) p16.1 c19 (by decide)
            have r_44 := q_neL (c := 1) p26.1 c29 (by decide)
            have r_45 := q_neL (c := 1) p36.1 c39 (by decide)
            have r_46 := q_neL (c := 1) p5.1 c8 (by decide)
            have r_47 := q_rle r_9 rl_9999 g_8.2
            have r_48 := q_zeq c149
            exact q_irt hG hE dX12_dewOdds_165 ⟨w59, (q_r.mono r_40 (by decide)), (fun t e => by cases e.symm.trans q_1f; exact ⟨0, (p59.1.same tA0 rfl m54), (by have o0 := p5.2.2; have o1 := c8; have o2 := g_3.1; have o3 := g_3.2; have o4 := p16.2.2; have o5 := c19; have o6 := g_8.1; have o7 := g_8.2; have o8 := p26.2.2; have o9 := c29; have o10 := g_15.1; have o11 := g_15.2; have o12 := p36.2.2; have o13 := c39; have o14 := g_24.1; have o15 := g_24.2; have o16 := c47; have o17 := c76; have o18 := c149; have o19 := iD73; have o20 := c132; have o21 := r_28; have o22 := r73_7; have o23 := r_41; have o24 := r_42; have o25 := r_40; have o26 := r_43; have o27 := r_44; have o28 := r_45; have o29 := r_46; have o30 := r_27; have o31 := r_47; have o32 := r_26; have o33 := r_48; have l34 := tl_0; have l35 := tl_1; have l36 := tl_40; have l37 := tl_600; have l38 := tl_9999; unfold q_r at o21 o22 o23 o24 o25 o26 o27 o28 o29 o30 o31 o32 o33; omega)⟩)⟩
          intro c132
          refine q_bipush (pc := 135) hG dX12_dewOdds_135 kb_m2 ?_
          have r_49 := q_zeq c132
          have r_50 := q_rge r73_8 r_26 c76
          have r_51 := q_rge q_1r r_26 c47
          have r_52 := q_neL (c := 1) p16.1 c19 (by decide)
          have r_53 := q_neL (c := 1) p26.1 c29 (by decide)
          have r_54 := q_neL (c := 1) p36.1 c39 (by decide)
          have r_55 := q_neL (c := 1) p5.1 c8 (by decide)
          have r_56 := q_rle r_9 rl_9999 g_8.2
          have r_57 := q_rle r_25 rl_1 g_24.2
          exact q_irt hG hE dX12_dewOdds_137 ⟨w59, (q_r.mono rl_m2 (by decide)), (fun t e => by cases e.symm.trans q_1f; exact ⟨0, (p59.1.same tA0 rfl m54), (by have o0 := p5.2.2; have o1 := c8; have o2 := g_3.1; have o3 := g_3.2; have o4 := p16.2.2; have o5 := c19; have o6 := g_8.1; have o7 := g_8.2; have o8 := p26.2.2; have o9 := c29; have o10 := g_15.1; have o11 := g_15.2; have o12 := p36.2.2; have o13 := c39; have o14 := g_24.1; have o15 := g_24.2; have o16 := c47; have o17 := c76; have o18 := iD73; have o19 := c132; have o20 := r_49; have o21 := r73_7; have o22 := r_50; have o23 := r_51; have o24 := r_52; have o25 := r_53; have o26 := r_54; have o27 := r_55; have o28 := r_27; have o29 := r_56; have o30 := r_26; have o31 := r_57; have l32 := tl_m2; have l33 := tl_0; have l34 := tl_1; have l35 := tl_40; have l36 := tl_600; have l37 := tl_9999; unfold q_r at o20 o21 o22 o23 o24 o25 o26 o27 o28 o29 o30 o31; omega)⟩)⟩
        intro c76
        refine q_iload (pc := 79) hG dX12_dewOdds_79 5 rfl ?_
        refine q_aload_n (pc := 81) hG dX12_dewOdds_81 0 rfl ?_
        refine q_getR (pc := 82) (k2 := 310) (n2 := 260) hG fl_X12_19 dX12_dewOdds_82 w59.1 tA0 ff_10_3 (fun b82 f82 T82 => ?_)
        have f_58 := (w59.2 _ _ _ _ tA0 rfl).symm.trans f82
        refine q_iload (pc := 85) hG dX12_dewOdds_85 7 rfl ?_
        have r_59 := q_rlt r73_8 r_26 c76 39 (by decide)
        refine q_bald (pc := 87) hG dX12_dewOdds_87 w59.1 ai_310 T82 (q_ix r_59 (by decide)) (fun v87 f87 g87 => ?_)
        have f_60 := (w59.2 _ _ _ _ T82 rfl).symm.trans f87
        refine q_sipush (pc := 88) hG dX12_dewOdds_88 ks_255 ?_
        refine q_iand (pc := 91) hG dX12_dewOdds_91 (fun v91 e91 => ?_)
        refine q_iadd (pc := 92) hG dX12_dewOdds_92 (fun v92 e92 => ?_)
        have r_61 := q_andN (n := 255) e91 rfl (by decide)
        refine q_istore (pc := 93) [(6, .int v92), (0, .ref a0), (2, .int x2), (3, .int x3), (4, .int x4), (5, .int v59), (7, .int p73_7), (8, .int p73_8)] hG dX12_dewOdds_93 (by decide) rfl ?_
        refine q_iload (pc := 95) hG dX12_dewOdds_95 6 rfl ?_
        refine q_iload (pc := 97) hG dX12_dewOdds_97 5 rfl ?_
        refine q_iload_n (pc := 99) hG dX12_dewOdds_99 2 rfl ?_
        refine q_iload (pc := 100) hG dX12_dewOdds_100 7 rfl ?_
        refine q_iadd (pc := 102) hG dX12_dewOdds_102 (fun v102 e102 => ?_)
        have r_62 := q_rle r_9 rl_9999 g_8.2
        have J121 : ∀ (p121_s0 : Int32), (q_r p121_s0 0 255) → q_O X 0 0 τ s59 121 [(0, .ref a0), (2, .int x2), (3, .int x3), (4, .int x4), (5, .int v59), (6, .int v92), (8, .int p73_8)] [.int p121_s0, .int p73_7] := by
          intro p121_s0 r121_s0
          refine q_iadd (pc := 121) hG dX12_dewOdds_121 (fun v121 e121 => ?_)
          refine q_istore (pc := 122) [(7, .int v121), (0, .ref a0), (2, .int x2), (3, .int x3), (4, .int x4), (5, .int v59), (6, .int v92), (8, .int p73_8)] hG dX12_dewOdds_122 (by decide) rfl ?_
          obtain ⟨v124, e124⟩ : ∃ z : Int32, z = p73_8 + Int32.ofInt 1 := ⟨_, rfl⟩
          have h124 := q_incN (lo := 1) (hi := 40) r_59 (by decide) (by decide) e124
          refine q_iinc (pc := 124) [(8, .int v124), (7, .int v121), (0, .ref a0), (2, .int x2), (3, .int x3), (4, .int x4), (5, .int v59), (6, .int v92)] hG dX12_dewOdds_124 7 rfl e124 (by decide) rfl ?_
          refine q_goto (pc := 127) 73 hG dX12_dewOdds_127 rfl ?_
          refine q_lv [2, 3, 4, 5, 6, 7, 1, 0] rfl ?_
          have r_63 := q_rge q_1r r_26 c47
          have r_64 := (q_addN (lo := 0) (hi := 10038) e102 r_62 r_59 (by decide)).2
          have r_65 := (q_addN (lo := 0) (hi := 10455) e121 r73_7 r121_s0 (by decide)).2
          have r_66 := q_neL (c := 1) p16.1 c19 (by decide)
          have r_67 := q_neL (c := 1) p26.1 c29 (by decide)
          have r_68 := (q_addN (lo := 0) (hi := 10455) e92 r73_6 r_61 (by decide)).2
          exact ih73 v92 v121 v124 (show q_r v92 0 10200 from ⟨(by have o0 := (q_addN (lo := 0) (hi := 10455) e92 r73_6 r_61 (by decide)).1; have o1 := iD73; have o2 := c76; have o3 := (q_addN (lo := 0) (hi := 10038) e102 r_62 r_59 (by decide)).1; have o4 := (q_addN (lo := 0) (hi := 10455) e121 r73_7 r121_s0 (by decide)).1; have o5 := h124.1; have o6 := p16.2.2; have o7 := c19; have o8 := g_8.1; have o9 := g_8.2; have o10 := p26.2.2; have o11 := c29; have o12 := g_15.1; have o13 := g_15.2; have o14 := c47; have o15 := r121_s0; have o16 := r73_6; have o17 := r73_7; have o18 := r_59; have o19 := r_63; have o20 := r_64; have o21 := r_65; have o22 := h124.2; have o23 := r_66; have o24 := r_67; have o25 := r_61; have o26 := r_68; have o27 := r_62; have o28 := r_26; have l29 := tl_0; have l30 := tl_1; have l31 := tl_40; have l32 := tl_9999; unfold q_r at o15 o16 o17 o18 o19 o20 o21 o22 o23 o24 o25 o26 o27 o28; omega), (by have o0 := (q_addN (lo := 0) (hi := 10455) e92 r73_6 r_61 (by decide)).1; have o1 := iD73; have o2 := c76; have o3 := (q_addN (lo := 0) (hi := 10038) e102 r_62 r_59 (by decide)).1; have o4 := (q_addN (lo := 0) (hi := 10455) e121 r73_7 r121_s0 (by decide)).1; have o5 := h124.1; have o6 := p16.2.2; have o7 := c19; have o8 := g_8.1; have o9 := g_8.2; have o10 := p26.2.2; have o11 := c29; have o12 := g_15.1; have o13 := g_15.2; have o14 := c47; have o15 := r121_s0; have o16 := r73_6; have o17 := r73_7; have o18 := r_59; have o19 := r_63; have o20 := r_64; have o21 := r_65; have o22 := h124.2; have o23 := r_66; have o24 := r_67; have o25 := r_61; have o26 := r_68; have o27 := r_62; have o28 := r_26; have l29 := tl_0; have l30 := tl_1; have l31 := tl_40; have l32 := tl_9999; unfold q_r at o15 o16 o17 o18 o19 o20 o21 o22 o23 o24 o25 o26 o27 o28; omega)⟩) (show q_r v121 0 10200 from ⟨(by have o0 := (q_addN (lo := 0) (hi := 10455) e121 r73_7 r121_s0 (by decide)).1; have o1 := iD73; have o2 := c76; have o3 := (q_addN (lo := 0) (hi := 10455) e92 r73_6 r_61 (by decide)).1; have o4 := (q_addN (lo := 0) (hi := 10038) e102 r_62 r_59 (by decide)).1; have o5 := h124.1; have o6 := p16.2.2; have o7 := c19; have o8 := g_8.1; have o9 := g_8.2; have o10 := p26.2.2; have o11 := c29; have o12 := g_15.1; have o13 := g_15.2; have o14 := c47; have o15 := r121_s0; have o16 := r73_6; have o17 := r73_7; have o18 := r_59; have o19 := r_63; have o20 := r_64; have o21 := r_65; have o22 := h124.2; have o23 := r_66; have o24 := r_67; have o25 := r_61; have o26 := r_68; have o27 := r_62; have o28 := r_26; have l29 := tl_0; have l30 := tl_1; have l31 := tl_40; have l32 := tl_9999; unfold q_r at o15 o16 o17 o18 o19 o20 o21 o22 o23 o24 o25 o26 o27 o28; omega), (by have o0 := (q_addN (lo := 0) (hi := 10455) e121 r73_7 r121_s0 (by decide)).1; have o1 := iD73; have o2 := c76; have o3 := (q_addN (lo := 0) (hi := 10455) e92 r73_6 r_61 (by decide)).1; have o4 := (q_addN (lo := 0) (hi := 10038) e102 r_62 r_59 (by decide)).1; have o5 := h124.1; have o6 := p16.2.2; have o7 := c19; have o8 := g_8.1; have o9 := g_8.2; have o10 := p26.2.2; have o11 := c29; have o12 := g_15.1; have o13 := g_15.2; have o14 := c47; have o15 := r121_s0; have o16 := r73_6; have o17 := r73_7; have o18 := r_59; have o19 := r_63; have o20 := r_64; have o21 := r_65; have o22 := h124.2; have o23 := r_66; have o24 := r_67; have o25 := r_61; have o26 := r_68; have o27 := r_62; have o28 := r_26; have l29 := tl_0; have l30 := tl_1; have l31 := tl_40; have l32 := tl_9999; unfold q_r at o15 o16 o17 o18 o19 o20 o21 o22 o23 o24 o25 o26 o27 o28; omega)⟩) (q_r.mono h124.2 (by decide)) (by have o0 := (q_addN (lo := 0) (hi := 10455) e92 r73_6 r_61 (by decide)).1; have o1 := (q_addN (lo := 0) (hi := 10455) e121 r73_7 r121_s0 (by decide)).1; have o2 := h124.1; have o3 := iD73; have o4 := c76; have o5 := (q_addN (lo := 0) (hi := 10038) e102 r_62 r_59 (by decide)).1; have o6 := p16.2.2; have o7 := c19; have o8 := g_8.1; have o9 := g_8.2; have o10 := p26.2.2; have o11 := c29; have o12 := g_15.1; have o13 := g_15.2; have o14 := c47; have o15 := r121_s0; have o16 := r73_6; have o17 := r73_7; have o18 := r_59; have o19 := r_63; have o20 := r_64; have o21 := r_65; have o22 := h124.2; have o23 := r_66; have o24 := r_67; have o25 := r_61; have o26 := r_68; have o27 := r_62; have o28 := r_26; have l29 := tl_0; have l30 := tl_1; have l31 := tl_40; have l32 := tl_9999; unfold q_r at o15 o16 o17 o18 o19 o20 o21 o22 o23 o24 o25 o26 o27 o28; omega) (q_measU hm73 (by have o0 := iD73; have o1 := c76; have o2 := (q_addN (lo := 0) (hi := 10455) e92 r73_6 r_61 (by decide)).1; have o3 := (q_addN (lo := 0) (hi := 10038) e102 r_62 r_59 (by decide)).1; have o4 := (q_addN (lo := 0) (hi := 10455) e121 r73_7 r121_s0 (by decide)).1; have o5 := h124.1; have o6 := p16.2.2; have o7 := c19; have o8 := g_8.1; have o9 := g_8.2; have o10 := p26.2.2; have o11 := c29; have o12 := g_15.1; have o13 := g_15.2; have o14 := c47; have o15 := r121_s0; have o16 := r73_6; have o17 := r73_7; have o18 := r_59; have o19 := r_63; have o20 := r_64; have o21 := r_65; have o22 := h124.2; have o23 := r_66; have o24 := r_67; have o25 := r_61; have o26 := r_68; have o27 := r_62; have o28 := r_26; have l29 := tl_0; have l30 := tl_1; have l31 := tl_40; have l32 := tl_9999; unfold q_r at o15 o16 o17 o18 o19 o20 o21 o22 o23 o24 o25 o26 o27 o28; omega) (h124.2).2)
        refine q_icmp_gt (pc := 103) hG 120 dX12_dewOdds_103 rfl ?_ ?_
        · intro c103
          have r_69 := (q_addN (lo := 0) (hi := 10038) e102 r_62 r_59 (by decide)).2
          refine q_iconst (pc := 120) hG dX12_dewOdds_120 ki_0 ?_
          refine q_lv [1, 2, 3, 4, 5, 0, 7] rfl ?_
          exact J121 0 (q_r.mono rl_0 (by decide))
        intro c103
        have r_70 := (q_addN (lo := 0) (hi := 10038) e102 r_62 r_59 (by decide)).2
        refine q_aload_n (pc := 106) hG dX12_dewOdds_106 1 rfl ?_
        refine q_getV (pc := 107) (v := .ref b82) hG fl_X12_19 dX12_dewOdds_107 tA0 (w59.same tA0 rfl f_58) ?_
        refine q_iload (pc := 110) hG dX12_dewOdds_110 7 rfl ?_
        refine q_baldV (pc := 112) (v := .int v87) hG dX12_dewOdds_112 T82 (by decide) (by decide) (q_ix r_59 (by decide)) (w59.same T82 rfl f_60) ?_
        refine q_sipush (pc := 113) hG dX12_dewOdds_113 ks_255 ?_
        refine q_iand (pc := 116) hG dX12_dewOdds_116 (fun v116 e116 => ?_)
        rw [e116.trans e91.symm]
        refine q_goto (pc := 117) 121 hG dX12_dewOdds_117 rfl ?_
        refine q_lv [1, 2, 3, 4, 5, 0, 7] rfl ?_
        exact J121 v91 r_61
    refine q_lv [4, 6, 7, 8, 3, 2, 1, 0] rfl ?_
    exact J73 _ 0 0 0 (q_r.mono rl_0 (by decide)) (q_r.mono rl_0 (by decide)) (q_r.mono rl_0 (by decide)) (by have l0 := tl_0; omega) (Nat.lt_succ_self _)
  intro c47
  have r_71 := q_rle r_16 rl_40 g_15.2
  refine q_iconst (pc := 50) hG dX12_dewOdds_50 ki_m1 ?_
  have r_72 := q_rlt q_1r r_71 c47 39 (by decide)
  have r_73 := q_neL (c := 1) p16.1 c19 (by decide)
  have r_74 := q_neL (c := 1) p26.1 c29 (by decide)
  have r_75 := q_neL (c := 1) p36.1 c39 (by decide)
  have r_76 := q_neL (c := 1) p5.1 c8 (by decide)
  have r_77 := q_rle r_4 rl_600 g_3.2
  have r_78 := q_rle r_9 rl_9999 g_8.2
  have r_79 := q_rle r_25 rl_1 g_24.2
  exact q_irt hG hE dX12_dewOdds_51 ⟨hS0, (q_r.mono rl_m1 (by decide)), (fun t e => by cases e.symm.trans q_1f; exact ⟨q_1v, q_1f, (by have o0 := p5.2.2; have o1 := c8; have o2 := g_3.1; have o3 := g_3.2; have o4 := p16.2.2; have o5 := c19; have o6 := g_8.1; have o7 := g_8.2; have o8 := p26.2.2; have o9 := c29; have o10 := g_15.1; have o11 := g_15.2; have o12 := p36.2.2; have o13 := c39; have o14 := g_24.1; have o15 := g_24.2; have o16 := c47; have o17 := r_72; have o18 := r_73; have o19 := r_74; have o20 := r_75; have o21 := r_76; have o22 := r_77; have o23 := r_78; have o24 := r_71; have o25 := r_79; have l26 := tl_m1; have l27 := tl_0; have l28 := tl_1; have l29 := tl_40; have l30 := tl_600; have l31 := tl_9999; unfold q_r at o17 o18 o19 o20 o21 o22 o23 o24 o25; omega)⟩)⟩
theorem dX12_meet_0 : decode cX12_meet 0 = .ok (.iload_n 1, 1) := by decide +kernel
theorem dX12_meet_1 : decode cX12_meet 1 = .ok (.iconst 0, 1) := by decide +kernel
theorem dX12_meet_2 : decode cX12_meet 2 = .ok (.sipush 600, 3) := by decide +kernel
theorem dX12_meet_5 : decode cX12_meet 5 = .ok (.invokestatic 102, 3) := by decide +kernel
theorem dX12_meet_8 : decode cX12_meet 8 = .ok (.ifCond .eq 23, 3) := by decide +kernel
theorem dX12_meet_11 : decode cX12_meet 11 = .ok (.iload_n 2, 1) := by decide +kernel
theorem dX12_meet_12 : decode cX12_meet 12 = .ok (.iconst 0, 1) := by decide +kernel
theorem dX12_meet_13 : decode cX12_meet 13 = .ok (.sipush 600, 3) := by decide +kernel
theorem dX12_meet_16 : decode cX12_meet 16 = .ok (.invokestatic 102, 3) := by decide +kernel
theorem dX12_meet_19 : decode cX12_meet 19 = .ok (.ifCond .eq 12, 3) := by decide +kernel
theorem dX12_meet_22 : decode cX12_meet 22 = .ok (.iload_n 3, 1) := by decide +kernel
theorem dX12_meet_23 : decode cX12_meet 23 = .ok (.iconst 0, 1) := by decide +kernel
theorem dX12_meet_24 : decode cX12_meet 24 = .ok (.iconst 2, 1) := by decide +kernel
theorem dX12_meet_25 : decode cX12_meet 25 = .ok (.invokestatic 102, 3) := by decide +kernel
theorem dX12_meet_28 : decode cX12_meet 28 = .ok (.ifCond .ne 5, 3) := by decide +kernel
theorem dX12_meet_31 : decode cX12_meet 31 = .ok (.iconst (-1), 1) := by decide +kernel
theorem dX12_meet_32 : decode cX12_meet 32 = .ok (.ireturn, 1) := by decide +kernel
theorem dX12_meet_33 : decode cX12_meet 33 = .ok (.aload_n 0, 1) := by decide +kernel
theorem dX12_meet_34 : decode cX12_meet 34 = .ok (.iload_n 1, 1) := by decide +kernel
theorem dX12_meet_35 : decode cX12_meet 35 = .ok (.iload_n 2, 1) := by decide +kernel
theorem dX12_meet_36 : decode cX12_meet 36 = .ok (.invokevirtual 374, 3) := by decide +kernel
theorem dX12_meet_39 : decode cX12_meet 39 = .ok (.iload_n 3, 1) := by decide +kernel
theorem dX12_meet_40 : decode cX12_meet 40 = .ok (.iconst 1, 1) := by decide +kernel
theorem dX12_meet_41 : decode cX12_meet 41 = .ok (.if_icmp .ne 8, 3) := by decide +kernel
theorem dX12_meet_44 : decode cX12_meet 44 = .ok (.aload_n 0, 1) := by decide +kernel
theorem dX12_meet_45 : decode cX12_meet 45 = .ok (.getfield 365, 3) := by decide +kernel
theorem dX12_meet_48 : decode cX12_meet 48 = .ok (.ireturn, 1) := by decide +kernel
theorem dX12_meet_49 : decode cX12_meet 49 = .ok (.iconst (-1), 1) := by decide +kernel
theorem dX12_meet_50 : decode cX12_meet 50 = .ok (.istore 4, 2) := by decide +kernel
theorem dX12_meet_52 : decode cX12_meet 52 = .ok (.iload 4, 2) := by decide +kernel
theorem dX12_meet_54 : decode cX12_meet 54 = .ok (.iconst 1, 1) := by decide +kernel
theorem dX12_meet_55 : decode cX12_meet 55 = .ok (.iadd, 1) := by decide +kernel
theorem dX12_meet_56 : decode cX12_meet 56 = .ok (.aload_n 0, 1) := by decide +kernel
theorem dX12_meet_57 : decode cX12_meet 57 = .ok (.getfield 7, 3) := by decide +kernel
theorem dX12_meet_60 : decode cX12_meet 60 = .ok (.sipush 512, 3) := by decide +kernel
theorem dX12_meet_63 : decode cX12_meet 63 = .ok (.iaload, 1) := by decide +kernel
theorem dX12_meet_64 : decode cX12_meet 64 = .ok (.if_icmp .ge 24, 3) := by decide +kernel
theorem dX12_meet_67 : decode cX12_meet 67 = .ok (.aload_n 0, 1) := by decide +kernel
theorem dX12_meet_68 : decode cX12_meet 68 = .ok (.getfield 77, 3) := by decide +kernel
theorem dX12_meet_71 : decode cX12_meet 71 = .ok (.iload 4, 2) := by decide +kernel
theorem dX12_meet_73 : decode cX12_meet 73 = .ok (.iconst 1, 1) := by decide +kernel
theorem dX12_meet_74 : decode cX12_meet 74 = .ok (.iadd, 1) := by decide +kernel
theorem dX12_meet_75 : decode cX12_meet 75 = .ok (.iaload, 1) := by decide +kernel
theorem dX12_meet_76 : decode cX12_meet 76 = .ok (.ifCond .ne 12, 3) := by decide +kernel
theorem dX12_meet_79 : decode cX12_meet 79 = .ok (.iload 4, 2) := by decide +kernel
theorem dX12_meet_81 : decode cX12_meet 81 = .ok (.iconst 1, 1) := by decide +kernel
theorem dX12_meet_82 : decode cX12_meet 82 = .ok (.iadd, 1) := by decide +kernel
theorem dX12_meet_83 : decode cX12_meet 83 = .ok (.istore 4, 2) := by decide +kernel
theorem dX12_meet_85 : decode cX12_meet 85 = .ok (.goto (-33), 3) := by decide +kernel
theorem dX12_meet_88 : decode cX12_meet 88 = .ok (.iload_n 3, 1) := by decide +kernel
theorem dX12_meet_89 : decode cX12_meet 89 = .ok (.ifCond .ne 17, 3) := by decide +kernel
theorem dX12_meet_92 : decode cX12_meet 92 = .ok (.iload 4, 2) := by decide +kernel
theorem dX12_meet_94 : decode cX12_meet 94 = .ok (.iconst (-1), 1) := by decide +kernel
theorem dX12_meet_95 : decode cX12_meet 95 = .ok (.if_icmp .ne 8, 3) := by decide +kernel
theorem dX12_meet_98 : decode cX12_meet 98 = .ok (.bipush (-2), 2) := by decide +kernel
theorem dX12_meet_100 : decode cX12_meet 100 = .ok (.goto 5, 3) := by decide +kernel
theorem dX12_meet_103 : decode cX12_meet 103 = .ok (.iload 4, 2) := by decide +kernel
theorem dX12_meet_105 : decode cX12_meet 105 = .ok (.ireturn, 1) := by decide +kernel
theorem dX12_meet_106 : decode cX12_meet 106 = .ok (.iload 4, 2) := by decide +kernel
theorem dX12_meet_108 : decode cX12_meet 108 = .ok (.iconst (-1), 1) := by decide +kernel
theorem dX12_meet_109 : decode cX12_meet 109 = .ok (.if_icmp .eq 18, 3) := by decide +kernel
theorem dX12_meet_112 : decode cX12_meet 112 = .ok (.iload 4, 2) := by decide +kernel
theorem dX12_meet_114 : decode cX12_meet 114 = .ok (.iconst 1, 1) := by decide +kernel
theorem dX12_meet_115 : decode cX12_meet 115 = .ok (.iadd, 1) := by decide +kernel
theorem dX12_meet_116 : decode cX12_meet 116 = .ok (.aload_n 0, 1) := by decide +kernel
theorem dX12_meet_117 : decode cX12_meet 117 = .ok (.getfield 7, 3) := by decide +kernel
theorem dX12_meet_120 : decode cX12_meet 120 = .ok (.sipush 512, 3) := by decide +kernel
theorem dX12_meet_123 : decode cX12_meet 123 = .ok (.iaload, 1) := by decide +kernel
theorem dX12_meet_124 : decode cX12_meet 124 = .ok (.if_icmp .ne 6, 3) := by decide +kernel
theorem dX12_meet_127 : decode cX12_meet 127 = .ok (.bipush (-2), 2) := by decide +kernel
theorem dX12_meet_129 : decode cX12_meet 129 = .ok (.ireturn, 1) := by decide +kernel
theorem dX12_meet_130 : decode cX12_meet 130 = .ok (.aload_n 0, 1) := by decide +kernel
theorem dX12_meet_131 : decode cX12_meet 131 = .ok (.getfield 7, 3) := by decide +kernel
theorem dX12_meet_134 : decode cX12_meet 134 = .ok (.iconst 0, 1) := by decide +kernel
theorem dX12_meet_135 : decode cX12_meet 135 = .ok (.iload 4, 2) := by decide +kernel
theorem dX12_meet_137 : decode cX12_meet 137 = .ok (.iadd, 1) := by decide +kernel
theorem dX12_meet_138 : decode cX12_meet 138 = .ok (.iaload, 1) := by decide +kernel
theorem dX12_meet_139 : decode cX12_meet 139 = .ok (.aload_n 0, 1) := by decide +kernel
theorem dX12_meet_140 : decode cX12_meet 140 = .ok (.getfield 7, 3) := by decide +kernel
theorem dX12_meet_143 : decode cX12_meet 143 = .ok (.sipush 518, 3) := by decide +kernel
theorem dX12_meet_146 : decode cX12_meet 146 = .ok (.iaload, 1) := by decide +kernel
theorem dX12_meet_147 : decode cX12_meet 147 = .ok (.iadd, 1) := by decide +kernel
theorem dX12_meet_148 : decode cX12_meet 148 = .ok (.invokestatic 272, 3) := by decide +kernel
theorem dX12_meet_151 : decode cX12_meet 151 = .ok (.aload_n 0, 1) := by decide +kernel
theorem dX12_meet_152 : decode cX12_meet 152 = .ok (.getfield 7, 3) := by decide +kernel
theorem dX12_meet_155 : decode cX12_meet 155 = .ok (.iconst 0, 1) := by decide +kernel
theorem dX12_meet_156 : decode cX12_meet 156 = .ok (.iload 4, 2) := by decide +kernel
theorem dX12_meet_158 : decode cX12_meet 158 = .ok (.iadd, 1) := by decide +kernel
theorem dX12_meet_159 : decode cX12_meet 159 = .ok (.iconst 1, 1) := by decide +kernel
theorem dX12_meet_160 : decode cX12_meet 160 = .ok (.iadd, 1) := by decide +kernel
theorem dX12_meet_161 : decode cX12_meet 161 = .ok (.iaload, 1) := by decide +kernel
theorem dX12_meet_162 : decode cX12_meet 162 = .ok (.aload_n 0, 1) := by decide +kernel
theorem dX12_meet_163 : decode cX12_meet 163 = .ok (.getfield 7, 3) := by decide +kernel
theorem dX12_meet_166 : decode cX12_meet 166 = .ok (.sipush 519, 3) := by decide +kernel
theorem dX12_meet_169 : decode cX12_meet 169 = .ok (.iaload, 1) := by decide +kernel
theorem dX12_meet_170 : decode cX12_meet 170 = .ok (.iadd, 1) := by decide +kernel
theorem dX12_meet_171 : decode cX12_meet 171 = .ok (.invokestatic 272, 3) := by decide +kernel
theorem dX12_meet_174 : decode cX12_meet 174 = .ok (.isub, 1) := by decide +kernel
theorem dX12_meet_175 : decode cX12_meet 175 = .ok (.invokestatic 218, 3) := by decide +kernel
theorem dX12_meet_178 : decode cX12_meet 178 = .ok (.ireturn, 1) := by decide +kernel
def md_X12_meet : List (Nat × Nat) := [(10, 39), (10, 40), (10, 41), (10, 42), (162, 0), (163, 0), (167, 0), (168, 0), (169, 0), (170, 0), (171, 0), (172, 0)]
set_option maxRecDepth 100000 in
set_option maxHeartbeats 4000000 in
theorem c_X12_meet {l : Launch} {D : q_D} (τ : q_T) (σ : q_V) (a0 : Nat) (x1 : Int32) (x2 : Int32) (x3 : Int32) (hI : q_I τ σ) (tA0 : τ a0 = some (10, 1)) (hW : q_wf σ a0) : q_Ci l D yX12_meet cX12_meet 5 (some .int) 6 143 τ σ [.ref a0, .int x1, .int x2, .int x3] (fun r σ1 => q_S md_X12_meet τ σ σ1 ∧ (q_r r (-2147483648) 2147483647)) := by
  refine q_meti rfl (Nat.le_of_ble_eq_true rfl) (fun X hG hE => ?_)
  show q_O X 0 0 τ σ 0 [(0, .ref a0), (1, .int x1), (2, .int x2), (3, .int x3)] []
  have hS0 : q_S md_X12_meet τ σ σ := q_S.rf hI
  refine q_iload_n (pc := 0) hG dX12_meet_0 1 rfl ?_
  refine q_iconst (pc := 1) hG dX12_meet_1 ki_0 ?_
  refine q_sipush (pc := 2) hG dX12_meet_2 ks_600 ?_
  refine q_pS (pc := 5) [.int x1, .int 0, .int 600] [] hG (c_X12_in τ σ x1 0 600 hI) my_X12_in w778 w777 dX12_meet_5 rfl rfl (Nat.le_of_ble_eq_true rfl) (by decide) (fun v5 p5 => ?_)
  refine q_if_eq (pc := 8) hG 31 dX12_meet_8 rfl ?_ ?_
  · intro c8
    refine q_iconst (pc := 31) hG dX12_meet_31 ki_m1 ?_
    exact q_irt hG hE dX12_meet_32 ⟨hS0, (q_r.mono rl_m1 (by decide))⟩
  intro c8
  have g_1 := p5.2.2.mp (q_one p5.1 c8)
  have r_2 := q_rge (q_r_any x1) rl_0 g_1.1
  refine q_iload_n (pc := 11) hG dX12_meet_11 2 rfl ?_
  refine q_iconst (pc := 12) hG dX12_meet_12 ki_0 ?_
  refine q_sipush (pc := 13) hG dX12_meet_13 ks_600 ?_
  refine q_pS (pc := 16) [.int x2, .int 0, .int 600] [] hG (c_X12_in τ σ x2 0 600 hI) my_X12_in w778 w777 dX12_meet_16 rfl rfl (Nat.le_of_ble_eq_true rfl) (by decide) (fun v16 p16 => ?_)
  refine q_if_eq (pc := 19) hG 31 dX12_meet_19 rfl ?_ ?_
  · intro c19
    refine q_iconst (pc := 31) hG dX12_meet_31 ki_m1 ?_
    exact q_irt hG hE dX12_meet_32 ⟨hS0, (q_r.mono rl_m1 (by decide))⟩
  intro c19
  have g_3 := p16.2.2.mp (q_one p16.1 c19)
  have r_4 := q_rge (q_r_any x2) rl_0 g_3.1
  refine q_iload_n (pc := 22) hG dX12_meet_22 3 rfl ?_
  refine q_iconst (pc := 23) hG dX12_meet_23 ki_0 ?_
  refine q_iconst (pc := 24) hG dX12_meet_24 ki_2 ?_
  refine q_pS (pc := 25) [.int x3, .int 0, .int 2] [] hG (c_X12_in τ σ x3 0 2 hI) my_X12_in w778 w777 dX12_meet_25 rfl rfl (Nat.le_of_ble_eq_true rfl) (by decide) (fun v25 p25 => ?_)
  refine q_if_ne (pc := 28) hG 33 dX12_meet_28 rfl ?_ ?_
  · intro c28
    have g_5 := p25.2.2.mp (q_one p25.1 c28)
    have r_6 := q_rge (q_r_any x3) rl_0 g_5.1
    refine q_aload_n (pc := 33) hG dX12_meet_33 0 rfl ?_
    refine q_iload_n (pc := 34) hG dX12_meet_34 1 rfl ?_
    refine q_iload_n (pc := 35) hG dX12_meet_35 2 rfl ?_
    have r_7 := q_rle r_2 rl_600 g_1.2
    have r_8 := q_rle r_4 rl_600 g_3.2
    refine q_cVv (pc := 36) [.int x1, .int x2] [] hG (c_X12_paintsBare τ σ a0 x1 x2 hI tA0 r_7 r_8 hW) my_X12_paintsBare mv_X12_paintsBare w1113 dX12_meet_36 tA0 (by decide) rfl rfl (Nat.le_of_ble_eq_true rfl) (by decide) (fun s36 p36 => ?_)
    have w36 := hS0.trans p36 rfl
    refine q_iload_n (pc := 39) hG dX12_meet_39 3 rfl ?_
    refine q_iconst (pc := 40) hG dX12_meet_40 ki_1 ?_
    refine q_icmp_ne (pc := 41) hG 49 dX12_meet_41 rfl ?_ ?_
    · intro c41
      have r_9 := q_rle r_6 rl_2 g_5.2
      refine q_iconst (pc := 49) hG dX12_meet_49 ki_m1 ?_
      refine q_istore (pc := 50) [(4, .int (-1)), (0, .ref a0), (1, .int x1), (2, .int x2), (3, .int x3)] hG dX12_meet_50 (by decide) rfl ?_
      have J52 : ∀ (n52 : Nat) (p52_4 : Int32), (q_r p52_4 (-1) 63) → ((63 - p52_4.toInt).toNat < n52) → q_O X 0 0 τ s36 52 [(0, .ref a0), (3, .int x3), (4, .int p52_4)] [] := by
        intro n52
        induction n52 with
        | zero => intro p52_4 r52_4 hm52; exact absurd hm52 (Nat.not_lt_zero _)
        | succ n52 ih52 =>
          intro p52_4 r52_4 hm52
          refine q_iload (pc := 52) hG dX12_meet_52 2 rfl ?_
          refine q_iconst (pc := 54) hG dX12_meet_54 ki_1 ?_
          refine q_iadd (pc := 55) hG dX12_meet_55 (fun v55 e55 => ?_)
          refine q_aload_n (pc := 56) hG dX12_meet_56 0 rfl ?_
          refine q_getR (pc := 57) (k2 := 100) (n2 := 549) hG fl_X12_7 dX12_meet_57 w36.1 tA0 ff_10_0 (fun b57 f57 T57 => ?_)
          have f_10 := (w36.2 _ _ _ _ tA0 rfl).symm.trans f57
          refine q_sipush (pc := 60) hG dX12_meet_60 ks_512 ?_
          refine q_naldc (pc := 63) (a1 := 8) (a2 := 64) hG dX12_meet_63 w36.1 T57 (q_ix rl_512 (by decide)) rfl (fun v63 f63 g63 => ?_)
          have f_11 := (w36.2 _ _ _ _ T57 rfl).symm.trans f63
          have J88 : q_O X 0 0 τ s36 88 [(0, .ref a0), (3, .int x3), (4, .int p52_4)] [] := by
            refine q_iload_n (pc := 88) hG dX12_meet_88 1 rfl ?_
            refine q_if_ne (pc := 89) hG 106 dX12_meet_89 rfl ?_ ?_
            · intro c89
              refine q_iload (pc := 106) hG dX12_meet_106 2 rfl ?_
              refine q_iconst (pc := 108) hG dX12_meet_108 ki_m1 ?_
              refine q_icmp_eq (pc := 109) hG 127 dX12_meet_109 rfl ?_ ?_
              · intro c109
                refine q_bipush (pc := 127) hG dX12_meet_127 kb_m2 ?_
                exact q_irt hG hE dX12_meet_129 ⟨w36, (q_r.mono rl_m2 (by decide))⟩
              intro c109
              refine q_iload (pc := 112) hG dX12_meet_112 2 rfl ?_
              refine q_iconst (pc := 114) hG dX12_meet_114 ki_1 ?_
              refine q_iadd (pc := 115) hG dX12_meet_115 (fun v115 e115 => ?_)
              rw [e115.trans e55.symm]
              refine q_aload_n (pc := 116) hG dX12_meet_116 0 rfl ?_
              refine q_getV (pc := 117) (v := .ref b57) hG fl_X12_7 dX12_meet_117 tA0 (w36.same tA0 rfl f_10) ?_
              refine q_sipush (pc := 120) hG dX12_meet_120 ks_512 ?_
              refine q_ialdV (pc := 123) (v := .int v63) hG dX12_meet_123 T57 (by decide) (by decide) (q_ix rl_512 (by decide)) (w36.same T57 rfl f_11) ?_
              refine q_icmp_ne (pc := 124) hG 130 dX12_meet_124 rfl ?_ ?_
              · intro c124
                have r_12 := (q_addN (lo := 0) (hi := 64) e55 r52_4 rl_1 (by decide)).2
                refine q_aload_n (pc := 130) hG dX12_meet_130 0 rfl ?_
                refine q_getV (pc := 131) (v := .ref b57) hG fl_X12_7 dX12_meet_131 tA0 (w36.same tA0 rfl f_10) ?_
                refine q_iconst (pc := 134) hG dX12_meet_134 ki_0 ?_
                refine q_iload (pc := 135) hG dX12_meet_135 2 rfl ?_
                refine q_iadd (pc := 137) hG dX12_meet_137 (fun v137 e137 => ?_)
                have r_13 := q_neL (c := 0) r52_4 (q_nel c109 tl_m1) (by decide)
                have r_14 := (q_addN (lo := 0) (hi := 63) e137 rl_0 r_13 (by decide)).2
                refine q_naldc (pc := 138) (a1 := -99) (a2 := 99) hG dX12_meet_138 w36.1 T57 (q_ix r_14 (by decide)) (q_nkerb r_14 (by decide)) (fun v138 f138 g138 => ?_)
                have f_15 := (w36.2 _ _ _ _ T57 rfl).symm.trans f138
                refine q_aload_n (pc := 139) hG dX12_meet_139 0 rfl ?_
                refine q_getV (pc := 140) (v := .ref b57) hG fl_X12_7 dX12_meet_140 tA0 (w36.same tA0 rfl f_10) ?_
                refine q_sipush (pc := 143) hG dX12_meet_143 ks_518 ?_
                refine q_nald (pc := 146) hG dX12_meet_146 w36.1 T57 (q_ix rl_518 (by decide)) (fun v146 f146 => ?_)
                have f_16 := (w36.2 _ _ _ _ T57 rfl).symm.trans f146
                refine q_iadd (pc := 147) hG dX12_meet_147 (fun v147 e147 => ?_)
                refine q_pS (pc := 148) [.int v147] [] hG (c_X12_held τ s36 v147 w36.1) my_X12_held w997 w996 dX12_meet_148 rfl rfl (Nat.le_of_ble_eq_true rfl) (by decide) (fun v148 p148 => ?_)
                refine q_aload_n (pc := 151) hG dX12_meet_151 0 rfl ?_
                refine q_getV (pc := 152) (v := .ref b57) hG fl_X12_7 dX12_meet_152 tA0 (w36.same tA0 rfl f_10) ?_
                refine q_iconst (pc := 155) hG dX12_meet_155 ki_0 ?_
                refine q_iload (pc := 156) hG dX12_meet_156 2 rfl ?_
                refine q_iadd (pc := 158) hG dX12_meet_158 (fun v158 e158 => ?_)
                rw [e158.trans e137.symm]
                refine q_iconst (pc := 159) hG dX12_meet_159 ki_1 ?_
                refine q_iadd (pc := 160) hG dX12_meet_160 (fun v160 e160 => ?_)
                have r_17 := (q_addN (lo := 1) (hi := 64) e160 r_14 rl_1 (by decide)).2
                refine q_nald (pc := 161) hG dX12_meet_161 w36.1 T57 (q_ix r_17 (by decide)) (fun v161 f161 => ?_)
                have f_18 := (w36.2 _ _ _ _ T57 rfl).symm.trans f161
                refine q_aload_n (pc := 162) hG dX12_meet_162 0 rfl ?_
                refine q_getV (pc := 163) (v := .ref b57) hG fl_X12_7 dX12_meet_163 tA0 (w36.same tA0 rfl f_10) ?_
                refine q_sipush (pc := 166) hG dX12_meet_166 ks_519 ?_
                refine q_nald (pc := 169) hG dX12_meet_169 w36.1 T57 (q_ix rl_519 (by decide)) (fun v169 f169 => ?_)
                have f_19 := (w36.2 _ _ _ _ T57 rfl).symm.trans f169
                refine q_iadd (pc := 170) hG dX12_meet_170 (fun v170 e170 => ?_)
                refine q_pS (pc := 171) [.int v170] [.int v148] hG (c_X12_held τ s36 v170 w36.1) my_X12_held w997 w996 dX12_meet_171 rfl rfl (Nat.le_of_ble_eq_true rfl) (by decide) (fun v171 p171 => ?_)
                refine q_isub (pc := 174) hG dX12_meet_174 (fun v174 e174 => ?_)
                refine q_pS (pc := 175) [.int v174] [] hG (c_X12_size τ s36 v174 w36.1) my_X12_size w895 w894 dX12_meet_175 rfl rfl (Nat.le_of_ble_eq_true rfl) (by decide) (fun v175 p175 => ?_)
                have r_20 := (q_subN (lo := (-198)) (hi := 198) e174 p148.1 p171.1 (by decide)).2
                have r_21 := q_absN (lo := 0) (hi := 198) p175.2.2.1 r_20 (by decide)
                exact q_irt hG hE dX12_meet_178 ⟨w36, (q_r.mono r_21 (by decide))⟩
              intro c124
              have r_22 := (q_addN (lo := 0) (hi := 64) e55 r52_4 rl_1 (by decide)).2
              refine q_bipush (pc := 127) hG dX12_meet_127 kb_m2 ?_
              exact q_irt hG hE dX12_meet_129 ⟨w36, (q_r.mono rl_m2 (by decide))⟩
            intro c89
            refine q_iload (pc := 92) hG dX12_meet_92 2 rfl ?_
            refine q_iconst (pc := 94) hG dX12_meet_94 ki_m1 ?_
            refine q_icmp_ne (pc := 95) hG 103 dX12_meet_95 rfl ?_ ?_
            · intro c95
              refine q_iload (pc := 103) hG dX12_meet_103 2 rfl ?_
              have r_23 := q_neL (c := 0) r52_4 (q_nel c95 tl_m1) (by decide)
              exact q_irt hG hE dX12_meet_105 ⟨w36, (q_r.mono r_23 (by decide))⟩
            intro c95
            refine q_bipush (pc := 98) hG dX12_meet_98 kb_m2 ?_
            refine q_goto (pc := 100) 105 hG dX12_meet_100 rfl ?_
            exact q_irt hG hE dX12_meet_105 ⟨w36, (q_r.mono rl_m2 (by decide))⟩
          refine q_icmp_ge (pc := 64) hG 88 dX12_meet_64 rfl ?_ ?_
          · intro c64
            have r_24 := (q_addN (lo := 0) (hi := 64) e55 r52_4 rl_1 (by decide)).2
            refine q_lv [0, 1, 2] rfl ?_
            exact J88 
          intro c64
          have r_25 := (q_addN (lo := 0) (hi := 64) e55 r52_4 rl_1 (by decide)).2
          refine q_aload_n (pc := 67) hG dX12_meet_67 0 rfl ?_
          refine q_getR (pc := 68) (k2 := 168) (n2 := 64) hG fl_X12_77 dX12_meet_68 w36.1 tA0 ff_10_34 (fun b68 f68 T68 => ?_)
          have f_26 := (w36.2 _ _ _ _ tA0 rfl).symm.trans f68
          refine q_iload (pc := 71) hG dX12_meet_71 2 rfl ?_
          refine q_iconst (pc := 73) hG dX12_meet_73 ki_1 ?_
          refine q_iadd (pc := 74) hG dX12_meet_74 (fun v74 e74 => ?_)
          rw [e74.trans e55.symm]
          have r_27 := q_rlt r_25 g63 c64 63 (by decide)
          refine q_iald (pc := 75) hG dX12_meet_75 w36.1 ai_168 T68 (q_ix r_27 (by decide)) (fun v75 f75 g75 => ?_)
          refine q_if_ne (pc := 76) hG 88 dX12_meet_76 rfl ?_ ?_
          · intro c76
            refine q_lv [0, 1, 2] rfl ?_
            exact J88 
          intro c76
          refine q_iload (pc := 79) hG dX12_meet_79 2 rfl ?_
          refine q_iconst (pc := 81) hG dX12_meet_81 ki_1 ?_
          refine q_iadd (pc := 82) hG dX12_meet_82 (fun v82 e82 => ?_)
          rw [e82.trans e55.symm]
          refine q_istore (pc := 83) [(4, .int v55), (0, .ref a0), (3, .int x3)] hG dX12_meet_83 (by decide) rfl ?_
          refine q_goto (pc := 85) 52 hG dX12_meet_85 rfl ?_
          refine q_lv [1, 2, 0] rfl ?_
          exact ih52 v55 (q_r.mono r_27 (by decide)) (q_measU hm52 (by have o0 := (q_addN (lo := 0) (hi := 64) e55 r52_4 rl_1 (by decide)).1; have o1 := c64; have o2 := r52_4; have o3 := r_27; have o4 := g63; have l5 := tl_1; unfold q_r at o2 o3 o4; omega) (r_27).2)
      refine q_lv [1, 4, 0] rfl ?_
      exact J52 _ (-1) (q_r.mono rl_m1 (by decide)) (Nat.lt_succ_self _)
    intro c41
    have r_28 := q_rle r_6 rl_2 g_5.2
    refine q_aload_n (pc := 44) hG dX12_meet_44 0 rfl ?_
    refine q_getI (pc := 45) hG fl_X12_365 dX12_meet_45 w36.1 tA0 ff_10_42 (fun v45 f45 g45 => ?_)
    exact q_irt hG hE dX12_meet_48 ⟨w36, g45⟩
  intro c28
  refine q_iconst (pc := 31) hG dX12_meet_31 ki_m1 ?_
  exact q_irt hG hE dX12_meet_32 ⟨hS0, (q_r.mono rl_m1 (by decide))⟩
theorem dX12_areCars_0 : decode cX12_areCars 0 = .ok (.iconst 0, 1) := by decide +kernel
theorem dX12_areCars_1 : decode cX12_areCars 1 = .ok (.istore_n 2, 1) := by decide +kernel
theorem dX12_areCars_2 : decode cX12_areCars 2 = .ok (.iload_n 2, 1) := by decide +kernel
theorem dX12_areCars_3 : decode cX12_areCars 3 = .ok (.iload_n 1, 1) := by decide +kernel
theorem dX12_areCars_4 : decode cX12_areCars 4 = .ok (.if_icmp .ge 62, 3) := by decide +kernel
theorem dX12_areCars_7 : decode cX12_areCars 7 = .ok (.aload_n 0, 1) := by decide +kernel
theorem dX12_areCars_8 : decode cX12_areCars 8 = .ok (.getfield 19, 3) := by decide +kernel
theorem dX12_areCars_11 : decode cX12_areCars 11 = .ok (.iconst 2, 1) := by decide +kernel
theorem dX12_areCars_12 : decode cX12_areCars 12 = .ok (.iload_n 2, 1) := by decide +kernel
theorem dX12_areCars_13 : decode cX12_areCars 13 = .ok (.imul, 1) := by decide +kernel
theorem dX12_areCars_14 : decode cX12_areCars 14 = .ok (.iconst 1, 1) := by decide +kernel
theorem dX12_areCars_15 : decode cX12_areCars 15 = .ok (.iadd, 1) := by decide +kernel
theorem dX12_areCars_16 : decode cX12_areCars 16 = .ok (.baload, 1) := by decide +kernel
theorem dX12_areCars_17 : decode cX12_areCars 17 = .ok (.iconst 0, 1) := by decide +kernel
theorem dX12_areCars_18 : decode cX12_areCars 18 = .ok (.iconst 1, 1) := by decide +kernel
theorem dX12_areCars_19 : decode cX12_areCars 19 = .ok (.invokestatic 102, 3) := by decide +kernel
theorem dX12_areCars_22 : decode cX12_areCars 22 = .ok (.ifCond .eq 36, 3) := by decide +kernel
theorem dX12_areCars_25 : decode cX12_areCars 25 = .ok (.iload_n 2, 1) := by decide +kernel
theorem dX12_areCars_26 : decode cX12_areCars 26 = .ok (.ifCond .le 34, 3) := by decide +kernel
theorem dX12_areCars_29 : decode cX12_areCars 29 = .ok (.aload_n 0, 1) := by decide +kernel
theorem dX12_areCars_30 : decode cX12_areCars 30 = .ok (.getfield 19, 3) := by decide +kernel
theorem dX12_areCars_33 : decode cX12_areCars 33 = .ok (.iconst 2, 1) := by decide +kernel
theorem dX12_areCars_34 : decode cX12_areCars 34 = .ok (.iload_n 2, 1) := by decide +kernel
theorem dX12_areCars_35 : decode cX12_areCars 35 = .ok (.imul, 1) := by decide +kernel
theorem dX12_areCars_36 : decode cX12_areCars 36 = .ok (.baload, 1) := by decide +kernel
theorem dX12_areCars_37 : decode cX12_areCars 37 = .ok (.sipush 255, 3) := by decide +kernel
theorem dX12_areCars_40 : decode cX12_areCars 40 = .ok (.iand, 1) := by decide +kernel
theorem dX12_areCars_41 : decode cX12_areCars 41 = .ok (.aload_n 0, 1) := by decide +kernel
theorem dX12_areCars_42 : decode cX12_areCars 42 = .ok (.getfield 19, 3) := by decide +kernel
theorem dX12_areCars_45 : decode cX12_areCars 45 = .ok (.iconst 2, 1) := by decide +kernel
theorem dX12_areCars_46 : decode cX12_areCars 46 = .ok (.iload_n 2, 1) := by decide +kernel
theorem dX12_areCars_47 : decode cX12_areCars 47 = .ok (.imul, 1) := by decide +kernel
theorem dX12_areCars_48 : decode cX12_areCars 48 = .ok (.iconst 2, 1) := by decide +kernel
theorem dX12_areCars_49 : decode cX12_areCars 49 = .ok (.isub, 1) := by decide +kernel
theorem dX12_areCars_50 : decode cX12_areCars 50 = .ok (.baload, 1) := by decide +kernel
theorem dX12_areCars_51 : decode cX12_areCars 51 = .ok (.sipush 255, 3) := by decide +kernel
theorem dX12_areCars_54 : decode cX12_areCars 54 = .ok (.iand, 1) := by decide +kernel
theorem dX12_areCars_55 : decode cX12_areCars 55 = .ok (.if_icmp .ge 5, 3) := by decide +kernel
theorem dX12_areCars_58 : decode cX12_areCars 58 = .ok (.iconst 0, 1) := by decide +kernel
theorem dX12_areCars_59 : decode cX12_areCars 59 = .ok (.ireturn, 1) := by decide +kernel
theorem dX12_areCars_60 : decode cX12_areCars 60 = .ok (.iinc 2 1, 3) := by decide +kernel
theorem dX12_areCars_63 : decode cX12_areCars 63 = .ok (.goto (-61), 3) := by decide +kernel
theorem dX12_areCars_66 : decode cX12_areCars 66 = .ok (.iconst 1, 1) := by decide +kernel
theorem dX12_areCars_67 : decode cX12_areCars 67 = .ok (.ireturn, 1) := by decide +kernel
set_option maxRecDepth 100000 in
set_option maxHeartbeats 4000000 in
theorem c_X12_areCars {l : Launch} {D : q_D} (τ : q_T) (σ : q_V) (a0 : Nat) (x1 : Int32) (hI : q_I τ σ) (tA0 : τ a0 = some (10, 1)) (rA1 : q_r x1 1 20) : q_Cp l D yX12_areCars cX12_areCars 3 (some .boolean) 1 22 τ σ [.ref a0, .int x1] (fun r => q_r r 0 1) := by
  refine q_meti rfl (Nat.le_of_ble_eq_true rfl) (fun X hG hE => ?_)
  show q_O X 0 0 τ σ 0 [(0, .ref a0), (1, .int x1)] []
  refine q_iconst (pc := 0) hG dX12_areCars_0 ki_0 ?_
  refine q_istore_n (pc := 1) [(2, .int 0), (0, .ref a0), (1, .int x1)] hG dX12_areCars_1 (by decide) rfl ?_
  have J2 : ∀ (n2 : Nat) (p2_2 : Int32), (q_r p2_2 0 20) → ((20 - p2_2.toInt).toNat < n2) → q_O X 0 0 τ σ 2 [(0, .ref a0), (1, .int x1), (2, .int p2_2)] [] := by
    intro n2
    induction n2 with
    | zero => intro p2_2 r2_2 hm2; exact absurd hm2 (Nat.not_lt_zero _)
    | succ n2 ih2 =>
      intro p2_2 r2_2 hm2
      refine q_iload_n (pc := 2) hG dX12_areCars_2 2 rfl ?_
      refine q_iload_n (pc := 3) hG dX12_areCars_3 1 rfl ?_
      refine q_icmp_ge (pc := 4) hG 66 dX12_areCars_4 rfl ?_ ?_
      · intro c4
        refine q_iconst (pc := 66) hG dX12_areCars_66 ki_1 ?_
        exact q_zrt hG hE dX12_areCars_67 (q_r.mono rl_1 (by decide)) ⟨rfl, (q_r.mono rl_1 (by decide))⟩
      intro c4
      refine q_aload_n (pc := 7) hG dX12_areCars_7 0 rfl ?_
      refine q_getR (pc := 8) (k2 := 310) (n2 := 260) hG fl_X12_19 dX12_areCars_8 hI tA0 ff_10_3 (fun b8 f8 T8 => ?_)
      refine q_iconst (pc := 11) hG dX12_areCars_11 ki_2 ?_
      refine q_iload_n (pc := 12) hG dX12_areCars_12 2 rfl ?_
      refine q_imul (pc := 13) hG dX12_areCars_13 (fun v13 e13 => ?_)
      have r_1 := q_rlt r2_2 rA1 c4 19 (by decide)
      refine q_iconst (pc := 14) hG dX12_areCars_14 ki_1 ?_
      refine q_iadd (pc := 15) hG dX12_areCars_15 (fun v15 e15 => ?_)
      have r_2 := (q_mulN (lo := 0) (hi := 38) e13 rl_2 r_1 (by decide)).2
      have r_3 := (q_addN (lo := 1) (hi := 39) e15 r_2 rl_1 (by decide)).2
      refine q_bald (pc := 16) hG dX12_areCars_16 hI ai_310 T8 (q_ix r_3 (by decide)) (fun v16 f16 g16 => ?_)
      refine q_iconst (pc := 17) hG dX12_areCars_17 ki_0 ?_
      refine q_iconst (pc := 18) hG dX12_areCars_18 ki_1 ?_
      refine q_pS (pc := 19) [.int v16, .int 0, .int 1] [] hG (c_X12_in τ σ v16 0 1 hI) my_X12_in w778 w777 dX12_areCars_19 rfl rfl (Nat.le_of_ble_eq_true rfl) (by decide) (fun v19 p19 => ?_)
      refine q_if_eq (pc := 22) hG 58 dX12_areCars_22 rfl ?_ ?_
      · intro c22
        refine q_iconst (pc := 58) hG dX12_areCars_58 ki_0 ?_
        exact q_zrt hG hE dX12_areCars_59 (q_r.mono rl_0 (by decide)) ⟨rfl, (q_r.mono rl_0 (by decide))⟩
      intro c22
      have g_4 := p19.2.2.mp (q_one p19.1 c22)
      have r_5 := q_rge g16 rl_0 g_4.1
      refine q_iload_n (pc := 25) hG dX12_areCars_25 2 rfl ?_
      have J60 : q_O X 0 0 τ σ 60 [(0, .ref a0), (1, .int x1), (2, .int p2_2)] [] := by
        obtain ⟨v60, e60⟩ : ∃ z : Int32, z = p2_2 + Int32.ofInt 1 := ⟨_, rfl⟩
        have h60 := q_incN (lo := 1) (hi := 20) r_1 (by decide) (by decide) e60
        refine q_iinc (pc := 60) [(2, .int v60), (0, .ref a0), (1, .int x1)] hG dX12_areCars_60 2 rfl e60 (by decide) rfl ?_
        refine q_goto (pc := 63) 2 hG dX12_areCars_63 rfl ?_
        refine q_lv [1, 2, 0] rfl ?_
        exact ih2 v60 (q_r.mono h60.2 (by decide)) (q_measU hm2 (by have o0 := c4; have o1 := (by have q := (q_mulN (lo := 0) (hi := 38) e13 rl_2 r_1 (by decide)).1; rw [tl_2] at q; exact q); have o2 := (q_addN (lo := 1) (hi := 39) e15 r_2 rl_1 (by decide)).1; have o3 := h60.1; have o4 := r_1; have o5 := r_2; have o6 := r_3; have o7 := h60.2; have o8 := rA1; have l9 := tl_1; unfold q_r at o4 o5 o6 o7 o8; omega) (h60.2).2)
      refine q_if_le (pc := 26) hG 60 dX12_areCars_26 rfl ?_ ?_
      · intro c26
        refine q_lv [0, 1, 2] rfl ?_
        exact J60 
      intro c26
      refine q_aload_n (pc := 29) hG dX12_areCars_29 0 rfl ?_
      refine q_getV (pc := 30) (v := .ref b8) hG fl_X12_19 dX12_areCars_30 tA0 f8 ?_
      refine q_iconst (pc := 33) hG dX12_areCars_33 ki_2 ?_
      refine q_iload_n (pc := 34) hG dX12_areCars_34 2 rfl ?_
      refine q_imul (pc := 35) hG dX12_areCars_35 (fun v35 e35 => ?_)
      rw [e35.trans e13.symm]
      refine q_bald (pc := 36) hG dX12_areCars_36 hI ai_310 T8 (q_ix r_2 (by decide)) (fun v36 f36 g36 => ?_)
      refine q_sipush (pc := 37) hG dX12_areCars_37 ks_255 ?_
      refine q_iand (pc := 40) hG dX12_areCars_40 (fun v40 e40 => ?_)
      refine q_aload_n (pc := 41) hG dX12_areCars_41 0 rfl ?_
      refine q_getV (pc := 42) (v := .ref b8) hG fl_X12_19 dX12_areCars_42 tA0 f8 ?_
      refine q_iconst (pc := 45) hG dX12_areCars_45 ki_2 ?_
      refine q_iload_n (pc := 46) hG dX12_areCars_46 2 rfl ?_
      refine q_imul (pc := 47) hG dX12_areCars_47 (fun v47 e47 => ?_)
      rw [e47.trans e13.symm]
      refine q_iconst (pc := 48) hG dX12_areCars_48 ki_2 ?_
      refine q_isub (pc := 49) hG dX12_areCars_49 (fun v49 e49 => ?_)
      have r_6 := q_zgt r_1 c26
      have r_7 := (q_subN (lo := (-2)) (hi := 36) e49 r_2 rl_2 (by decide)).2
      refine q_bald (pc := 50) hG dX12_areCars_50 hI ai_310 T8 (by have o0 := (q_subN (lo := (-2)) (hi := 36) e49 r_2 rl_2 (by decide)).1; have o1 := (by have q := (q_mulN (lo := 0) (hi := 38) e13 rl_2 r_1 (by decide)).1; rw [tl_2] at q; exact q); have o2 := (q_addN (lo := 1) (hi := 39) e15 r_2 rl_1 (by decide)).1; have o3 := c26; have o4 := c4; have o5 := r_6; have o6 := r_2; have o7 := r_3; have o8 := r_7; have o9 := rA1; have l10 := tl_1; have l11 := tl_2; unfold q_r at o5 o6 o7 o8 o9; omega) (fun v50 f50 g50 => ?_)
      refine q_sipush (pc := 51) hG dX12_areCars_51 ks_255 ?_
      refine q_iand (pc := 54) hG dX12_areCars_54 (fun v54 e54 => ?_)
      refine q_icmp_ge (pc := 55) hG 60 dX12_areCars_55 rfl ?_ ?_
      · intro c55
        have r_8 := q_andN (n := 255) e40 rfl (by decide)
        have r_9 := q_andN (n := 255) e54 rfl (by decide)
        refine q_lv [0, 1, 2] rfl ?_
        exact J60 
      intro c55
      have r_10 := q_andN (n := 255) e40 rfl (by decide)
      have r_11 := q_andN (n := 255) e54 rfl (by decide)
      refine q_iconst (pc := 58) hG dX12_areCars_58 ki_0 ?_
      exact q_zrt hG hE dX12_areCars_59 (q_r.mono rl_0 (by decide)) ⟨rfl, (q_r.mono rl_0 (by decide))⟩
  refine q_lv [1, 2, 0] rfl ?_
  exact J2 _ 0 (q_r.mono rl_0 (by decide)) (Nat.lt_succ_self _)
theorem dX12_lights_0 : decode cX12_lights 0 = .ok (.iload_n 1, 1) := by decide +kernel
theorem dX12_lights_1 : decode cX12_lights 1 = .ok (.iconst 1, 1) := by decide +kernel
theorem dX12_lights_2 : decode cX12_lights 2 = .ok (.bipush 20, 2) := by decide +kernel
theorem dX12_lights_4 : decode cX12_lights 4 = .ok (.invokestatic 102, 3) := by decide +kernel
theorem dX12_lights_7 : decode cX12_lights 7 = .ok (.ifCond .eq 43, 3) := by decide +kernel
theorem dX12_lights_10 : decode cX12_lights 10 = .ok (.iload_n 2, 1) := by decide +kernel
theorem dX12_lights_11 : decode cX12_lights 11 = .ok (.iconst 0, 1) := by decide +kernel
theorem dX12_lights_12 : decode cX12_lights 12 = .ok (.bipush 9, 2) := by decide +kernel
theorem dX12_lights_14 : decode cX12_lights 14 = .ok (.invokestatic 102, 3) := by decide +kernel
theorem dX12_lights_17 : decode cX12_lights 17 = .ok (.ifCond .eq 33, 3) := by decide +kernel
theorem dX12_lights_20 : decode cX12_lights 20 = .ok (.iload_n 3, 1) := by decide +kernel
theorem dX12_lights_21 : decode cX12_lights 21 = .ok (.iconst 0, 1) := by decide +kernel
theorem dX12_lights_22 : decode cX12_lights 22 = .ok (.iconst 1, 1) := by decide +kernel
theorem dX12_lights_23 : decode cX12_lights 23 = .ok (.invokestatic 102, 3) := by decide +kernel
theorem dX12_lights_26 : decode cX12_lights 26 = .ok (.ifCond .ne 14, 3) := by decide +kernel
theorem dX12_lights_29 : decode cX12_lights 29 = .ok (.iload_n 3, 1) := by decide +kernel
theorem dX12_lights_30 : decode cX12_lights 30 = .ok (.bipush 11, 2) := by decide +kernel
theorem dX12_lights_32 : decode cX12_lights 32 = .ok (.bipush 30, 2) := by decide +kernel
theorem dX12_lights_34 : decode cX12_lights 34 = .ok (.invokestatic 102, 3) := by decide +kernel
theorem dX12_lights_37 : decode cX12_lights 37 = .ok (.ifCond .eq 13, 3) := by decide +kernel
theorem dX12_lights_40 : decode cX12_lights 40 = .ok (.iconst 2, 1) := by decide +kernel
theorem dX12_lights_41 : decode cX12_lights 41 = .ok (.iload_n 1, 1) := by decide +kernel
theorem dX12_lights_42 : decode cX12_lights 42 = .ok (.imul, 1) := by decide +kernel
theorem dX12_lights_43 : decode cX12_lights 43 = .ok (.aload_n 0, 1) := by decide +kernel
theorem dX12_lights_44 : decode cX12_lights 44 = .ok (.getfield 119, 3) := by decide +kernel
theorem dX12_lights_47 : decode cX12_lights 47 = .ok (.if_icmp .le 5, 3) := by decide +kernel
theorem dX12_lights_50 : decode cX12_lights 50 = .ok (.iconst (-1), 1) := by decide +kernel
theorem dX12_lights_51 : decode cX12_lights 51 = .ok (.ireturn, 1) := by decide +kernel
theorem dX12_lights_52 : decode cX12_lights 52 = .ok (.aload_n 0, 1) := by decide +kernel
theorem dX12_lights_53 : decode cX12_lights 53 = .ok (.iconst 0, 1) := by decide +kernel
theorem dX12_lights_54 : decode cX12_lights 54 = .ok (.putfield 119, 3) := by decide +kernel
theorem dX12_lights_57 : decode cX12_lights 57 = .ok (.aload_n 0, 1) := by decide +kernel
theorem dX12_lights_58 : decode cX12_lights 58 = .ok (.iload_n 1, 1) := by decide +kernel
theorem dX12_lights_59 : decode cX12_lights 59 = .ok (.invokevirtual 392, 3) := by decide +kernel
theorem dX12_lights_62 : decode cX12_lights 62 = .ok (.ifCond .ne 6, 3) := by decide +kernel
theorem dX12_lights_65 : decode cX12_lights 65 = .ok (.bipush (-2), 2) := by decide +kernel
theorem dX12_lights_67 : decode cX12_lights 67 = .ok (.ireturn, 1) := by decide +kernel
theorem dX12_lights_68 : decode cX12_lights 68 = .ok (.iload_n 3, 1) := by decide +kernel
theorem dX12_lights_69 : decode cX12_lights 69 = .ok (.iconst 1, 1) := by decide +kernel
theorem dX12_lights_70 : decode cX12_lights 70 = .ok (.if_icmp .le 14, 3) := by decide +kernel
theorem dX12_lights_73 : decode cX12_lights 73 = .ok (.aload_n 0, 1) := by decide +kernel
theorem dX12_lights_74 : decode cX12_lights 74 = .ok (.iload_n 1, 1) := by decide +kernel
theorem dX12_lights_75 : decode cX12_lights 75 = .ok (.iload_n 3, 1) := by decide +kernel
theorem dX12_lights_76 : decode cX12_lights 76 = .ok (.bipush 10, 2) := by decide +kernel
theorem dX12_lights_78 : decode cX12_lights 78 = .ok (.isub, 1) := by decide +kernel
theorem dX12_lights_79 : decode cX12_lights 79 = .ok (.iload_n 2, 1) := by decide +kernel
theorem dX12_lights_80 : decode cX12_lights 80 = .ok (.invokevirtual 395, 3) := by decide +kernel
theorem dX12_lights_83 : decode cX12_lights 83 = .ok (.ireturn, 1) := by decide +kernel
theorem dX12_lights_84 : decode cX12_lights 84 = .ok (.iconst 1, 1) := by decide +kernel
theorem dX12_lights_85 : decode cX12_lights 85 = .ok (.istore 4, 2) := by decide +kernel
theorem dX12_lights_87 : decode cX12_lights 87 = .ok (.iconst 2, 1) := by decide +kernel
theorem dX12_lights_88 : decode cX12_lights 88 = .ok (.istore 5, 2) := by decide +kernel
theorem dX12_lights_90 : decode cX12_lights 90 = .ok (.iload 5, 2) := by decide +kernel
theorem dX12_lights_92 : decode cX12_lights 92 = .ok (.bipush 20, 2) := by decide +kernel
theorem dX12_lights_94 : decode cX12_lights 94 = .ok (.if_icmp .gt 32, 3) := by decide +kernel
theorem dX12_lights_97 : decode cX12_lights 97 = .ok (.aload_n 0, 1) := by decide +kernel
theorem dX12_lights_98 : decode cX12_lights 98 = .ok (.iload_n 1, 1) := by decide +kernel
theorem dX12_lights_99 : decode cX12_lights 99 = .ok (.iload 5, 2) := by decide +kernel
theorem dX12_lights_101 : decode cX12_lights 101 = .ok (.iload_n 2, 1) := by decide +kernel
theorem dX12_lights_102 : decode cX12_lights 102 = .ok (.invokevirtual 395, 3) := by decide +kernel
theorem dX12_lights_105 : decode cX12_lights 105 = .ok (.aload_n 0, 1) := by decide +kernel
theorem dX12_lights_106 : decode cX12_lights 106 = .ok (.iload_n 1, 1) := by decide +kernel
theorem dX12_lights_107 : decode cX12_lights 107 = .ok (.iload 4, 2) := by decide +kernel
theorem dX12_lights_109 : decode cX12_lights 109 = .ok (.iload_n 2, 1) := by decide +kernel
theorem dX12_lights_110 : decode cX12_lights 110 = .ok (.invokevirtual 395, 3) := by decide +kernel
theorem dX12_lights_113 : decode cX12_lights 113 = .ok (.if_icmp .ge 7, 3) := by decide +kernel
theorem dX12_lights_116 : decode cX12_lights 116 = .ok (.iload 5, 2) := by decide +kernel
theorem dX12_lights_118 : decode cX12_lights 118 = .ok (.istore 4, 2) := by decide +kernel
theorem dX12_lights_120 : decode cX12_lights 120 = .ok (.iinc 5 1, 3) := by decide +kernel
theorem dX12_lights_123 : decode cX12_lights 123 = .ok (.goto (-33), 3) := by decide +kernel
theorem dX12_lights_126 : decode cX12_lights 126 = .ok (.iload_n 3, 1) := by decide +kernel
theorem dX12_lights_127 : decode cX12_lights 127 = .ok (.ifCond .ne 14, 3) := by decide +kernel
theorem dX12_lights_130 : decode cX12_lights 130 = .ok (.aload_n 0, 1) := by decide +kernel
theorem dX12_lights_131 : decode cX12_lights 131 = .ok (.iload_n 1, 1) := by decide +kernel
theorem dX12_lights_132 : decode cX12_lights 132 = .ok (.iload 4, 2) := by decide +kernel
theorem dX12_lights_134 : decode cX12_lights 134 = .ok (.iload_n 2, 1) := by decide +kernel
theorem dX12_lights_135 : decode cX12_lights 135 = .ok (.invokevirtual 395, 3) := by decide +kernel
theorem dX12_lights_138 : decode cX12_lights 138 = .ok (.goto 5, 3) := by decide +kernel
theorem dX12_lights_141 : decode cX12_lights 141 = .ok (.iload 4, 2) := by decide +kernel
theorem dX12_lights_143 : decode cX12_lights 143 = .ok (.ireturn, 1) := by decide +kernel
def md_X12_lights : List (Nat × Nat) := [(10, 4)]
set_option maxRecDepth 100000 in
set_option maxHeartbeats 4000000 in
theorem c_X12_lights {l : Launch} {D : q_D} (τ : q_T) (σ : q_V) (a0 : Nat) (x1 : Int32) (x2 : Int32) (x3 : Int32) (hI : q_I τ σ) (tA0 : τ a0 = some (10, 1)) : q_Ci l D yX12_lights cX12_lights 6 (some .int) 3 73 τ σ [.ref a0, .int x1, .int x2, .int x3] (fun r σ1 => q_S md_X12_lights τ σ σ1 ∧ (q_r r (-2147483648) 2147483647) ∧ (∀ t : Int32, σ a0 4 = .int t → ∃ z : Int32, σ1 a0 4 = .int z ∧ (((1 ≤ x1.toInt ∧ x1.toInt ≤ 20) ∧ (0 ≤ x2.toInt ∧ x2.toInt ≤ 9) ∧ ((0 ≤ x3.toInt ∧ x3.toInt ≤ 1) ∨ (11 ≤ x3.toInt ∧ x3.toInt ≤ 30)) ∧ 2 * x1.toInt ≤ t.toInt) → z.toInt = 0) ∧ (¬ ((1 ≤ x1.toInt ∧ x1.toInt ≤ 20) ∧ (0 ≤ x2.toInt ∧ x2.toInt ≤ 9) ∧ ((0 ≤ x3.toInt ∧ x3.toInt ≤ 1) ∨ (11 ≤ x3.toInt ∧ x3.toInt ≤ 30)) ∧ 2 * x1.toInt ≤ t.toInt) → z.toInt = t.toInt))) := by
  refine q_meti rfl (Nat.le_of_ble_eq_true rfl) (fun X hG hE => ?_)
  show q_O X 0 0 τ σ 0 [(0, .ref a0), (1, .int x1), (2, .int x2), (3, .int x3)] []
  have hS0 : q_S md_X12_lights τ σ σ := q_S.rf hI
  obtain ⟨q_1v, q_1f, q_1r⟩ := (hI a0 10 1 tA0 4 (by decide)).int ff_10_4
  refine q_iload_n (pc := 0) hG dX12_lights_0 1 rfl ?_
  refine q_iconst (pc := 1) hG dX12_lights_1 ki_1 ?_
  refine q_bipush (pc := 2) hG dX12_lights_2 kb_20 ?_
  refine q_pS (pc := 4) [.int x1, .int 1, .int 20] [] hG (c_X12_in τ σ x1 1 20 hI) my_X12_in w778 w777 dX12_lights_4 rfl rfl (Nat.le_of_ble_eq_true rfl) (by decide) (fun v4 p4 => ?_)
  refine q_if_eq (pc := 7) hG 50 dX12_lights_7 rfl ?_ ?_
  · intro c7
    refine q_iconst (pc := 50) hG dX12_lights_50 ki_m1 ?_
    have r_2 := q_zeq c7
    exact q_irt hG hE dX12_lights_51 ⟨hS0, (q_r.mono rl_m1 (by decide)), (fun t e => by cases e.symm.trans q_1f; exact ⟨q_1v, q_1f, (by have o0 := p4.2.2; have o1 := c7; have o2 := q_1r; have o3 := r_2; have l4 := tl_m1; have l5 := tl_1; have l6 := tl_20; unfold q_r at o2 o3; omega)⟩)⟩
  intro c7
  have g_3 := p4.2.2.mp (q_one p4.1 c7)
  have r_4 := q_rge (q_r_any x1) rl_1 g_3.1
  refine q_iload_n (pc := 10) hG dX12_lights_10 2 rfl ?_
  refine q_iconst (pc := 11) hG dX12_lights_11 ki_0 ?_
  refine q_bipush (pc := 12) hG dX12_lights_12 kb_9 ?_
  refine q_pS (pc := 14) [.int x2, .int 0, .int 9] [] hG (c_X12_in τ σ x2 0 9 hI) my_X12_in w778 w777 dX12_lights_14 rfl rfl (Nat.le_of_ble_eq_true rfl) (by decide) (fun v14 p14 => ?_)
  refine q_if_eq (pc := 17) hG 50 dX12_lights_17 rfl ?_ ?_
  · intro c17
    refine q_iconst (pc := 50) hG dX12_lights_50 ki_m1 ?_
    have r_5 := q_zeq c17
    have r_6 := q_neL (c := 1) p4.1 c7 (by decide)
    have r_7 := q_rle r_4 rl_20 g_3.2
    exact q_irt hG hE dX12_lights_51 ⟨hS0, (q_r.mono rl_m1 (by decide)), (fun t e => by cases e.symm.trans q_1f; exact ⟨q_1v, q_1f, (by have o0 := p4.2.2; have o1 := c7; have o2 := g_3.1; have o3 := g_3.2; have o4 := p14.2.2; have o5 := c17; have o6 := q_1r; have o7 := r_5; have o8 := r_6; have o9 := r_7; have l10 := tl_m1; have l11 := tl_0; have l12 := tl_1; have l13 := tl_9; have l14 := tl_20; unfold q_r at o6 o7 o8 o9; omega)⟩)⟩
  intro c17
  have g_8 := p14.2.2.mp (q_one p14.1 c17)
  have r_9 := q_rge (q_r_any x2) rl_0 g_8.1
  refine q_iload_n (pc := 20) hG dX12_lights_20 3 rfl ?_
  refine q_iconst (pc := 21) hG dX12_lights_21 ki_0 ?_
  refine q_iconst (pc := 22) hG dX12_lights_22 ki_1 ?_
  refine q_pS (pc := 23) [.int x3, .int 0, .int 1] [] hG (c_X12_in τ σ x3 0 1 hI) my_X12_in w778 w777 dX12_lights_23 rfl rfl (Nat.le_of_ble_eq_true rfl) (by decide) (fun v23 p23 => ?_)
  have J40 : ((0 ≤ x3.toInt ∧ x3.toInt ≤ 1) ∨ (11 ≤ x3.toInt ∧ x3.toInt ≤ 30)) → q_O X 0 0 τ σ 40 [(0, .ref a0), (1, .int x1), (2, .int x2), (3, .int x3)] [] := by
    intro iL40
    refine q_iconst (pc := 40) hG dX12_lights_40 ki_2 ?_
    refine q_iload_n (pc := 41) hG dX12_lights_41 1 rfl ?_
    refine q_imul (pc := 42) hG dX12_lights_42 (fun v42 e42 => ?_)
    have r_10 := q_rle r_4 rl_20 g_3.2
    refine q_aload_n (pc := 43) hG dX12_lights_43 0 rfl ?_
    refine q_getV (pc := 44) (v := .int q_1v) hG fl_X12_119 dX12_lights_44 tA0 q_1f ?_
    refine q_icmp_le (pc := 47) hG 52 dX12_lights_47 rfl ?_ ?_
    · intro c47
      have r_11 := (q_mulN (lo := 2) (hi := 40) e42 rl_2 r_10 (by decide)).2
      refine q_aload_n (pc := 52) hG dX12_lights_52 0 rfl ?_
      refine q_iconst (pc := 53) hG dX12_lights_53 ki_0 ?_
      refine q_putI (pc := 54) hG fl_X12_119 dX12_lights_54 hS0 tA0 ff_10_4 rl_0 (by decide) rfl (fun s54 u54 w54 => ?_)
      have m54 : s54 a0 4 = .int 0 := by rw [u54]; exact q_up_same
      refine q_aload_n (pc := 57) hG dX12_lights_57 0 rfl ?_
      refine q_iload_n (pc := 58) hG dX12_lights_58 1 rfl ?_
      refine q_pV (pc := 59) [.int x1] [] hG (c_X12_areCars τ s54 a0 x1 w54.1 tA0 r_10) my_X12_areCars mv_X12_areCars w1150 dX12_lights_59 tA0 (by decide) rfl rfl (Nat.le_of_ble_eq_true rfl) (by decide) (fun v59 p59 => ?_)
      refine q_if_ne (pc := 62) hG 68 dX12_lights_62 rfl ?_ ?_
      · intro c62
        refine q_iload_n (pc := 68) hG dX12_lights_68 3 rfl ?_
        refine q_iconst (pc := 69) hG dX12_lights_69 ki_1 ?_
        refine q_icmp_le (pc := 70) hG 84 dX12_lights_70 rfl ?_ ?_
        · intro c70
          refine q_iconst (pc := 84) hG dX12_lights_84 ki_1 ?_
          refine q_istore (pc := 85) [(4, .int 1), (0, .ref a0), (1, .int x1), (2, .int x2), (3, .int x3)] hG dX12_lights_85 (by decide) rfl ?_
          refine q_iconst (pc := 87) hG dX12_lights_87 ki_2 ?_
          refine q_istore (pc := 88) [(5, .int 2), (4, .int 1), (0, .ref a0), (1, .int x1), (2, .int x2), (3, .int x3)] hG dX12_lights_88 (by decide) rfl ?_
          have J90 : ∀ (n90 : Nat) (p90_4 : Int32) (p90_5 : Int32), (q_r p90_4 1 20) → (q_r p90_5 2 21) → ((21 - p90_5.toInt).toNat < n90) → q_O X 0 0 τ s54 90 [(0, .ref a0), (1, .int x1), (2, .int x2), (3, .int x3), (4, .int p90_4), (5, .int p90_5)] [] := by
            intro n90
            induction n90 with
            | zero => intro p90_4 p90_5 r90_4 r90_5 hm90; exact absurd hm90 (Nat.not_lt_zero _)
            | succ n90 ih90 =>
              intro p90_4 p90_5 r90_4 r90_5 hm90
              refine q_iload (pc := 90) hG dX12_lights_90 5 rfl ?_
              refine q_bipush (pc := 92) hG dX12_lights_92 kb_20 ?_
              refine q_icmp_gt (pc := 94) hG 126 dX12_lights_94 rfl ?_ ?_
              · intro c94
                refine q_iload_n (pc := 126) hG dX12_lights_126 3 rfl ?_
                refine q_if_ne (pc := 127) hG 141 dX12_lights_127 rfl ?_ ?_
                · intro c127
                  have r_12 := q_rle (q_r_any x3) rl_1 c70
                  refine q_iload (pc := 141) hG dX12_lights_141 4 rfl ?_
                  have r_13 := q_rge q_1r r_11 c47
                  have r_14 := q_neL (c := 1) p14.1 c17 (by decide)
                  have r_15 := q_neL (c := 1) p4.1 c7 (by decide)
                  have r_16 := q_rle r_9 rl_9 g_8.2
                  exact q_irt hG hE dX12_lights_143 ⟨w54, (q_r.mono r90_4 (by decide)), (fun t e => by cases e.symm.trans q_1f; exact ⟨0, m54, (by have o0 := p4.2.2; have o1 := c7; have o2 := g_3.1; have o3 := g_3.2; have o4 := p14.2.2; have o5 := c17; have o6 := g_8.1; have o7 := g_8.2; have o8 := p23.2.2; have o9 := iL40; have o10 := (by have q := (q_mulN (lo := 2) (hi := 40) e42 rl_2 r_10 (by decide)).1; rw [tl_2] at q; exact q); have o11 := c47; have o12 := c70; have o13 := c127; have o14 := r90_4; have o15 := r_13; have o16 := r_14; have o17 := p23.1; have o18 := r_15; have o19 := r_11; have o20 := r_10; have o21 := r_16; have o22 := r_12; have l23 := tl_0; have l24 := tl_1; have l25 := tl_9; have l26 := tl_20; unfold q_r at o14 o15 o16 o17 o18 o19 o20 o21 o22; omega)⟩)⟩
                intro c127
                have r_17 := q_rle (q_r_any x3) rl_1 c70
                refine q_aload_n (pc := 130) hG dX12_lights_130 0 rfl ?_
                refine q_iload_n (pc := 131) hG dX12_lights_131 1 rfl ?_
                refine q_iload (pc := 132) hG dX12_lights_132 4 rfl ?_
                refine q_iload_n (pc := 134) hG dX12_lights_134 2 rfl ?_
                have r_18 := q_rle r_9 rl_9 g_8.2
                refine q_pV (pc := 135) [.int x1, .int p90_4, .int x2] [] hG (c_X12_waitsBy τ s54 a0 x1 p90_4 x2 w54.1 tA0 r_10 r90_4 r_18) my_X12_waitsBy mv_X12_waitsBy w1153 dX12_lights_135 tA0 (by decide) rfl rfl (Nat.le_of_ble_eq_true rfl) (by decide) (fun v135 p135 => ?_)
                refine q_goto (pc := 138) 143 hG dX12_lights_138 rfl ?_
                have r_19 := q_rge q_1r r_11 c47
                have r_20 := q_neL (c := 1) p14.1 c17 (by decide)
                have r_21 := q_neL (c := 1) p4.1 c7 (by decide)
                have r_22 := q_zeq c127
                exact q_irt hG hE dX12_lights_143 ⟨w54, p135, (fun t e => by cases e.symm.trans q_1f; exact ⟨0, m54, (by have o0 := p4.2.2; have o1 := c7; have o2 := g_3.1; have o3 := g_3.2; have o4 := p14.2.2; have o5 := c17; have o6 := g_8.1; have o7 := g_8.2; have o8 := p23.2.2; have o9 := iL40; have o10 := (by have q := (q_mulN (lo := 2) (hi := 40) e42 rl_2 r_10 (by decide)).1; rw [tl_2] at q; exact q); have o11 := c47; have o12 := c70; have o13 := c127; have o14 := r_19; have o15 := p135; have o16 := r_20; have o17 := p23.1; have o18 := r_21; have o19 := r_11; have o20 := r_10; have o21 := r_18; have o22 := r_22; have l23 := tl_0; have l24 := tl_1; have l25 := tl_9; have l26 := tl_20; unfold q_r at o14 o15 o16 o17 o18 o19 o20 o21 o22; omega)⟩)⟩
              intro c94
              refine q_aload_n (pc := 97) hG dX12_lights_97 0 rfl ?_
              refine q_iload_n (pc := 98) hG dX12_lights_98 1 rfl ?_
              refine q_iload (pc := 99) hG dX12_lights_99 5 rfl ?_
              refine q_iload_n (pc := 101) hG dX12_lights_101 2 rfl ?_
              have r_23 := q_rle r90_5 rl_20 c94
              have r_24 := q_rle r_9 rl_9 g_8.2
              refine q_pV (pc := 102) [.int x1, .int p90_5, .int x2] [] hG (c_X12_waitsBy τ s54 a0 x1 p90_5 x2 w54.1 tA0 r_10 (q_r.mono r_23 (by decide)) r_24) my_X12_waitsBy mv_X12_waitsBy w1153 dX12_lights_102 tA0 (by decide) rfl rfl (Nat.le_of_ble_eq_true rfl) (by decide) (fun v102 p102 => ?_)
              refine q_aload_n (pc := 105) hG dX12_lights_105 0 rfl ?_
              refine q_iload_n (pc := 106) hG dX12_lights_106 1 rfl ?_
              refine q_iload (pc := 107) hG dX12_lights_107 4 rfl ?_
              refine q_iload_n (pc := 109) hG dX12_lights_109 2 rfl ?_
              refine q_pV (pc := 110) [.int x1, .int p90_4, .int x2] [.int v102] hG (c_X12_waitsBy τ s54 a0 x1 p90_4 x2 w54.1 tA0 r_10 r90_4 r_24) my_X12_waitsBy mv_X12_waitsBy w1153 dX12_lights_110 tA0 (by decide) rfl rfl (Nat.le_of_ble_eq_true rfl) (by decide) (fun v110 p110 => ?_)
              have J120 : ∀ (p120_4 : Int32), (q_r p120_4 1 20) → q_O X 0 0 τ s54 120 [(0, .ref a0), (1, .int x1), (2, .int x2), (3, .int x3), (4, .int p120_4), (5, .int p90_5)] [] := by
                intro p120_4 r120_4
                obtain ⟨v120, e120⟩ : ∃ z : Int32, z = p90_5 + Int32.ofInt 1 := ⟨_, rfl⟩
                have h120 := q_incN (lo := 3) (hi := 21) r_23 (by decide) (by decide) e120
                refine q_iinc (pc := 120) [(5, .int v120), (0, .ref a0), (1, .int x1), (2, .int x2), (3, .int x3), (4, .int p120_4)] hG dX12_lights_120 5 rfl e120 (by decide) rfl ?_
                refine q_goto (pc := 123) 90 hG dX12_lights_123 rfl ?_
                refine q_lv [1, 2, 3, 4, 5, 0] rfl ?_
                exact ih90 p120_4 v120 r120_4 (q_r.mono h120.2 (by decide)) (q_measU hm90 (by have o0 := c94; have o1 := h120.1; have o2 := r_23; have o3 := h120.2; have l4 := tl_20; unfold q_r at o2 o3; omega) (h120.2).2)
              refine q_icmp_ge (pc := 113) hG 120 dX12_lights_113 rfl ?_ ?_
              · intro c113
                refine q_lv [0, 1, 2, 3, 4, 5] rfl ?_
                exact J120 p90_4 r90_4
              intro c113
              refine q_iload (pc := 116) hG dX12_lights_116 5 rfl ?_
              refine q_istore (pc := 118) [(4, .int p90_5), (0, .ref a0), (1, .int x1), (2, .int x2), (3, .int x3), (5, .int p90_5)] hG dX12_lights_118 (by decide) rfl ?_
              refine q_lv [1, 2, 3, 4, 0, 5] rfl ?_
              exact J120 p90_5 (q_r.mono r_23 (by decide))
          refine q_lv [2, 3, 4, 5, 1, 0] rfl ?_
          exact J90 _ 1 2 (q_r.mono rl_1 (by decide)) (q_r.mono rl_2 (by decide)) (Nat.lt_succ_self _)
        intro c70
        refine q_aload_n (pc := 73) hG dX12_lights_73 0 rfl ?_
        refine q_iload_n (pc := 74) hG dX12_lights_74 1 rfl ?_
        refine q_iload_n (pc := 75) hG dX12_lights_75 3 rfl ?_
        refine q_bipush (pc := 76) hG dX12_lights_76 kb_10 ?_
        refine q_isub (pc := 78) hG dX12_lights_78 (fun v78 e78 => ?_)
        have r_25 := q_rgt (q_r_any x3) rl_1 c70 2 (by decide)
        refine q_iload_n (pc := 79) hG dX12_lights_79 2 rfl ?_
        have r_26 := (q_subN (lo := (-8)) (hi := 2147483637) e78 r_25 rl_10 (by decide)).2
        have r_27 := q_rle r_9 rl_9 g_8.2
        refine q_pV (pc := 80) [.int x1, .int v78, .int x2] [] hG (c_X12_waitsBy τ s54 a0 x1 v78 x2 w54.1 tA0 r_10 (show q_r v78 1 20 from ⟨(by have o0 := (q_subN (lo := (-8)) (hi := 2147483637) e78 r_25 rl_10 (by decide)).1; have o1 := p23.2.2; have o2 := iL40; have o3 := c70; have o4 := p23.1; have o5 := r_26; have o6 := r_25; have l7 := tl_0; have l8 := tl_1; have l9 := tl_10; unfold q_r at o4 o5 o6; omega), (by have o0 := (q_subN (lo := (-8)) (hi := 2147483637) e78 r_25 rl_10 (by decide)).1; have o1 := p23.2.2; have o2 := iL40; have o3 := c70; have o4 := p23.1; have o5 := r_26; have o6 := r_25; have l7 := tl_0; have l8 := tl_1; have l9 := tl_10; unfold q_r at o4 o5 o6; omega)⟩) r_27) my_X12_waitsBy mv_X12_waitsBy w1153 dX12_lights_80 tA0 (by decide) rfl rfl (Nat.le_of_ble_eq_true rfl) (by decide) (fun v80 p80 => ?_)
        have r_28 := q_rge q_1r r_11 c47
        have r_29 := q_neL (c := 1) p14.1 c17 (by decide)
        have r_30 := q_neL (c := 1) p4.1 c7 (by decide)
        exact q_irt hG hE dX12_lights_83 ⟨w54, p80, (fun t e => by cases e.symm.trans q_1f; exact ⟨0, m54, (by have o0 := p4.2.2; have o1 := c7; have o2 := g_3.1; have o3 := g_3.2; have o4 := p14.2.2; have o5 := c17; have o6 := g_8.1; have o7 := g_8.2; have o8 := p23.2.2; have o9 := iL40; have o10 := (by have q := (q_mulN (lo := 2) (hi := 40) e42 rl_2 r_10 (by decide)).1; rw [tl_2] at q; exact q); have o11 := c47; have o12 := c70; have o13 := (q_subN (lo := (-8)) (hi := 2147483637) e78 r_25 rl_10 (by decide)).1; have o14 := r_28; have o15 := r_29; have o16 := p23.1; have o17 := r_30; have o18 := r_11; have o19 := r_26; have o20 := p80; have o21 := r_10; have o22 := r_27; have o23 := r_25; have l24 := tl_0; have l25 := tl_1; have l26 := tl_9; have l27 := tl_10; have l28 := tl_20; unfold q_r at o14 o15 o16 o17 o18 o19 o20 o21 o22 o23; omega)⟩)⟩
      intro c62
      refine q_bipush (pc := 65) hG dX12_lights_65 kb_m2 ?_
      have r_31 := q_rge q_1r r_11 c47
      have r_32 := q_neL (c := 1) p14.1 c17 (by decide)
      have r_33 := q_neL (c := 1) p4.1 c7 (by decide)
      have r_34 := q_rle r_9 rl_9 g_8.2
      exact q_irt hG hE dX12_lights_67 ⟨w54, (q_r.mono rl_m2 (by decide)), (fun t e => by cases e.symm.trans q_1f; exact ⟨0, m54, (by have o0 := p4.2.2; have o1 := c7; have o2 := g_3.1; have o3 := g_3.2; have o4 := p14.2.2; have o5 := c17; have o6 := g_8.1; have o7 := g_8.2; have o8 := p23.2.2; have o9 := iL40; have o10 := (by have q := (q_mulN (lo := 2) (hi := 40) e42 rl_2 r_10 (by decide)).1; rw [tl_2] at q; exact q); have o11 := c47; have o12 := r_31; have o13 := r_32; have o14 := p23.1; have o15 := r_33; have o16 := r_11; have o17 := r_10; have o18 := r_34; have l19 := tl_m2; have l20 := tl_0; have l21 := tl_1; have l22 := tl_9; have l23 := tl_20; unfold q_r at o12 o13 o14 o15 o16 o17 o18; omega)⟩)⟩
    intro c47
    have r_35 := (q_mulN (lo := 2) (hi := 40) e42 rl_2 r_10 (by decide)).2
    refine q_iconst (pc := 50) hG dX12_lights_50 ki_m1 ?_
    have r_36 := q_rlt q_1r r_35 c47 39 (by decide)
    have r_37 := q_neL (c := 1) p14.1 c17 (by decide)
    have r_38 := q_neL (c := 1) p4.1 c7 (by decide)
    have r_39 := q_rle r_9 rl_9 g_8.2
    exact q_irt hG hE dX12_lights_51 ⟨hS0, (q_r.mono rl_m1 (by decide)), (fun t e => by cases e.symm.trans q_1f; exact ⟨q_1v, q_1f, (by have o0 := p4.2.2; have o1 := c7; have o2 := g_3.1; have o3 := g_3.2; have o4 := p14.2.2; have o5 := c17; have o6 := g_8.1; have o7 := g_8.2; have o8 := p23.2.2; have o9 := iL40; have o10 := (by have q := (q_mulN (lo := 2) (hi := 40) e42 rl_2 r_10 (by decide)).1; rw [tl_2] at q; exact q); have o11 := c47; have o12 := r_36; have o13 := r_37; have o14 := p23.1; have o15 := r_38; have o16 := r_35; have o17 := r_10; have o18 := r_39; have l19 := tl_m1; have l20 := tl_0; have l21 := tl_1; have l22 := tl_9; have l23 := tl_20; unfold q_r at o12 o13 o14 o15 o16 o17 o18; omega)⟩)⟩
  refine q_if_ne (pc := 26) hG 40 dX12_lights_26 rfl ?_ ?_
  · intro c26
    have g_40 := p23.2.2.mp (q_one p23.1 c26)
    have r_41 := q_rge (q_r_any x3) rl_0 g_40.1
    refine q_lv [0, 1, 2, 3] rfl ?_
    have r_42 := q_neL (c := 1) p23.1 c26 (by decide)
    have r_43 := q_rle r_41 rl_1 g_40.2
    exact J40 (by have o0 := p23.2.2; have o1 := c26; have o2 := g_40.1; have o3 := g_40.2; have o4 := r_42; have o5 := r_43; have l6 := tl_0; have l7 := tl_1; unfold q_r at o4 o5; omega)
  intro c26
  refine q_iload_n (pc := 29) hG dX12_lights_29 3 rfl ?_
  refine q_bipush (pc := 30) hG dX12_lights_30 kb_11 ?_
  refine q_bipush (pc := 32) hG dX12_lights_32 kb_30 ?_
  refine q_pS (pc := 34) [.int x3, .int 11, .int 30] [] hG (c_X12_in τ σ x3 11 30 hI) my_X12_in w778 w777 dX12_lights_34 rfl rfl (Nat.le_of_ble_eq_true rfl) (by decide) (fun v34 p34 => ?_)
  refine q_if_eq (pc := 37) hG 50 dX12_lights_37 rfl ?_ ?_
  · intro c37
    refine q_iconst (pc := 50) hG dX12_lights_50 ki_m1 ?_
    have r_44 := q_neL (c := 1) p14.1 c17 (by decide)
    have r_45 := q_zeq c26
    have r_46 := q_zeq c37
    have r_47 := q_neL (c := 1) p4.1 c7 (by decide)
    have r_48 := q_rle r_4 rl_20 g_3.2
    have r_49 := q_rle r_9 rl_9 g_8.2
    exact q_irt hG hE dX12_lights_51 ⟨hS0, (q_r.mono rl_m1 (by decide)), (fun t e => by cases e.symm.trans q_1f; exact ⟨q_1v, q_1f, (by have o0 := p4.2.2; have o1 := c7; have o2 := g_3.1; have o3 := g_3.2; have o4 := p14.2.2; have o5 := c17; have o6 := g_8.1; have o7 := g_8.2; have o8 := p23.2.2; have o9 := c26; have o10 := p34.2.2; have o11 := c37; have o12 := q_1r; have o13 := r_44; have o14 := r_45; have o15 := r_46; have o16 := r_47; have o17 := r_48; have o18 := r_49; have l19 := tl_m1; have l20 := tl_0; have l21 := tl_1; have l22 := tl_9; have l23 := tl_11; have l24 := tl_20; have l25 := tl_30; unfold q_r at o12 o13 o14 o15 o16 o17 o18; omega)⟩)⟩
  intro c37
  have g_50 := p34.2.2.mp (q_one p34.1 c37)
  have r_51 := q_rge (q_r_any x3) rl_11 g_50.1
  refine q_lv [0, 1, 2, 3] rfl ?_
  have r_52 := q_zeq c26
  have r_53 := q_neL (c := 1) p34.1 c37 (by decide)
  have r_54 := q_rle r_51 rl_30 g_50.2
  exact J40 (by have o0 := p23.2.2; have o1 := c26; have o2 := p34.2.2; have o3 := c37; have o4 := g_50.1; have o5 := g_50.2; have o6 := r_52; have o7 := r_53; have o8 := r_54; have l9 := tl_0; have l10 := tl_1; have l11 := tl_11; have l12 := tl_30; unfold q_r at o6 o7 o8; omega)
theorem dX12_believedAt_0 : decode cX12_believedAt 0 = .ok (.aload_n 0, 1) := by decide +kernel
theorem dX12_believedAt_1 : decode cX12_believedAt 1 = .ok (.getfield 7, 3) := by decide +kernel
theorem dX12_believedAt_4 : decode cX12_believedAt 4 = .ok (.sipush 192, 3) := by decide +kernel
theorem dX12_believedAt_7 : decode cX12_believedAt 7 = .ok (.iload_n 1, 1) := by decide +kernel
theorem dX12_believedAt_8 : decode cX12_believedAt 8 = .ok (.iadd, 1) := by decide +kernel
theorem dX12_believedAt_9 : decode cX12_believedAt 9 = .ok (.iaload, 1) := by decide +kernel
theorem dX12_believedAt_10 : decode cX12_believedAt 10 = .ok (.bipush (-100), 2) := by decide +kernel
theorem dX12_believedAt_12 : decode cX12_believedAt 12 = .ok (.if_icmp .eq 11, 3) := by decide +kernel
theorem dX12_believedAt_15 : decode cX12_believedAt 15 = .ok (.iload_n 3, 1) := by decide +kernel
theorem dX12_believedAt_16 : decode cX12_believedAt 16 = .ok (.ifCond .ne 7, 3) := by decide +kernel
theorem dX12_believedAt_19 : decode cX12_believedAt 19 = .ok (.iconst 1, 1) := by decide +kernel
theorem dX12_believedAt_20 : decode cX12_believedAt 20 = .ok (.goto 4, 3) := by decide +kernel
theorem dX12_believedAt_23 : decode cX12_believedAt 23 = .ok (.iconst 0, 1) := by decide +kernel
theorem dX12_believedAt_24 : decode cX12_believedAt 24 = .ok (.istore 4, 2) := by decide +kernel
theorem dX12_believedAt_26 : decode cX12_believedAt 26 = .ok (.iload 4, 2) := by decide +kernel
theorem dX12_believedAt_28 : decode cX12_believedAt 28 = .ok (.ifCond .eq 14, 3) := by decide +kernel
theorem dX12_believedAt_31 : decode cX12_believedAt 31 = .ok (.aload_n 0, 1) := by decide +kernel
theorem dX12_believedAt_32 : decode cX12_believedAt 32 = .ok (.iload_n 1, 1) := by decide +kernel
theorem dX12_believedAt_33 : decode cX12_believedAt 33 = .ok (.bipush 111, 2) := by decide +kernel
theorem dX12_believedAt_35 : decode cX12_believedAt 35 = .ok (.iload_n 2, 1) := by decide +kernel
theorem dX12_believedAt_36 : decode cX12_believedAt 36 = .ok (.invokevirtual 398, 3) := by decide +kernel
theorem dX12_believedAt_39 : decode cX12_believedAt 39 = .ok (.goto 4, 3) := by decide +kernel
theorem dX12_believedAt_42 : decode cX12_believedAt 42 = .ok (.iconst 0, 1) := by decide +kernel
theorem dX12_believedAt_43 : decode cX12_believedAt 43 = .ok (.istore 5, 2) := by decide +kernel
theorem dX12_believedAt_45 : decode cX12_believedAt 45 = .ok (.aload_n 0, 1) := by decide +kernel
theorem dX12_believedAt_46 : decode cX12_believedAt 46 = .ok (.iload_n 1, 1) := by decide +kernel
theorem dX12_believedAt_47 : decode cX12_believedAt 47 = .ok (.invokevirtual 116, 3) := by decide +kernel
theorem dX12_believedAt_50 : decode cX12_believedAt 50 = .ok (.ifCond .eq 14, 3) := by decide +kernel
theorem dX12_believedAt_53 : decode cX12_believedAt 53 = .ok (.aload_n 0, 1) := by decide +kernel
theorem dX12_believedAt_54 : decode cX12_believedAt 54 = .ok (.iload_n 1, 1) := by decide +kernel
theorem dX12_believedAt_55 : decode cX12_believedAt 55 = .ok (.bipush 108, 2) := by decide +kernel
theorem dX12_believedAt_57 : decode cX12_believedAt 57 = .ok (.iload_n 2, 1) := by decide +kernel
theorem dX12_believedAt_58 : decode cX12_believedAt 58 = .ok (.invokevirtual 398, 3) := by decide +kernel
theorem dX12_believedAt_61 : decode cX12_believedAt 61 = .ok (.goto 4, 3) := by decide +kernel
theorem dX12_believedAt_64 : decode cX12_believedAt 64 = .ok (.iconst 0, 1) := by decide +kernel
theorem dX12_believedAt_65 : decode cX12_believedAt 65 = .ok (.istore 6, 2) := by decide +kernel
theorem dX12_believedAt_67 : decode cX12_believedAt 67 = .ok (.aload_n 0, 1) := by decide +kernel
theorem dX12_believedAt_68 : decode cX12_believedAt 68 = .ok (.iload_n 1, 1) := by decide +kernel
theorem dX12_believedAt_69 : decode cX12_believedAt 69 = .ok (.invokevirtual 116, 3) := by decide +kernel
theorem dX12_believedAt_72 : decode cX12_believedAt 72 = .ok (.ifCond .eq 22, 3) := by decide +kernel
theorem dX12_believedAt_75 : decode cX12_believedAt 75 = .ok (.aload_n 0, 1) := by decide +kernel
theorem dX12_believedAt_76 : decode cX12_believedAt 76 = .ok (.getfield 7, 3) := by decide +kernel
theorem dX12_believedAt_79 : decode cX12_believedAt 79 = .ok (.sipush 448, 3) := by decide +kernel
theorem dX12_believedAt_82 : decode cX12_believedAt 82 = .ok (.iload_n 1, 1) := by decide +kernel
theorem dX12_believedAt_83 : decode cX12_believedAt 83 = .ok (.iadd, 1) := by decide +kernel
theorem dX12_believedAt_84 : decode cX12_believedAt 84 = .ok (.iaload, 1) := by decide +kernel
theorem dX12_believedAt_85 : decode cX12_believedAt 85 = .ok (.bipush (-2), 2) := by decide +kernel
theorem dX12_believedAt_87 : decode cX12_believedAt 87 = .ok (.if_icmp .eq 7, 3) := by decide +kernel
theorem dX12_believedAt_90 : decode cX12_believedAt 90 = .ok (.iconst 1, 1) := by decide +kernel
theorem dX12_believedAt_91 : decode cX12_believedAt 91 = .ok (.goto 4, 3) := by decide +kernel
theorem dX12_believedAt_94 : decode cX12_believedAt 94 = .ok (.iconst 0, 1) := by decide +kernel
theorem dX12_believedAt_95 : decode cX12_believedAt 95 = .ok (.istore 7, 2) := by decide +kernel
theorem dX12_believedAt_97 : decode cX12_believedAt 97 = .ok (.iload 7, 2) := by decide +kernel
theorem dX12_believedAt_99 : decode cX12_believedAt 99 = .ok (.ifCond .eq 9, 3) := by decide +kernel
theorem dX12_believedAt_102 : decode cX12_believedAt 102 = .ok (.iload 6, 2) := by decide +kernel
theorem dX12_believedAt_104 : decode cX12_believedAt 104 = .ok (.iconst 2, 1) := by decide +kernel
theorem dX12_believedAt_105 : decode cX12_believedAt 105 = .ok (.idiv, 1) := by decide +kernel
theorem dX12_believedAt_106 : decode cX12_believedAt 106 = .ok (.istore 6, 2) := by decide +kernel
theorem dX12_believedAt_108 : decode cX12_believedAt 108 = .ok (.iload 5, 2) := by decide +kernel
theorem dX12_believedAt_110 : decode cX12_believedAt 110 = .ok (.ifCond .ne 10, 3) := by decide +kernel
theorem dX12_believedAt_113 : decode cX12_believedAt 113 = .ok (.iload 6, 2) := by decide +kernel
theorem dX12_believedAt_115 : decode cX12_believedAt 115 = .ok (.ifCond .ne 5, 3) := by decide +kernel
theorem dX12_believedAt_118 : decode cX12_believedAt 118 = .ok (.iconst 0, 1) := by decide +kernel
theorem dX12_believedAt_119 : decode cX12_believedAt 119 = .ok (.ireturn, 1) := by decide +kernel
theorem dX12_believedAt_120 : decode cX12_believedAt 120 = .ok (.iload 5, 2) := by decide +kernel
theorem dX12_believedAt_122 : decode cX12_believedAt 122 = .ok (.iload 6, 2) := by decide +kernel
theorem dX12_believedAt_124 : decode cX12_believedAt 124 = .ok (.if_icmp .ne 14, 3) := by decide +kernel
theorem dX12_believedAt_127 : decode cX12_believedAt 127 = .ok (.iload 7, 2) := by decide +kernel
theorem dX12_believedAt_129 : decode cX12_believedAt 129 = .ok (.ifCond .eq 7, 3) := by decide +kernel
theorem dX12_believedAt_132 : decode cX12_believedAt 132 = .ok (.iconst 1, 1) := by decide +kernel
theorem dX12_believedAt_133 : decode cX12_believedAt 133 = .ok (.goto 4, 3) := by decide +kernel
theorem dX12_believedAt_136 : decode cX12_believedAt 136 = .ok (.iconst 2, 1) := by decide +kernel
theorem dX12_believedAt_137 : decode cX12_believedAt 137 = .ok (.ireturn, 1) := by decide +kernel
theorem dX12_believedAt_138 : decode cX12_believedAt 138 = .ok (.iload 6, 2) := by decide +kernel
theorem dX12_believedAt_140 : decode cX12_believedAt 140 = .ok (.iload 5, 2) := by decide +kernel
theorem dX12_believedAt_142 : decode cX12_believedAt 142 = .ok (.if_icmp .le 7, 3) := by decide +kernel
theorem dX12_believedAt_145 : decode cX12_believedAt 145 = .ok (.iconst 2, 1) := by decide +kernel
theorem dX12_believedAt_146 : decode cX12_believedAt 146 = .ok (.goto 4, 3) := by decide +kernel
theorem dX12_believedAt_149 : decode cX12_believedAt 149 = .ok (.iconst 1, 1) := by decide +kernel
theorem dX12_believedAt_150 : decode cX12_believedAt 150 = .ok (.ireturn, 1) := by decide +kernel
def md_X12_believedAt : List (Nat × Nat) := [(162, 0), (163, 0)]
set_option maxRecDepth 100000 in
set_option maxHeartbeats 4000000 in
theorem c_X12_believedAt {l : Launch} {D : q_D} (τ : q_T) (σ : q_V) (a0 : Nat) (x1 : Int32) (x2 : Int32) (x3 : Int32) (hI : q_I τ σ) (tA0 : τ a0 = some (10, 1)) (rA1 : q_r x1 0 63) (rA2 : q_r x2 0 1) (rA3 : q_r x3 0 1) (hW : q_wf σ a0) : q_Ci l D yX12_believedAt cX12_believedAt 8 (some .int) 4 97 τ σ [.ref a0, .int x1, .int x2, .int x3] (fun r σ1 => q_S md_X12_believedAt τ σ σ1 ∧ (q_r r 0 2)) := by
  refine q_meti rfl (Nat.le_of_ble_eq_true rfl) (fun X hG hE => ?_)
  show q_O X 0 0 τ σ 0 [(0, .ref a0), (1, .int x1), (2, .int x2), (3, .int x3)] []
  have hS0 : q_S md_X12_believedAt τ σ σ := q_S.rf hI
  refine q_aload_n (pc := 0) hG dX12_believedAt_0 0 rfl ?_
  refine q_getR (pc := 1) (k2 := 100) (n2 := 549) hG fl_X12_7 dX12_believedAt_1 hI tA0 ff_10_0 (fun b1 f1 T1 => ?_)
  refine q_sipush (pc := 4) hG dX12_believedAt_4 ks_192 ?_
  refine q_iload_n (pc := 7) hG dX12_believedAt_7 1 rfl ?_
  refine q_iadd (pc := 8) hG dX12_believedAt_8 (fun v8 e8 => ?_)
  have r_1 := (q_addN (lo := 192) (hi := 255) e8 rl_192 rA1 (by decide)).2
  refine q_nald (pc := 9) hG dX12_believedAt_9 hI T1 (q_ix r_1 (by decide)) (fun v9 f9 => ?_)
  refine q_bipush (pc := 10) hG dX12_believedAt_10 kb_m100 ?_
  have J24 : ∀ (p24_s0 : Int32), (q_r p24_s0 0 1) → q_O X 0 0 τ σ 24 [(0, .ref a0), (1, .int x1), (2, .int x2)] [.int p24_s0] := by
    intro p24_s0 r24_s0
    refine q_istore (pc := 24) [(4, .int p24_s0), (0, .ref a0), (1, .int x1), (2, .int x2)] hG dX12_believedAt_24 (by decide) rfl ?_
    refine q_iload (pc := 26) hG dX12_believedAt_26 0 rfl ?_
    have J43 : ∀ (p43_s0 : Int32) (σ43 : q_V), (q_r p43_s0 0 99) → (q_S md_X12_believedAt τ σ σ43) → q_O X 0 0 τ σ43 43 [(0, .ref a0), (1, .int x1), (2, .int x2)] [.int p43_s0] := by
      intro p43_s0 σ43 r43_s0 hS43
      refine q_istore (pc := 43) [(5, .int p43_s0), (0, .ref a0), (1, .int x1), (2, .int x2)] hG dX12_believedAt_43 (by decide) rfl ?_
      refine q_aload_n (pc := 45) hG dX12_believedAt_45 1 rfl ?_
      refine q_iload_n (pc := 46) hG dX12_believedAt_46 2 rfl ?_
      refine q_pV (pc := 47) [.int x1] [] hG (c_X12_isPainted τ σ43 a0 x1 hS43.1 tA0 rA1) my_X12_isPainted mv_X12_isPainted w862 dX12_believedAt_47 tA0 (by decide) rfl rfl (Nat.le_of_ble_eq_true rfl) (by decide) (fun v47 p47 => ?_)
      have J65 : ∀ (p65_s0 : Int32) (σ65 : q_V), (q_r p65_s0 0 99) → (q_S md_X12_believedAt τ σ σ65) → q_O X 0 0 τ σ65 65 [(0, .ref a0), (1, .int x1), (5, .int p43_s0)] [.int p65_s0] := by
        intro p65_s0 σ65 r65_s0 hS65
        refine q_istore (pc := 65) [(6, .int p65_s0), (0, .ref a0), (1, .int x1), (5, .int p43_s0)] hG dX12_believedAt_65 (by decide) rfl ?_
        refine q_aload_n (pc := 67) hG dX12_believedAt_67 1 rfl ?_
        refine q_iload_n (pc := 68) hG dX12_believedAt_68 2 rfl ?_
        refine q_pV (pc := 69) [.int x1] [] hG (c_X12_isPainted τ σ65 a0 x1 hS65.1 tA0 rA1) my_X12_isPainted mv_X12_isPainted w862 dX12_believedAt_69 tA0 (by decide) rfl rfl (Nat.le_of_ble_eq_true rfl) (by decide) (fun v69 p69 => ?_)
        have J95 : ∀ (p95_s0 : Int32), (q_r p95_s0 0 1) → q_O X 0 0 τ σ65 95 [(5, .int p43_s0), (6, .int p65_s0)] [.int p95_s0] := by
          intro p95_s0 r95_s0
          refine q_istore (pc := 95) [(7, .int p95_s0), (5, .int p43_s0), (6, .int p65_s0)] hG dX12_believedAt_95 (by decide) rfl ?_
          refine q_iload (pc := 97) hG dX12_believedAt_97 0 rfl ?_
          have J108 : ∀ (p108_6 : Int32), (q_r p108_6 0 99) → q_O X 0 0 τ σ65 108 [(5, .int p43_s0), (6, .int p108_6), (7, .int p95_s0)] [] := by
            intro p108_6 r108_6
            refine q_iload (pc := 108) hG dX12_believedAt_108 0 rfl ?_
            have J120 : q_O X 0 0 τ σ65 120 [(5, .int p43_s0), (6, .int p108_6), (7, .int p95_s0)] [] := by
              refine q_iload (pc := 120) hG dX12_believedAt_120 0 rfl ?_
              refine q_iload (pc := 122) hG dX12_believedAt_122 1 rfl ?_
              refine q_icmp_ne (pc := 124) hG 138 dX12_believedAt_124 rfl ?_ ?_
              · intro c124
                refine q_iload (pc := 138) hG dX12_believedAt_138 1 rfl ?_
                refine q_iload (pc := 140) hG dX12_believedAt_140 0 rfl ?_
                refine q_icmp_le (pc := 142) hG 149 dX12_believedAt_142 rfl ?_ ?_
                · intro c142
                  refine q_iconst (pc := 149) hG dX12_believedAt_149 ki_1 ?_
                  exact q_irt hG hE dX12_believedAt_150 ⟨hS65, (q_r.mono rl_1 (by decide))⟩
                intro c142
                refine q_iconst (pc := 145) hG dX12_believedAt_145 ki_2 ?_
                refine q_goto (pc := 146) 150 hG dX12_believedAt_146 rfl ?_
                exact q_irt hG hE dX12_believedAt_150 ⟨hS65, (q_r.mono rl_2 (by decide))⟩
              intro c124
              refine q_iload (pc := 127) hG dX12_believedAt_127 2 rfl ?_
              refine q_if_eq (pc := 129) hG 136 dX12_believedAt_129 rfl ?_ ?_
              · intro c129
                refine q_iconst (pc := 136) hG dX12_believedAt_136 ki_2 ?_
                exact q_irt hG hE dX12_believedAt_137 ⟨hS65, (q_r.mono rl_2 (by decide))⟩
              intro c129
              refine q_iconst (pc := 132) hG dX12_believedAt_132 ki_1 ?_
              refine q_goto (pc := 133) 137 hG dX12_believedAt_133 rfl ?_
              exact q_irt hG hE dX12_believedAt_137 ⟨hS65, (q_r.mono rl_1 (by decide))⟩
            refine q_if_ne (pc := 110) hG 120 dX12_believedAt_110 rfl ?_ ?_
            · intro c110
              refine q_lv [0, 1, 2] rfl ?_
              exact J120 
            intro c110
            refine q_iload (pc := 113) hG dX12_believedAt_113 1 rfl ?_
            refine q_if_ne (pc := 115) hG 120 dX12_believedAt_115 rfl ?_ ?_
            · intro c115
              refine q_lv [0, 1, 2] rfl ?_
              exact J120 
            intro c115
            refine q_iconst (pc := 118) hG dX12_believedAt_118 ki_0 ?_
            exact q_irt hG hE dX12_believedAt_119 ⟨hS65, (q_r.mono rl_0 (by decide))⟩
          refine q_if_eq (pc := 99) hG 108 dX12_believedAt_99 rfl ?_ ?_
          · intro c99
            refine q_lv [1, 2, 0] rfl ?_
            exact J108 p65_s0 r65_s0
          intro c99
          refine q_iload (pc := 102) hG dX12_believedAt_102 2 rfl ?_
          refine q_iconst (pc := 104) hG dX12_believedAt_104 ki_2 ?_
          refine q_idiv (pc := 105) hG dX12_believedAt_105 (q_nzr rl_2 (by decide)) (fun v105 e105 => ?_)
          refine q_istore (pc := 106) [(6, .int v105), (7, .int p95_s0), (5, .int p43_s0)] hG dX12_believedAt_106 (by decide) rfl ?_
          refine q_lv [2, 0, 1] rfl ?_
          have r_2 := (⟨by have q1 := q_divP e105 r65_s0 rl_2 (by decide); have q2 := r65_s0; have q3 := tl_2; rw [q3] at q1; unfold q_r at q2; omega, by have q1 := q_divP e105 r65_s0 rl_2 (by decide); have q2 := r65_s0; have q3 := tl_2; rw [q3] at q1; unfold q_r at q2; omega⟩ : q_r v105 0 49)
          exact J108 v105 (q_r.mono r_2 (by decide))
        have J94 : q_O X 0 0 τ σ65 94 [(5, .int p43_s0), (6, .int p65_s0)] [] := by
          refine q_iconst (pc := 94) hG dX12_believedAt_94 ki_0 ?_
          refine q_lv [0, 1] rfl ?_
          exact J95 0 (q_r.mono rl_0 (by decide))
        refine q_if_eq (pc := 72) hG 94 dX12_believedAt_72 rfl ?_ ?_
        · intro c72
          refine q_lv [3, 0] rfl ?_
          exact J94 
        intro c72
        refine q_aload_n (pc := 75) hG dX12_believedAt_75 1 rfl ?_
        refine q_getV (pc := 76) (v := .ref b1) hG fl_X12_7 dX12_believedAt_76 tA0 (hS65.same tA0 rfl f1) ?_
        refine q_sipush (pc := 79) hG dX12_believedAt_79 ks_448 ?_
        refine q_iload_n (pc := 82) hG dX12_believedAt_82 2 rfl ?_
        refine q_iadd (pc := 83) hG dX12_believedAt_83 (fun v83 e83 => ?_)
        have r_3 := (q_addN (lo := 448) (hi := 511) e83 rl_448 rA1 (by decide)).2
        refine q_nald (pc := 84) hG dX12_believedAt_84 hS65.1 T1 (q_ix r_3 (by decide)) (fun v84 f84 => ?_)
        have f_4 := (hS65.2 _ _ _ _ T1 rfl).symm.trans f84
        refine q_bipush (pc := 85) hG dX12_believedAt_85 kb_m2 ?_
        refine q_icmp_eq (pc := 87) hG 94 dX12_believedAt_87 rfl ?_ ?_
        · intro c87
          refine q_lv [3, 0] rfl ?_
          exact J94 
        intro c87
        refine q_iconst (pc := 90) hG dX12_believedAt_90 ki_1 ?_
        refine q_goto (pc := 91) 95 hG dX12_believedAt_91 rfl ?_
        refine q_lv [3, 0] rfl ?_
        exact J95 1 (q_r.mono rl_1 (by decide))
      refine q_if_eq (pc := 50) hG 64 dX12_believedAt_50 rfl ?_ ?_
      · intro c50
        refine q_iconst (pc := 64) hG dX12_believedAt_64 ki_0 ?_
        refine q_lv [1, 2, 0] rfl ?_
        exact J65 0 σ43 (q_r.mono rl_0 (by decide)) hS43
      intro c50
      refine q_aload_n (pc := 53) hG dX12_believedAt_53 1 rfl ?_
      refine q_iload_n (pc := 54) hG dX12_believedAt_54 2 rfl ?_
      refine q_bipush (pc := 55) hG dX12_believedAt_55 kb_108 ?_
      refine q_iload_n (pc := 57) hG dX12_believedAt_57 3 rfl ?_
      refine q_cVi (pc := 58) [.int x1, .int 108, .int x2] [] hG (c_X12_plain τ σ43 a0 x1 108 x2 hS43.1 tA0 rA1 rA2 (q_wf.keep hI hS43.2 tA0 rfl hW)) my_X12_plain mv_X12_plain w1166 dX12_believedAt_58 tA0 (by decide) rfl rfl (Nat.le_of_ble_eq_true rfl) (by decide) (fun v58 s58 p58 => ?_)
      have w58 := hS43.trans p58.1 rfl
      refine q_goto (pc := 61) 65 hG dX12_believedAt_61 rfl ?_
      refine q_lv [1, 2, 0] rfl ?_
      exact J65 v58 s58 p58.2 w58
    refine q_if_eq (pc := 28) hG 42 dX12_believedAt_28 rfl ?_ ?_
    · intro c28
      refine q_iconst (pc := 42) hG dX12_believedAt_42 ki_0 ?_
      refine q_lv [1, 2, 3] rfl ?_
      exact J43 0 σ (q_r.mono rl_0 (by decide)) hS0
    intro c28
    refine q_aload_n (pc := 31) hG dX12_believedAt_31 1 rfl ?_
    refine q_iload_n (pc := 32) hG dX12_believedAt_32 2 rfl ?_
    refine q_bipush (pc := 33) hG dX12_believedAt_33 kb_111 ?_
    refine q_iload_n (pc := 35) hG dX12_believedAt_35 3 rfl ?_
    refine q_cVi (pc := 36) [.int x1, .int 111, .int x2] [] hG (c_X12_plain τ σ a0 x1 111 x2 hI tA0 rA1 rA2 hW) my_X12_plain mv_X12_plain w1166 dX12_believedAt_36 tA0 (by decide) rfl rfl (Nat.le_of_ble_eq_true rfl) (by decide) (fun v36 s36 p36 => ?_)
    have w36 := hS0.trans p36.1 rfl
    refine q_goto (pc := 39) 43 hG dX12_believedAt_39 rfl ?_
    refine q_lv [1, 2, 3] rfl ?_
    exact J43 v36 s36 p36.2 w36
  have J23 : q_O X 0 0 τ σ 23 [(0, .ref a0), (1, .int x1), (2, .int x2)] [] := by
    refine q_iconst (pc := 23) hG dX12_believedAt_23 ki_0 ?_
    refine q_lv [0, 1, 2] rfl ?_
    exact J24 0 (q_r.mono rl_0 (by decide))
  refine q_icmp_eq (pc := 12) hG 23 dX12_believedAt_12 rfl ?_ ?_
  · intro c12
    refine q_lv [0, 1, 2] rfl ?_
    exact J23 
  intro c12
  refine q_iload_n (pc := 15) hG dX12_believedAt_15 3 rfl ?_
  refine q_if_ne (pc := 16) hG 23 dX12_believedAt_16 rfl ?_ ?_
  · intro c16
    refine q_lv [0, 1, 2] rfl ?_
    exact J23 
  intro c16
  refine q_iconst (pc := 19) hG dX12_believedAt_19 ki_1 ?_
  refine q_goto (pc := 20) 24 hG dX12_believedAt_20 rfl ?_
  refine q_lv [0, 1, 2] rfl ?_
  exact J24 1 (q_r.mono rl_1 (by decide))
theorem dX12_believed_0 : decode cX12_believed 0 = .ok (.aload_n 0, 1) := by decide +kernel
theorem dX12_believed_1 : decode cX12_believed 1 = .ok (.iload_n 1, 1) := by decide +kernel
theorem dX12_believed_2 : decode cX12_believed 2 = .ok (.invokevirtual 110, 3) := by decide +kernel
theorem dX12_believed_5 : decode cX12_believed 5 = .ok (.ifCond .eq 13, 3) := by decide +kernel
theorem dX12_believed_8 : decode cX12_believed 8 = .ok (.aload_n 0, 1) := by decide +kernel
theorem dX12_believed_9 : decode cX12_believed 9 = .ok (.iload_n 1, 1) := by decide +kernel
theorem dX12_believed_10 : decode cX12_believed 10 = .ok (.iload_n 2, 1) := by decide +kernel
theorem dX12_believed_11 : decode cX12_believed 11 = .ok (.iconst 0, 1) := by decide +kernel
theorem dX12_believed_12 : decode cX12_believed 12 = .ok (.invokevirtual 402, 3) := by decide +kernel
theorem dX12_believed_15 : decode cX12_believed 15 = .ok (.goto 4, 3) := by decide +kernel
theorem dX12_believed_18 : decode cX12_believed 18 = .ok (.iconst (-1), 1) := by decide +kernel
theorem dX12_believed_19 : decode cX12_believed 19 = .ok (.ireturn, 1) := by decide +kernel
def md_X12_believed : List (Nat × Nat) := [(162, 0), (163, 0)]
set_option maxRecDepth 100000 in
set_option maxHeartbeats 4000000 in
theorem c_X12_believed {l : Launch} {D : q_D} (τ : q_T) (σ : q_V) (a0 : Nat) (x1 : Int32) (x2 : Int32) (hI : q_I τ σ) (tA0 : τ a0 = some (10, 1)) (rA2 : q_r x2 0 1) (hW : q_wf σ a0) : q_Ci l D yX12_believed cX12_believed 3 (some .int) 5 124 τ σ [.ref a0, .int x1, .int x2] (fun r σ1 => q_S md_X12_believed τ σ σ1 ∧ (q_r r (-1) 2)) := by
  refine q_meti rfl (Nat.le_of_ble_eq_true rfl) (fun X hG hE => ?_)
  show q_O X 0 0 τ σ 0 [(0, .ref a0), (1, .int x1), (2, .int x2)] []
  have hS0 : q_S md_X12_believed τ σ σ := q_S.rf hI
  refine q_aload_n (pc := 0) hG dX12_believed_0 0 rfl ?_
  refine q_iload_n (pc := 1) hG dX12_believed_1 1 rfl ?_
  refine q_pV (pc := 2) [.int x1] [] hG (c_X12_isDot τ σ a0 x1 hI tA0) my_X12_isDot mv_X12_isDot w836 dX12_believed_2 tA0 (by decide) rfl rfl (Nat.le_of_ble_eq_true rfl) (by decide) (fun v2 p2 => ?_)
  obtain ⟨q_1b, q_1f, q_1T⟩ := (hI a0 10 1 tA0 0 (by decide)).ref (k := 100) (n := 549) rfl
  obtain ⟨q_2v, q_2f, q_2r⟩ := (hI q_1b 100 549 q_1T 512 (by decide)).int (lo := 8) (hi := 64) rfl
  have q_2g : σ q_1b (512 : Int32).toInt.toNat = .int q_2v := q_2f
  refine q_if_eq (pc := 5) hG 18 dX12_believed_5 rfl ?_ ?_
  · intro c5
    refine q_iconst (pc := 18) hG dX12_believed_18 ki_m1 ?_
    exact q_irt hG hE dX12_believed_19 ⟨hS0, (q_r.mono rl_m1 (by decide))⟩
  intro c5
  have g_3 := p2.2.2.1 (q_one p2.1 c5)
  have r_4 := q_rge (q_r_any x1) rl_0 (show (0 : Int32).toInt ≤ _ from g_3.1)
  have r_5 := q_rle r_4 rl_63 (show _ ≤ (63 : Int32).toInt from g_3.2.1)
  refine q_aload_n (pc := 8) hG dX12_believed_8 0 rfl ?_
  refine q_iload_n (pc := 9) hG dX12_believed_9 1 rfl ?_
  refine q_iload_n (pc := 10) hG dX12_believed_10 2 rfl ?_
  refine q_iconst (pc := 11) hG dX12_believed_11 ki_0 ?_
  refine q_cVi (pc := 12) [.int x1, .int x2, .int 0] [] hG (c_X12_believedAt τ σ a0 x1 x2 0 hI tA0 r_5 rA2 (q_r.mono rl_0 (by decide)) hW) my_X12_believedAt mv_X12_believedAt w1163 dX12_believed_12 tA0 (by decide) rfl rfl (Nat.le_of_ble_eq_true rfl) (by decide) (fun v12 s12 p12 => ?_)
  have w12 := hS0.trans p12.1 rfl
  refine q_goto (pc := 15) 19 hG dX12_believed_15 rfl ?_
  exact q_irt hG hE dX12_believed_19 ⟨w12, (q_r.mono p12.2 (by decide))⟩
theorem dX12_isLost_0 : decode cX12_isLost 0 = .ok (.aload_n 0, 1) := by decide +kernel
theorem dX12_isLost_1 : decode cX12_isLost 1 = .ok (.iload_n 1, 1) := by decide +kernel
theorem dX12_isLost_2 : decode cX12_isLost 2 = .ok (.iload_n 3, 1) := by decide +kernel
theorem dX12_isLost_3 : decode cX12_isLost 3 = .ok (.iconst 0, 1) := by decide +kernel
theorem dX12_isLost_4 : decode cX12_isLost 4 = .ok (.invokevirtual 402, 3) := by decide +kernel
theorem dX12_isLost_7 : decode cX12_isLost 7 = .ok (.iconst 1, 1) := by decide +kernel
theorem dX12_isLost_8 : decode cX12_isLost 8 = .ok (.if_icmp .ne 54, 3) := by decide +kernel
theorem dX12_isLost_11 : decode cX12_isLost 11 = .ok (.aload_n 0, 1) := by decide +kernel
theorem dX12_isLost_12 : decode cX12_isLost 12 = .ok (.getfield 7, 3) := by decide +kernel
theorem dX12_isLost_15 : decode cX12_isLost 15 = .ok (.sipush 192, 3) := by decide +kernel
theorem dX12_isLost_18 : decode cX12_isLost 18 = .ok (.iload_n 1, 1) := by decide +kernel
theorem dX12_isLost_19 : decode cX12_isLost 19 = .ok (.iadd, 1) := by decide +kernel
theorem dX12_isLost_20 : decode cX12_isLost 20 = .ok (.iaload, 1) := by decide +kernel
theorem dX12_isLost_21 : decode cX12_isLost 21 = .ok (.aload_n 0, 1) := by decide +kernel
theorem dX12_isLost_22 : decode cX12_isLost 22 = .ok (.iload_n 1, 1) := by decide +kernel
theorem dX12_isLost_23 : decode cX12_isLost 23 = .ok (.invokevirtual 116, 3) := by decide +kernel
theorem dX12_isLost_26 : decode cX12_isLost 26 = .ok (.ifCond .eq 16, 3) := by decide +kernel
theorem dX12_isLost_29 : decode cX12_isLost 29 = .ok (.aload_n 0, 1) := by decide +kernel
theorem dX12_isLost_30 : decode cX12_isLost 30 = .ok (.getfield 7, 3) := by decide +kernel
theorem dX12_isLost_33 : decode cX12_isLost 33 = .ok (.sipush 256, 3) := by decide +kernel
theorem dX12_isLost_36 : decode cX12_isLost 36 = .ok (.iload_n 1, 1) := by decide +kernel
theorem dX12_isLost_37 : decode cX12_isLost 37 = .ok (.iadd, 1) := by decide +kernel
theorem dX12_isLost_38 : decode cX12_isLost 38 = .ok (.iaload, 1) := by decide +kernel
theorem dX12_isLost_39 : decode cX12_isLost 39 = .ok (.goto 11, 3) := by decide +kernel
theorem dX12_isLost_42 : decode cX12_isLost 42 = .ok (.aload_n 0, 1) := by decide +kernel
theorem dX12_isLost_43 : decode cX12_isLost 43 = .ok (.getfield 7, 3) := by decide +kernel
theorem dX12_isLost_46 : decode cX12_isLost 46 = .ok (.iconst 0, 1) := by decide +kernel
theorem dX12_isLost_47 : decode cX12_isLost 47 = .ok (.iload_n 1, 1) := by decide +kernel
theorem dX12_isLost_48 : decode cX12_isLost 48 = .ok (.iadd, 1) := by decide +kernel
theorem dX12_isLost_49 : decode cX12_isLost 49 = .ok (.iaload, 1) := by decide +kernel
theorem dX12_isLost_50 : decode cX12_isLost 50 = .ok (.isub, 1) := by decide +kernel
theorem dX12_isLost_51 : decode cX12_isLost 51 = .ok (.invokestatic 218, 3) := by decide +kernel
theorem dX12_isLost_54 : decode cX12_isLost 54 = .ok (.iload_n 2, 1) := by decide +kernel
theorem dX12_isLost_55 : decode cX12_isLost 55 = .ok (.if_icmp .le 7, 3) := by decide +kernel
theorem dX12_isLost_58 : decode cX12_isLost 58 = .ok (.iconst 1, 1) := by decide +kernel
theorem dX12_isLost_59 : decode cX12_isLost 59 = .ok (.goto 4, 3) := by decide +kernel
theorem dX12_isLost_62 : decode cX12_isLost 62 = .ok (.iconst 0, 1) := by decide +kernel
theorem dX12_isLost_63 : decode cX12_isLost 63 = .ok (.ireturn, 1) := by decide +kernel
def md_X12_isLost : List (Nat × Nat) := [(162, 0), (163, 0)]
set_option maxRecDepth 100000 in
set_option maxHeartbeats 4000000 in
theorem c_X12_isLost {l : Launch} {D : q_D} (τ : q_T) (σ : q_V) (a0 : Nat) (x1 : Int32) (x2 : Int32) (x3 : Int32) (hI : q_I τ σ) (tA0 : τ a0 = some (10, 1)) (rA1 : q_r x1 0 63) (rA3 : q_r x3 0 1) (hW : q_wf σ a0) : q_Ci l D yX12_isLost cX12_isLost 4 (some .boolean) 5 124 τ σ [.ref a0, .int x1, .int x2, .int x3] (fun r σ1 => q_S md_X12_isLost τ σ σ1 ∧ (q_r r 0 1)) := by
  refine q_meti rfl (Nat.le_of_ble_eq_true rfl) (fun X hG hE => ?_)
  show q_O X 0 0 τ σ 0 [(0, .ref a0), (1, .int x1), (2, .int x2), (3, .int x3)] []
  have hS0 : q_S md_X12_isLost τ σ σ := q_S.rf hI
  refine q_aload_n (pc := 0) hG dX12_isLost_0 0 rfl ?_
  refine q_iload_n (pc := 1) hG dX12_isLost_1 1 rfl ?_
  refine q_iload_n (pc := 2) hG dX12_isLost_2 3 rfl ?_
  refine q_iconst (pc := 3) hG dX12_isLost_3 ki_0 ?_
  refine q_cVi (pc := 4) [.int x1, .int x3, .int 0] [] hG (c_X12_believedAt τ σ a0 x1 x3 0 hI tA0 rA1 rA3 (q_r.mono rl_0 (by decide)) hW) my_X12_believedAt mv_X12_believedAt w1163 dX12_isLost_4 tA0 (by decide) rfl rfl (Nat.le_of_ble_eq_true rfl) (by decide) (fun v4 s4 p4 => ?_)
  have w4 := hS0.trans p4.1 rfl
  refine q_iconst (pc := 7) hG dX12_isLost_7 ki_1 ?_
  refine q_icmp_ne (pc := 8) hG 62 dX12_isLost_8 rfl ?_ ?_
  · intro c8
    refine q_iconst (pc := 62) hG dX12_isLost_62 ki_0 ?_
    exact q_zrt hG hE dX12_isLost_63 (q_r.mono rl_0 (by decide)) ⟨w4, (q_r.mono rl_0 (by decide))⟩
  intro c8
  refine q_aload_n (pc := 11) hG dX12_isLost_11 0 rfl ?_
  refine q_getR (pc := 12) (k2 := 100) (n2 := 549) hG fl_X12_7 dX12_isLost_12 w4.1 tA0 ff_10_0 (fun b12 f12 T12 => ?_)
  have f_1 := (w4.2 _ _ _ _ tA0 rfl).symm.trans f12
  refine q_sipush (pc := 15) hG dX12_isLost_15 ks_192 ?_
  refine q_iload_n (pc := 18) hG dX12_isLost_18 1 rfl ?_
  refine q_iadd (pc := 19) hG dX12_isLost_19 (fun v19 e19 => ?_)
  have r_2 := (q_addN (lo := 192) (hi := 255) e19 rl_192 rA1 (by decide)).2
  refine q_nald (pc := 20) hG dX12_isLost_20 w4.1 T12 (q_ix r_2 (by decide)) (fun v20 f20 => ?_)
  have f_3 := (w4.2 _ _ _ _ T12 rfl).symm.trans f20
  refine q_aload_n (pc := 21) hG dX12_isLost_21 0 rfl ?_
  refine q_iload_n (pc := 22) hG dX12_isLost_22 1 rfl ?_
  refine q_pV (pc := 23) [.int x1] [.int v20] hG (c_X12_isPainted τ s4 a0 x1 w4.1 tA0 rA1) my_X12_isPainted mv_X12_isPainted w862 dX12_isLost_23 tA0 (by decide) rfl rfl (Nat.le_of_ble_eq_true rfl) (by decide) (fun v23 p23 => ?_)
  have J50 : ∀ (p50_s0 : Int32), q_O X 0 0 τ s4 50 [(2, .int x2)] [.int p50_s0, .int v20] := by
    intro p50_s0
    refine q_isub (pc := 50) hG dX12_isLost_50 (fun v50 e50 => ?_)
    refine q_pS (pc := 51) [.int v50] [] hG (c_X12_size τ s4 v50 w4.1) my_X12_size w895 w894 dX12_isLost_51 rfl rfl (Nat.le_of_ble_eq_true rfl) (by decide) (fun v51 p51 => ?_)
    refine q_iload_n (pc := 54) hG dX12_isLost_54 0 rfl ?_
    refine q_icmp_le (pc := 55) hG 62 dX12_isLost_55 rfl ?_ ?_
    · intro c55
      refine q_iconst (pc := 62) hG dX12_isLost_62 ki_0 ?_
      exact q_zrt hG hE dX12_isLost_63 (q_r.mono rl_0 (by decide)) ⟨w4, (q_r.mono rl_0 (by decide))⟩
    intro c55
    refine q_iconst (pc := 58) hG dX12_isLost_58 ki_1 ?_
    refine q_goto (pc := 59) 63 hG dX12_isLost_59 rfl ?_
    exact q_zrt hG hE dX12_isLost_63 (q_r.mono rl_1 (by decide)) ⟨w4, (q_r.mono rl_1 (by decide))⟩
  refine q_if_eq (pc := 26) hG 42 dX12_isLost_26 rfl ?_ ?_
  · intro c26
    refine q_aload_n (pc := 42) hG dX12_isLost_42 0 rfl ?_
    refine q_getV (pc := 43) (v := .ref b12) hG fl_X12_7 dX12_isLost_43 tA0 (w4.same tA0 rfl f_1) ?_
    refine q_iconst (pc := 46) hG dX12_isLost_46 ki_0 ?_
    refine q_iload_n (pc := 47) hG dX12_isLost_47 1 rfl ?_
    refine q_iadd (pc := 48) hG dX12_isLost_48 (fun v48 e48 => ?_)
    have r_4 := (q_addN (lo := 0) (hi := 63) e48 rl_0 rA1 (by decide)).2
    refine q_naldc (pc := 49) (a1 := -99) (a2 := 99) hG dX12_isLost_49 w4.1 T12 (q_ix r_4 (by decide)) (q_nkerb r_4 (by decide)) (fun v49 f49 g49 => ?_)
    have f_5 := (w4.2 _ _ _ _ T12 rfl).symm.trans f49
    refine q_lv [2] rfl ?_
    exact J50 v49
  intro c26
  refine q_aload_n (pc := 29) hG dX12_isLost_29 0 rfl ?_
  refine q_getV (pc := 30) (v := .ref b12) hG fl_X12_7 dX12_isLost_30 tA0 (w4.same tA0 rfl f_1) ?_
  refine q_sipush (pc := 33) hG dX12_isLost_33 ks_256 ?_
  refine q_iload_n (pc := 36) hG dX12_isLost_36 1 rfl ?_
  refine q_iadd (pc := 37) hG dX12_isLost_37 (fun v37 e37 => ?_)
  have r_6 := (q_addN (lo := 256) (hi := 319) e37 rl_256 rA1 (by decide)).2
  refine q_nald (pc := 38) hG dX12_isLost_38 w4.1 T12 (q_ix r_6 (by decide)) (fun v38 f38 => ?_)
  have f_7 := (w4.2 _ _ _ _ T12 rfl).symm.trans f38
  refine q_goto (pc := 39) 50 hG dX12_isLost_39 rfl ?_
  refine q_lv [2] rfl ?_
  exact J50 v38
theorem dX12_lostBut_0 : decode cX12_lostBut 0 = .ok (.iconst 0, 1) := by decide +kernel
theorem dX12_lostBut_1 : decode cX12_lostBut 1 = .ok (.istore 5, 2) := by decide +kernel
theorem dX12_lostBut_3 : decode cX12_lostBut 3 = .ok (.iconst 0, 1) := by decide +kernel
theorem dX12_lostBut_4 : decode cX12_lostBut 4 = .ok (.istore 6, 2) := by decide +kernel
theorem dX12_lostBut_6 : decode cX12_lostBut 6 = .ok (.iload 6, 2) := by decide +kernel
theorem dX12_lostBut_8 : decode cX12_lostBut 8 = .ok (.aload_n 0, 1) := by decide +kernel
theorem dX12_lostBut_9 : decode cX12_lostBut 9 = .ok (.getfield 7, 3) := by decide +kernel
theorem dX12_lostBut_12 : decode cX12_lostBut 12 = .ok (.sipush 512, 3) := by decide +kernel
theorem dX12_lostBut_15 : decode cX12_lostBut 15 = .ok (.iaload, 1) := by decide +kernel
theorem dX12_lostBut_16 : decode cX12_lostBut 16 = .ok (.if_icmp .ge 41, 3) := by decide +kernel
theorem dX12_lostBut_19 : decode cX12_lostBut 19 = .ok (.iload 5, 2) := by decide +kernel
theorem dX12_lostBut_21 : decode cX12_lostBut 21 = .ok (.iload 6, 2) := by decide +kernel
theorem dX12_lostBut_23 : decode cX12_lostBut 23 = .ok (.iload_n 1, 1) := by decide +kernel
theorem dX12_lostBut_24 : decode cX12_lostBut 24 = .ok (.iload_n 2, 1) := by decide +kernel
theorem dX12_lostBut_25 : decode cX12_lostBut 25 = .ok (.invokestatic 102, 3) := by decide +kernel
theorem dX12_lostBut_28 : decode cX12_lostBut 28 = .ok (.ifCond .ne 19, 3) := by decide +kernel
theorem dX12_lostBut_31 : decode cX12_lostBut 31 = .ok (.aload_n 0, 1) := by decide +kernel
theorem dX12_lostBut_32 : decode cX12_lostBut 32 = .ok (.iload 6, 2) := by decide +kernel
theorem dX12_lostBut_34 : decode cX12_lostBut 34 = .ok (.iload_n 3, 1) := by decide +kernel
theorem dX12_lostBut_35 : decode cX12_lostBut 35 = .ok (.iload 4, 2) := by decide +kernel
theorem dX12_lostBut_37 : decode cX12_lostBut 37 = .ok (.invokevirtual 406, 3) := by decide +kernel
theorem dX12_lostBut_40 : decode cX12_lostBut 40 = .ok (.ifCond .eq 7, 3) := by decide +kernel
theorem dX12_lostBut_43 : decode cX12_lostBut 43 = .ok (.iconst 1, 1) := by decide +kernel
theorem dX12_lostBut_44 : decode cX12_lostBut 44 = .ok (.goto 4, 3) := by decide +kernel
theorem dX12_lostBut_47 : decode cX12_lostBut 47 = .ok (.iconst 0, 1) := by decide +kernel
theorem dX12_lostBut_48 : decode cX12_lostBut 48 = .ok (.iadd, 1) := by decide +kernel
theorem dX12_lostBut_49 : decode cX12_lostBut 49 = .ok (.istore 5, 2) := by decide +kernel
theorem dX12_lostBut_51 : decode cX12_lostBut 51 = .ok (.iinc 6 1, 3) := by decide +kernel
theorem dX12_lostBut_54 : decode cX12_lostBut 54 = .ok (.goto (-48), 3) := by decide +kernel
theorem dX12_lostBut_57 : decode cX12_lostBut 57 = .ok (.iload 5, 2) := by decide +kernel
theorem dX12_lostBut_59 : decode cX12_lostBut 59 = .ok (.ireturn, 1) := by decide +kernel
def md_X12_lostBut : List (Nat × Nat) := [(162, 0), (163, 0)]
set_option maxRecDepth 100000 in
set_option maxHeartbeats 4000000 in
theorem c_X12_lostBut {l : Launch} {D : q_D} (τ : q_T) (σ : q_V) (a0 : Nat) (x1 : Int32) (x2 : Int32) (x3 : Int32) (x4 : Int32) (hI : q_I τ σ) (tA0 : τ a0 = some (10, 1)) (rA4 : q_r x4 0 1) (hW : q_wf σ a0) : q_Ci l D yX12_lostBut cX12_lostBut 7 (some .int) 6 147 τ σ [.ref a0, .int x1, .int x2, .int x3, .int x4] (fun r σ1 => q_S md_X12_lostBut τ σ σ1 ∧ (q_r r (-2147483648) 2147483647)) := by
  refine q_meti rfl (Nat.le_of_ble_eq_true rfl) (fun X hG hE => ?_)
  show q_O X 0 0 τ σ 0 [(0, .ref a0), (1, .int x1), (2, .int x2), (3, .int x3), (4, .int x4)] []
  have hS0 : q_S md_X12_lostBut τ σ σ := q_S.rf hI
  refine q_iconst (pc := 0) hG dX12_lostBut_0 ki_0 ?_
  refine q_istore (pc := 1) [(5, .int 0), (0, .ref a0), (1, .int x1), (2, .int x2), (3, .int x3), (4, .int x4)] hG dX12_lostBut_1 (by decide) rfl ?_
  refine q_iconst (pc := 3) hG dX12_lostBut_3 ki_0 ?_
  refine q_istore (pc := 4) [(6, .int 0), (5, .int 0), (0, .ref a0), (1, .int x1), (2, .int x2), (3, .int x3), (4, .int x4)] hG dX12_lostBut_4 (by decide) rfl ?_
  have J6 : ∀ (n6 : Nat) (p6_5 : Int32) (p6_6 : Int32) (σ6 : q_V), (q_r p6_6 0 64) → (q_S md_X12_lostBut τ σ σ6) → ((64 - p6_6.toInt).toNat < n6) → q_O X 0 0 τ σ6 6 [(0, .ref a0), (1, .int x1), (2, .int x2), (3, .int x3), (4, .int x4), (5, .int p6_5), (6, .int p6_6)] [] := by
    intro n6
    induction n6 with
    | zero => intro p6_5 p6_6 σ6 r6_6 hS6 hm6; exact absurd hm6 (Nat.not_lt_zero _)
    | succ n6 ih6 =>
      intro p6_5 p6_6 σ6 r6_6 hS6 hm6
      refine q_iload (pc := 6) hG dX12_lostBut_6 6 rfl ?_
      refine q_aload_n (pc := 8) hG dX12_lostBut_8 0 rfl ?_
      refine q_getR (pc := 9) (k2 := 100) (n2 := 549) hG fl_X12_7 dX12_lostBut_9 hS6.1 tA0 ff_10_0 (fun b9 f9 T9 => ?_)
      have f_1 := (hS6.2 _ _ _ _ tA0 rfl).symm.trans f9
      refine q_sipush (pc := 12) hG dX12_lostBut_12 ks_512 ?_
      refine q_naldc (pc := 15) (a1 := 8) (a2 := 64) hG dX12_lostBut_15 hS6.1 T9 (q_ix rl_512 (by decide)) rfl (fun v15 f15 g15 => ?_)
      have f_2 := (hS6.2 _ _ _ _ T9 rfl).symm.trans f15
      refine q_icmp_ge (pc := 16) hG 57 dX12_lostBut_16 rfl ?_ ?_
      · intro c16
        refine q_iload (pc := 57) hG dX12_lostBut_57 5 rfl ?_
        exact q_irt hG hE dX12_lostBut_59 ⟨hS6, (q_r_any p6_5)⟩
      intro c16
      refine q_iload (pc := 19) hG dX12_lostBut_19 5 rfl ?_
      refine q_iload (pc := 21) hG dX12_lostBut_21 6 rfl ?_
      refine q_iload_n (pc := 23) hG dX12_lostBut_23 1 rfl ?_
      refine q_iload_n (pc := 24) hG dX12_lostBut_24 2 rfl ?_
      refine q_pS (pc := 25) [.int p6_6, .int x1, .int x2] [.int p6_5] hG (c_X12_in τ σ6 p6_6 x1 x2 hS6.1) my_X12_in w778 w777 dX12_lostBut_25 rfl rfl (Nat.le_of_ble_eq_true rfl) (by decide) (fun v25 p25 => ?_)
      have J48 : ∀ (p48_s0 : Int32) (σ48 : q_V), (q_r p48_s0 0 1) → (q_S md_X12_lostBut τ σ σ48) → q_O X 0 0 τ σ48 48 [(0, .ref a0), (1, .int x1), (2, .int x2), (3, .int x3), (4, .int x4), (6, .int p6_6)] [.int p48_s0, .int p6_5] := by
        intro p48_s0 σ48 r48_s0 hS48
        refine q_iadd (pc := 48) hG dX12_lostBut_48 (fun v48 e48 => ?_)
        refine q_istore (pc := 49) [(5, .int v48), (0, .ref a0), (1, .int x1), (2, .int x2), (3, .int x3), (4, .int x4), (6, .int p6_6)] hG dX12_lostBut_49 (by decide) rfl ?_
        obtain ⟨v51, e51⟩ : ∃ z : Int32, z = p6_6 + Int32.ofInt 1 := ⟨_, rfl⟩
        have r_3 := q_rlt r6_6 g15 c16 63 (by decide)
        have h51 := q_incN (lo := 1) (hi := 64) r_3 (by decide) (by decide) e51
        refine q_iinc (pc := 51) [(6, .int v51), (5, .int v48), (0, .ref a0), (1, .int x1), (2, .int x2), (3, .int x3), (4, .int x4)] hG dX12_lostBut_51 6 rfl e51 (by decide) rfl ?_
        refine q_goto (pc := 54) 6 hG dX12_lostBut_54 rfl ?_
        refine q_lv [2, 3, 4, 5, 6, 1, 0] rfl ?_
        exact ih6 v48 v51 σ48 (q_r.mono h51.2 (by decide)) hS48 (q_measU hm6 (by have o0 := c16; have o1 := h51.1; have o2 := r_3; have o3 := g15; have o4 := h51.2; unfold q_r at o2 o3 o4; omega) (h51.2).2)
      have J47 : ∀ (σ47 : q_V), (q_S md_X12_lostBut τ σ σ47) → q_O X 0 0 τ σ47 47 [(0, .ref a0), (1, .int x1), (2, .int x2), (3, .int x3), (4, .int x4), (6, .int p6_6)] [.int p6_5] := by
        intro σ47 hS47
        refine q_iconst (pc := 47) hG dX12_lostBut_47 ki_0 ?_
        refine q_lv [0, 1, 2, 3, 4, 5] rfl ?_
        exact J48 0 σ47 (q_r.mono rl_0 (by decide)) hS47
      refine q_if_ne (pc := 28) hG 47 dX12_lostBut_28 rfl ?_ ?_
      · intro c28
        have g_4 := p25.2.2.mp (q_one p25.1 c28)
        have r_5 := q_rlt r6_6 g15 c16 63 (by decide)
        refine q_lv [0, 1, 2, 3, 4, 6] rfl ?_
        exact J47 σ6 hS6
      intro c28
      refine q_aload_n (pc := 31) hG dX12_lostBut_31 0 rfl ?_
      refine q_iload (pc := 32) hG dX12_lostBut_32 6 rfl ?_
      refine q_iload_n (pc := 34) hG dX12_lostBut_34 3 rfl ?_
      refine q_iload (pc := 35) hG dX12_lostBut_35 4 rfl ?_
      have r_6 := q_rlt r6_6 g15 c16 63 (by decide)
      refine q_cVi (pc := 37) [.int p6_6, .int x3, .int x4] [.int p6_5] hG (c_X12_isLost τ σ6 a0 p6_6 x3 x4 hS6.1 tA0 r_6 rA4 (q_wf.keep hI hS6.2 tA0 rfl hW)) my_X12_isLost mv_X12_isLost w1176 dX12_lostBut_37 tA0 (by decide) rfl rfl (Nat.le_of_ble_eq_true rfl) (by decide) (fun v37 s37 p37 => ?_)
      have w37 := hS6.trans p37.1 rfl
      refine q_if_eq (pc := 40) hG 47 dX12_lostBut_40 rfl ?_ ?_
      · intro c40
        refine q_lv [0, 1, 2, 3, 4, 6] rfl ?_
        exact J47 s37 w37
      intro c40
      refine q_iconst (pc := 43) hG dX12_lostBut_43 ki_1 ?_
      refine q_goto (pc := 44) 48 hG dX12_lostBut_44 rfl ?_
      refine q_lv [0, 1, 2, 3, 4, 6] rfl ?_
      exact J48 1 s37 (q_r.mono rl_1 (by decide)) w37
  refine q_lv [2, 3, 4, 5, 6, 1, 0] rfl ?_
  exact J6 _ 0 0 σ (q_r.mono rl_0 (by decide)) hS0 (Nat.lt_succ_self _)
theorem dX12_lost_0 : decode cX12_lost 0 = .ok (.iload_n 1, 1) := by decide +kernel
theorem dX12_lost_1 : decode cX12_lost 1 = .ok (.iconst 0, 1) := by decide +kernel
theorem dX12_lost_2 : decode cX12_lost 2 = .ok (.bipush 99, 2) := by decide +kernel
theorem dX12_lost_4 : decode cX12_lost 4 = .ok (.invokestatic 102, 3) := by decide +kernel
theorem dX12_lost_7 : decode cX12_lost 7 = .ok (.ifCond .eq 14, 3) := by decide +kernel
theorem dX12_lost_10 : decode cX12_lost 10 = .ok (.aload_n 0, 1) := by decide +kernel
theorem dX12_lost_11 : decode cX12_lost 11 = .ok (.iconst 0, 1) := by decide +kernel
theorem dX12_lost_12 : decode cX12_lost 12 = .ok (.iconst (-1), 1) := by decide +kernel
theorem dX12_lost_13 : decode cX12_lost 13 = .ok (.iload_n 1, 1) := by decide +kernel
theorem dX12_lost_14 : decode cX12_lost 14 = .ok (.iload_n 2, 1) := by decide +kernel
theorem dX12_lost_15 : decode cX12_lost 15 = .ok (.invokevirtual 410, 3) := by decide +kernel
theorem dX12_lost_18 : decode cX12_lost 18 = .ok (.goto 4, 3) := by decide +kernel
theorem dX12_lost_21 : decode cX12_lost 21 = .ok (.iconst (-1), 1) := by decide +kernel
theorem dX12_lost_22 : decode cX12_lost 22 = .ok (.ireturn, 1) := by decide +kernel
def md_X12_lost : List (Nat × Nat) := [(162, 0), (163, 0)]
set_option maxRecDepth 100000 in
set_option maxHeartbeats 4000000 in
theorem c_X12_lost {l : Launch} {D : q_D} (τ : q_T) (σ : q_V) (a0 : Nat) (x1 : Int32) (x2 : Int32) (hI : q_I τ σ) (tA0 : τ a0 = some (10, 1)) (rA2 : q_r x2 0 1) (hW : q_wf σ a0) : q_Ci l D yX12_lost cX12_lost 3 (some .int) 7 173 τ σ [.ref a0, .int x1, .int x2] (fun r σ1 => q_S md_X12_lost τ σ σ1 ∧ (q_r r (-2147483648) 2147483647)) := by
  refine q_meti rfl (Nat.le_of_ble_eq_true rfl) (fun X hG hE => ?_)
  show q_O X 0 0 τ σ 0 [(0, .ref a0), (1, .int x1), (2, .int x2)] []
  have hS0 : q_S md_X12_lost τ σ σ := q_S.rf hI
  refine q_iload_n (pc := 0) hG dX12_lost_0 1 rfl ?_
  refine q_iconst (pc := 1) hG dX12_lost_1 ki_0 ?_
  refine q_bipush (pc := 2) hG dX12_lost_2 kb_99 ?_
  refine q_pS (pc := 4) [.int x1, .int 0, .int 99] [] hG (c_X12_in τ σ x1 0 99 hI) my_X12_in w778 w777 dX12_lost_4 rfl rfl (Nat.le_of_ble_eq_true rfl) (by decide) (fun v4 p4 => ?_)
  refine q_if_eq (pc := 7) hG 21 dX12_lost_7 rfl ?_ ?_
  · intro c7
    refine q_iconst (pc := 21) hG dX12_lost_21 ki_m1 ?_
    exact q_irt hG hE dX12_lost_22 ⟨hS0, (q_r.mono rl_m1 (by decide))⟩
  intro c7
  have g_1 := p4.2.2.mp (q_one p4.1 c7)
  have r_2 := q_rge (q_r_any x1) rl_0 g_1.1
  refine q_aload_n (pc := 10) hG dX12_lost_10 0 rfl ?_
  refine q_iconst (pc := 11) hG dX12_lost_11 ki_0 ?_
  refine q_iconst (pc := 12) hG dX12_lost_12 ki_m1 ?_
  refine q_iload_n (pc := 13) hG dX12_lost_13 1 rfl ?_
  refine q_iload_n (pc := 14) hG dX12_lost_14 2 rfl ?_
  refine q_cVi (pc := 15) [.int 0, .int (-1), .int x1, .int x2] [] hG (c_X12_lostBut τ σ a0 0 (-1) x1 x2 hI tA0 rA2 hW) my_X12_lostBut mv_X12_lostBut w1173 dX12_lost_15 tA0 (by decide) rfl rfl (Nat.le_of_ble_eq_true rfl) (by decide) (fun v15 s15 p15 => ?_)
  have w15 := hS0.trans p15.1 rfl
  refine q_goto (pc := 18) 22 hG dX12_lost_18 rfl ?_
  exact q_irt hG hE dX12_lost_22 ⟨w15, p15.2⟩
theorem dX12_burnFirst_0 : decode cX12_burnFirst 0 = .ok (.iload_n 1, 1) := by decide +kernel
theorem dX12_burnFirst_1 : decode cX12_burnFirst 1 = .ok (.iconst 1, 1) := by decide +kernel
theorem dX12_burnFirst_2 : decode cX12_burnFirst 2 = .ok (.aload_n 0, 1) := by decide +kernel
theorem dX12_burnFirst_3 : decode cX12_burnFirst 3 = .ok (.getfield 7, 3) := by decide +kernel
theorem dX12_burnFirst_6 : decode cX12_burnFirst 6 = .ok (.sipush 512, 3) := by decide +kernel
theorem dX12_burnFirst_9 : decode cX12_burnFirst 9 = .ok (.iaload, 1) := by decide +kernel
theorem dX12_burnFirst_10 : decode cX12_burnFirst 10 = .ok (.invokestatic 102, 3) := by decide +kernel
theorem dX12_burnFirst_13 : decode cX12_burnFirst 13 = .ok (.ifCond .eq 23, 3) := by decide +kernel
theorem dX12_burnFirst_16 : decode cX12_burnFirst 16 = .ok (.iload_n 2, 1) := by decide +kernel
theorem dX12_burnFirst_17 : decode cX12_burnFirst 17 = .ok (.iconst 0, 1) := by decide +kernel
theorem dX12_burnFirst_18 : decode cX12_burnFirst 18 = .ok (.bipush 99, 2) := by decide +kernel
theorem dX12_burnFirst_20 : decode cX12_burnFirst 20 = .ok (.invokestatic 102, 3) := by decide +kernel
theorem dX12_burnFirst_23 : decode cX12_burnFirst 23 = .ok (.ifCond .eq 13, 3) := by decide +kernel
theorem dX12_burnFirst_26 : decode cX12_burnFirst 26 = .ok (.iload 4, 2) := by decide +kernel
theorem dX12_burnFirst_28 : decode cX12_burnFirst 28 = .ok (.iconst 0, 1) := by decide +kernel
theorem dX12_burnFirst_29 : decode cX12_burnFirst 29 = .ok (.iconst 1, 1) := by decide +kernel
theorem dX12_burnFirst_30 : decode cX12_burnFirst 30 = .ok (.invokestatic 102, 3) := by decide +kernel
theorem dX12_burnFirst_33 : decode cX12_burnFirst 33 = .ok (.ifCond .ne 5, 3) := by decide +kernel
theorem dX12_burnFirst_36 : decode cX12_burnFirst 36 = .ok (.iconst (-1), 1) := by decide +kernel
theorem dX12_burnFirst_37 : decode cX12_burnFirst 37 = .ok (.ireturn, 1) := by decide +kernel
theorem dX12_burnFirst_38 : decode cX12_burnFirst 38 = .ok (.iconst 0, 1) := by decide +kernel
theorem dX12_burnFirst_39 : decode cX12_burnFirst 39 = .ok (.istore 5, 2) := by decide +kernel
theorem dX12_burnFirst_41 : decode cX12_burnFirst 41 = .ok (.ldc_w 318, 3) := by decide +kernel
theorem dX12_burnFirst_44 : decode cX12_burnFirst 44 = .ok (.istore 6, 2) := by decide +kernel
theorem dX12_burnFirst_46 : decode cX12_burnFirst 46 = .ok (.iconst 0, 1) := by decide +kernel
theorem dX12_burnFirst_47 : decode cX12_burnFirst 47 = .ok (.istore 7, 2) := by decide +kernel
theorem dX12_burnFirst_49 : decode cX12_burnFirst 49 = .ok (.iload 7, 2) := by decide +kernel
theorem dX12_burnFirst_51 : decode cX12_burnFirst 51 = .ok (.iload_n 1, 1) := by decide +kernel
theorem dX12_burnFirst_52 : decode cX12_burnFirst 52 = .ok (.iadd, 1) := by decide +kernel
theorem dX12_burnFirst_53 : decode cX12_burnFirst 53 = .ok (.aload_n 0, 1) := by decide +kernel
theorem dX12_burnFirst_54 : decode cX12_burnFirst 54 = .ok (.getfield 7, 3) := by decide +kernel
theorem dX12_burnFirst_57 : decode cX12_burnFirst 57 = .ok (.sipush 512, 3) := by decide +kernel
theorem dX12_burnFirst_60 : decode cX12_burnFirst 60 = .ok (.iaload, 1) := by decide +kernel
theorem dX12_burnFirst_61 : decode cX12_burnFirst 61 = .ok (.if_icmp .gt 43, 3) := by decide +kernel
theorem dX12_burnFirst_64 : decode cX12_burnFirst 64 = .ok (.aload_n 0, 1) := by decide +kernel
theorem dX12_burnFirst_65 : decode cX12_burnFirst 65 = .ok (.iload 7, 2) := by decide +kernel
theorem dX12_burnFirst_67 : decode cX12_burnFirst 67 = .ok (.iload 7, 2) := by decide +kernel
theorem dX12_burnFirst_69 : decode cX12_burnFirst 69 = .ok (.iload_n 1, 1) := by decide +kernel
theorem dX12_burnFirst_70 : decode cX12_burnFirst 70 = .ok (.iadd, 1) := by decide +kernel
theorem dX12_burnFirst_71 : decode cX12_burnFirst 71 = .ok (.iconst 1, 1) := by decide +kernel
theorem dX12_burnFirst_72 : decode cX12_burnFirst 72 = .ok (.isub, 1) := by decide +kernel
theorem dX12_burnFirst_73 : decode cX12_burnFirst 73 = .ok (.iload_n 2, 1) := by decide +kernel
theorem dX12_burnFirst_74 : decode cX12_burnFirst 74 = .ok (.iload_n 3, 1) := by decide +kernel
theorem dX12_burnFirst_75 : decode cX12_burnFirst 75 = .ok (.invokevirtual 410, 3) := by decide +kernel
theorem dX12_burnFirst_78 : decode cX12_burnFirst 78 = .ok (.istore 8, 2) := by decide +kernel
theorem dX12_burnFirst_80 : decode cX12_burnFirst 80 = .ok (.iload 8, 2) := by decide +kernel
theorem dX12_burnFirst_82 : decode cX12_burnFirst 82 = .ok (.iload 6, 2) := by decide +kernel
theorem dX12_burnFirst_84 : decode cX12_burnFirst 84 = .ok (.if_icmp .lt 6, 3) := by decide +kernel
theorem dX12_burnFirst_87 : decode cX12_burnFirst 87 = .ok (.goto 11, 3) := by decide +kernel
theorem dX12_burnFirst_90 : decode cX12_burnFirst 90 = .ok (.iload 8, 2) := by decide +kernel
theorem dX12_burnFirst_92 : decode cX12_burnFirst 92 = .ok (.istore 6, 2) := by decide +kernel
theorem dX12_burnFirst_94 : decode cX12_burnFirst 94 = .ok (.iload 7, 2) := by decide +kernel
theorem dX12_burnFirst_96 : decode cX12_burnFirst 96 = .ok (.istore 5, 2) := by decide +kernel
theorem dX12_burnFirst_98 : decode cX12_burnFirst 98 = .ok (.iinc 7 1, 3) := by decide +kernel
theorem dX12_burnFirst_101 : decode cX12_burnFirst 101 = .ok (.goto (-52), 3) := by decide +kernel
theorem dX12_burnFirst_104 : decode cX12_burnFirst 104 = .ok (.iload 4, 2) := by decide +kernel
theorem dX12_burnFirst_106 : decode cX12_burnFirst 106 = .ok (.ifCond .ne 8, 3) := by decide +kernel
theorem dX12_burnFirst_109 : decode cX12_burnFirst 109 = .ok (.iload 5, 2) := by decide +kernel
theorem dX12_burnFirst_111 : decode cX12_burnFirst 111 = .ok (.goto 5, 3) := by decide +kernel
theorem dX12_burnFirst_114 : decode cX12_burnFirst 114 = .ok (.iload 6, 2) := by decide +kernel
theorem dX12_burnFirst_116 : decode cX12_burnFirst 116 = .ok (.ireturn, 1) := by decide +kernel
def md_X12_burnFirst : List (Nat × Nat) := [(162, 0), (163, 0)]
set_option maxRecDepth 100000 in
set_option maxHeartbeats 4000000 in
theorem c_X12_burnFirst {l : Launch} {D : q_D} (τ : q_T) (σ : q_V) (a0 : Nat) (x1 : Int32) (x2 : Int32) (x3 : Int32) (x4 : Int32) (hI : q_I τ σ) (tA0 : τ a0 = some (10, 1)) (rA3 : q_r x3 0 1) (hW : q_wf σ a0) : q_Ci l D yX12_burnFirst cX12_burnFirst 9 (some .int) 7 173 τ σ [.ref a0, .int x1, .int x2, .int x3, .int x4] (fun r σ1 => q_S md_X12_burnFirst τ σ σ1 ∧ (q_r r (-2147483648) 1000000000)) := by
  refine q_meti rfl (Nat.le_of_ble_eq_true rfl) (fun X hG hE => ?_)
  show q_O X 0 0 τ σ 0 [(0, .ref a0), (1, .int x1), (2, .int x2), (3, .int x3), (4, .int x4)] []
  have hS0 : q_S md_X12_burnFirst τ σ σ := q_S.rf hI
  refine q_iload_n (pc := 0) hG dX12_burnFirst_0 1 rfl ?_
  refine q_iconst (pc := 1) hG dX12_burnFirst_1 ki_1 ?_
  refine q_aload_n (pc := 2) hG dX12_burnFirst_2 0 rfl ?_
  refine q_getR (pc := 3) (k2 := 100) (n2 := 549) hG fl_X12_7 dX12_burnFirst_3 hI tA0 ff_10_0 (fun b3 f3 T3 => ?_)
  refine q_sipush (pc := 6) hG dX12_burnFirst_6 ks_512 ?_
  refine q_naldc (pc := 9) (a1 := 8) (a2 := 64) hG dX12_burnFirst_9 hI T3 (q_ix rl_512 (by decide)) rfl (fun v9 f9 g9 => ?_)
  refine q_pS (pc := 10) [.int x1, .int 1, .int v9] [] hG (c_X12_in τ σ x1 1 v9 hI) my_X12_in w778 w777 dX12_burnFirst_10 rfl rfl (Nat.le_of_ble_eq_true rfl) (by decide) (fun v10 p10 => ?_)
  refine q_if_eq (pc := 13) hG 36 dX12_burnFirst_13 rfl ?_ ?_
  · intro c13
    refine q_iconst (pc := 36) hG dX12_burnFirst_36 ki_m1 ?_
    exact q_irt hG hE dX12_burnFirst_37 ⟨hS0, (q_r.mono rl_m1 (by decide))⟩
  intro c13
  have g_1 := p10.2.2.mp (q_one p10.1 c13)
  have r_2 := q_rge (q_r_any x1) rl_1 g_1.1
  refine q_iload_n (pc := 16) hG dX12_burnFirst_16 2 rfl ?_
  refine q_iconst (pc := 17) hG dX12_burnFirst_17 ki_0 ?_
  refine q_bipush (pc := 18) hG dX12_burnFirst_18 kb_99 ?_
  refine q_pS (pc := 20) [.int x2, .int 0, .int 99] [] hG (c_X12_in τ σ x2 0 99 hI) my_X12_in w778 w777 dX12_burnFirst_20 rfl rfl (Nat.le_of_ble_eq_true rfl) (by decide) (fun v20 p20 => ?_)
  refine q_if_eq (pc := 23) hG 36 dX12_burnFirst_23 rfl ?_ ?_
  · intro c23
    refine q_iconst (pc := 36) hG dX12_burnFirst_36 ki_m1 ?_
    exact q_irt hG hE dX12_burnFirst_37 ⟨hS0, (q_r.mono rl_m1 (by decide))⟩
  intro c23
  have g_3 := p20.2.2.mp (q_one p20.1 c23)
  have r_4 := q_rge (q_r_any x2) rl_0 g_3.1
  refine q_iload (pc := 26) hG dX12_burnFirst_26 4 rfl ?_
  refine q_iconst (pc := 28) hG dX12_burnFirst_28 ki_0 ?_
  refine q_iconst (pc := 29) hG dX12_burnFirst_29 ki_1 ?_
  refine q_pS (pc := 30) [.int x4, .int 0, .int 1] [] hG (c_X12_in τ σ x4 0 1 hI) my_X12_in w778 w777 dX12_burnFirst_30 rfl rfl (Nat.le_of_ble_eq_true rfl) (by decide) (fun v30 p30 => ?_)
  refine q_if_ne (pc := 33) hG 38 dX12_burnFirst_33 rfl ?_ ?_
  · intro c33
    have g_5 := p30.2.2.mp (q_one p30.1 c33)
    have r_6 := q_rge (q_r_any x4) rl_0 g_5.1
    refine q_iconst (pc := 38) hG dX12_burnFirst_38 ki_0 ?_
    refine q_istore (pc := 39) [(5, .int 0), (0, .ref a0), (1, .int x1), (2, .int x2), (3, .int x3), (4, .int x4)] hG dX12_burnFirst_39 (by decide) rfl ?_
    refine q_ldcw (pc := 41) hG w1047 dX12_burnFirst_41 ?_
    refine q_istore (pc := 44) [(6, .int 1000000000), (5, .int 0), (0, .ref a0), (1, .int x1), (2, .int x2), (3, .int x3), (4, .int x4)] hG dX12_burnFirst_44 (by decide) rfl ?_
    refine q_iconst (pc := 46) hG dX12_burnFirst_46 ki_0 ?_
    refine q_istore (pc := 47) [(7, .int 0), (6, .int 1000000000), (5, .int 0), (0, .ref a0), (1, .int x1), (2, .int x2), (3, .int x3), (4, .int x4)] hG dX12_burnFirst_47 (by decide) rfl ?_
    have J49 : ∀ (n49 : Nat) (p49_5 : Int32) (p49_6 : Int32) (p49_7 : Int32) (σ49 : q_V), (q_r p49_5 0 64) → (q_r p49_6 (-2147483648) 1000000000) → (q_r p49_7 0 64) → (q_S md_X12_burnFirst τ σ σ49) → ((64 - p49_7.toInt).toNat < n49) → q_O X 0 0 τ σ49 49 [(0, .ref a0), (1, .int x1), (2, .int x2), (3, .int x3), (4, .int x4), (5, .int p49_5), (6, .int p49_6), (7, .int p49_7)] [] := by
      intro n49
      induction n49 with
      | zero => intro p49_5 p49_6 p49_7 σ49 r49_5 r49_6 r49_7 hS49 hm49; exact absurd hm49 (Nat.not_lt_zero _)
      | succ n49 ih49 =>
        intro p49_5 p49_6 p49_7 σ49 r49_5 r49_6 r49_7 hS49 hm49
        refine q_iload (pc := 49) hG dX12_burnFirst_49 7 rfl ?_
        refine q_iload_n (pc := 51) hG dX12_burnFirst_51 1 rfl ?_
        refine q_iadd (pc := 52) hG dX12_burnFirst_52 (fun v52 e52 => ?_)
        have r_7 := q_rle r_2 g9 g_1.2
        refine q_aload_n (pc := 53) hG dX12_burnFirst_53 0 rfl ?_
        refine q_getV (pc := 54) (v := .ref b3) hG fl_X12_7 dX12_burnFirst_54 tA0 (hS49.same tA0 rfl f3) ?_
        refine q_sipush (pc := 57) hG dX12_burnFirst_57 ks_512 ?_
        refine q_ialdV (pc := 60) (v := .int v9) hG dX12_burnFirst_60 T3 (by decide) (by decide) (q_ix rl_512 (by decide)) (hS49.same T3 rfl f9) ?_
        refine q_icmp_gt (pc := 61) hG 104 dX12_burnFirst_61 rfl ?_ ?_
        · intro c61
          have r_8 := (q_addN (lo := 1) (hi := 128) e52 r49_7 r_7 (by decide)).2
          refine q_iload (pc := 104) hG dX12_burnFirst_104 4 rfl ?_
          refine q_if_ne (pc := 106) hG 114 dX12_burnFirst_106 rfl ?_ ?_
          · intro c106
            have r_9 := q_rle r_6 rl_1 g_5.2
            refine q_iload (pc := 114) hG dX12_burnFirst_114 6 rfl ?_
            exact q_irt hG hE dX12_burnFirst_116 ⟨hS49, r49_6⟩
          intro c106
          have r_10 := q_rle r_6 rl_1 g_5.2
          refine q_iload (pc := 109) hG dX12_burnFirst_109 5 rfl ?_
          refine q_goto (pc := 111) 116 hG dX12_burnFirst_111 rfl ?_
          exact q_irt hG hE dX12_burnFirst_116 ⟨hS49, (q_r.mono r49_5 (by decide))⟩
        intro c61
        have r_11 := (q_addN (lo := 1) (hi := 128) e52 r49_7 r_7 (by decide)).2
        refine q_aload_n (pc := 64) hG dX12_burnFirst_64 0 rfl ?_
        refine q_iload (pc := 65) hG dX12_burnFirst_65 7 rfl ?_
        refine q_iload (pc := 67) hG dX12_burnFirst_67 7 rfl ?_
        refine q_iload_n (pc := 69) hG dX12_burnFirst_69 1 rfl ?_
        refine q_iadd (pc := 70) hG dX12_burnFirst_70 (fun v70 e70 => ?_)
        rw [e70.trans e52.symm]
        refine q_iconst (pc := 71) hG dX12_burnFirst_71 ki_1 ?_
        refine q_isub (pc := 72) hG dX12_burnFirst_72 (fun v72 e72 => ?_)
        have r_12 := q_rle r_11 g9 c61
        refine q_iload_n (pc := 73) hG dX12_burnFirst_73 2 rfl ?_
        refine q_iload_n (pc := 74) hG dX12_burnFirst_74 3 rfl ?_
        refine q_cVi (pc := 75) [.int p49_7, .int v72, .int x2, .int x3] [] hG (c_X12_lostBut τ σ49 a0 p49_7 v72 x2 x3 hS49.1 tA0 rA3 (q_wf.keep hI hS49.2 tA0 rfl hW)) my_X12_lostBut mv_X12_lostBut w1173 dX12_burnFirst_75 tA0 (by decide) rfl rfl (Nat.le_of_ble_eq_true rfl) (by decide) (fun v75 s75 p75 => ?_)
        have w75 := hS49.trans p75.1 rfl
        refine q_istore (pc := 78) [(8, .int v75), (0, .ref a0), (1, .int x1), (2, .int x2), (3, .int x3), (4, .int x4), (5, .int p49_5), (6, .int p49_6), (7, .int p49_7)] hG dX12_burnFirst_78 (by decide) rfl ?_
        refine q_iload (pc := 80) hG dX12_burnFirst_80 0 rfl ?_
        refine q_iload (pc := 82) hG dX12_burnFirst_82 7 rfl ?_
        have J98 : ∀ (p98_5 : Int32) (p98_6 : Int32), (q_r p98_5 0 64) → (q_r p98_6 (-2147483648) 1000000000) → q_O X 0 0 τ s75 98 [(0, .ref a0), (1, .int x1), (2, .int x2), (3, .int x3), (4, .int x4), (5, .int p98_5), (6, .int p98_6), (7, .int p49_7)] [] := by
          intro p98_5 p98_6 r98_5 r98_6
          obtain ⟨v98, e98⟩ : ∃ z : Int32, z = p49_7 + Int32.ofInt 1 := ⟨_, rfl⟩
          have h98 := q_incN (lo := 1) (hi := 65) r49_7 (by decide) (by decide) e98
          refine q_iinc (pc := 98) [(7, .int v98), (0, .ref a0), (1, .int x1), (2, .int x2), (3, .int x3), (4, .int x4), (5, .int p98_5), (6, .int p98_6)] hG dX12_burnFirst_98 7 rfl e98 (by decide) rfl ?_
          refine q_goto (pc := 101) 49 hG dX12_burnFirst_101 rfl ?_
          refine q_lv [1, 2, 3, 4, 5, 6, 7, 0] rfl ?_
          have r_13 := (q_subN (lo := 0) (hi := 63) e72 r_12 rl_1 (by decide)).2
          exact ih49 p98_5 p98_6 v98 s75 r98_5 r98_6 (show q_r v98 0 64 from ⟨(by have o0 := h98.1; have o1 := (q_addN (lo := 1) (hi := 128) e52 r49_7 r_7 (by decide)).1; have o2 := c61; have o3 := (q_subN (lo := 0) (hi := 63) e72 r_12 rl_1 (by decide)).1; have o4 := g_1.1; have o5 := g_1.2; have o6 := r49_7; have o7 := r_12; have o8 := r_13; have o9 := g9; have o10 := h98.2; have o11 := r_7; have l12 := tl_1; unfold q_r at o6 o7 o8 o9 o10 o11; omega), (by have o0 := h98.1; have o1 := (q_addN (lo := 1) (hi := 128) e52 r49_7 r_7 (by decide)).1; have o2 := c61; have o3 := (q_subN (lo := 0) (hi := 63) e72 r_12 rl_1 (by decide)).1; have o4 := g_1.1; have o5 := g_1.2; have o6 := r49_7; have o7 := r_12; have o8 := r_13; have o9 := g9; have o10 := h98.2; have o11 := r_7; have l12 := tl_1; unfold q_r at o6 o7 o8 o9 o10 o11; omega)⟩) w75 (q_measU hm49 (by have o0 := (q_addN (lo := 1) (hi := 128) e52 r49_7 r_7 (by decide)).1; have o1 := c61; have o2 := (q_subN (lo := 0) (hi := 63) e72 r_12 rl_1 (by decide)).1; have o3 := h98.1; have o4 := g_1.1; have o5 := g_1.2; have o6 := r49_7; have o7 := r_12; have o8 := r_13; have o9 := g9; have o10 := h98.2; have o11 := r_7; have l12 := tl_1; unfold q_r at o6 o7 o8 o9 o10 o11; omega) (by have o0 := h98.1; have o1 := (q_addN (lo := 1) (hi := 128) e52 r49_7 r_7 (by decide)).1; have o2 := c61; have o3 := (q_subN (lo := 0) (hi := 63) e72 r_12 rl_1 (by decide)).1; have o4 := g_1.1; have o5 := g_1.2; have o6 := r49_7; have o7 := r_12; have o8 := r_13; have o9 := g9; have o10 := h98.2; have o11 := r_7; have l12 := tl_1; unfold q_r at o6 o7 o8 o9 o10 o11; omega))
        refine q_icmp_lt (pc := 84) hG 90 dX12_burnFirst_84 rfl ?_ ?_
        · intro c84
          refine q_iload (pc := 90) hG dX12_burnFirst_90 0 rfl ?_
          refine q_istore (pc := 92) [(6, .int v75), (8, .int v75), (0, .ref a0), (1, .int x1), (2, .int x2), (3, .int x3), (4, .int x4), (5, .int p49_5), (7, .int p49_7)] hG dX12_burnFirst_92 (by decide) rfl ?_
          refine q_iload (pc := 94) hG dX12_burnFirst_94 8 rfl ?_
          refine q_istore (pc := 96) [(5, .int p49_7), (6, .int v75), (8, .int v75), (0, .ref a0), (1, .int x1), (2, .int x2), (3, .int x3), (4, .int x4), (7, .int p49_7)] hG dX12_burnFirst_96 (by decide) rfl ?_
          refine q_lv [3, 4, 5, 6, 7, 0, 1, 8] rfl ?_
          have r_14 := q_rlt p75.2 r49_6 c84 999999999 (by decide)
          exact J98 p49_7 v75 r49_7 (q_r.mono r_14 (by decide))
        intro c84
        refine q_goto (pc := 87) 98 hG dX12_burnFirst_87 rfl ?_
        refine q_lv [1, 2, 3, 4, 5, 6, 7, 8] rfl ?_
        exact J98 p49_5 p49_6 r49_5 r49_6
    refine q_lv [3, 4, 5, 6, 7, 2, 1, 0] rfl ?_
    exact J49 _ 0 1000000000 0 σ (q_r.mono rl_0 (by decide)) (q_r.mono rl_1000000000 (by decide)) (q_r.mono rl_0 (by decide)) hS0 (Nat.lt_succ_self _)
  intro c33
  refine q_iconst (pc := 36) hG dX12_burnFirst_36 ki_m1 ?_
  exact q_irt hG hE dX12_burnFirst_37 ⟨hS0, (q_r.mono rl_m1 (by decide))⟩
theorem dX12_couldBe_0 : decode cX12_couldBe 0 = .ok (.iconst 0, 1) := by decide +kernel
theorem dX12_couldBe_1 : decode cX12_couldBe 1 = .ok (.istore_n 3, 1) := by decide +kernel
theorem dX12_couldBe_2 : decode cX12_couldBe 2 = .ok (.iload_n 3, 1) := by decide +kernel
theorem dX12_couldBe_3 : decode cX12_couldBe 3 = .ok (.aload_n 0, 1) := by decide +kernel
theorem dX12_couldBe_4 : decode cX12_couldBe 4 = .ok (.getfield 7, 3) := by decide +kernel
theorem dX12_couldBe_7 : decode cX12_couldBe 7 = .ok (.sipush 512, 3) := by decide +kernel
theorem dX12_couldBe_10 : decode cX12_couldBe 10 = .ok (.iaload, 1) := by decide +kernel
theorem dX12_couldBe_11 : decode cX12_couldBe 11 = .ok (.if_icmp .ge 115, 3) := by decide +kernel
theorem dX12_couldBe_14 : decode cX12_couldBe 14 = .ok (.aload_n 0, 1) := by decide +kernel
theorem dX12_couldBe_15 : decode cX12_couldBe 15 = .ok (.iload_n 3, 1) := by decide +kernel
theorem dX12_couldBe_16 : decode cX12_couldBe 16 = .ok (.invokevirtual 116, 3) := by decide +kernel
theorem dX12_couldBe_19 : decode cX12_couldBe 19 = .ok (.ifCond .ne 6, 3) := by decide +kernel
theorem dX12_couldBe_22 : decode cX12_couldBe 22 = .ok (.goto 98, 3) := by decide +kernel
theorem dX12_couldBe_25 : decode cX12_couldBe 25 = .ok (.iload_n 1, 1) := by decide +kernel
theorem dX12_couldBe_26 : decode cX12_couldBe 26 = .ok (.iload_n 2, 1) := by decide +kernel
theorem dX12_couldBe_27 : decode cX12_couldBe 27 = .ok (.ifCond .ne 7, 3) := by decide +kernel
theorem dX12_couldBe_30 : decode cX12_couldBe 30 = .ok (.iload_n 3, 1) := by decide +kernel
theorem dX12_couldBe_31 : decode cX12_couldBe 31 = .ok (.goto 15, 3) := by decide +kernel
theorem dX12_couldBe_34 : decode cX12_couldBe 34 = .ok (.aload_n 0, 1) := by decide +kernel
theorem dX12_couldBe_35 : decode cX12_couldBe 35 = .ok (.getfield 7, 3) := by decide +kernel
theorem dX12_couldBe_38 : decode cX12_couldBe 38 = .ok (.sipush 512, 3) := by decide +kernel
theorem dX12_couldBe_41 : decode cX12_couldBe 41 = .ok (.iaload, 1) := by decide +kernel
theorem dX12_couldBe_42 : decode cX12_couldBe 42 = .ok (.iconst 1, 1) := by decide +kernel
theorem dX12_couldBe_43 : decode cX12_couldBe 43 = .ok (.isub, 1) := by decide +kernel
theorem dX12_couldBe_44 : decode cX12_couldBe 44 = .ok (.iload_n 3, 1) := by decide +kernel
theorem dX12_couldBe_45 : decode cX12_couldBe 45 = .ok (.isub, 1) := by decide +kernel
theorem dX12_couldBe_46 : decode cX12_couldBe 46 = .ok (.iadd, 1) := by decide +kernel
theorem dX12_couldBe_47 : decode cX12_couldBe 47 = .ok (.istore 4, 2) := by decide +kernel
theorem dX12_couldBe_49 : decode cX12_couldBe 49 = .ok (.iload 4, 2) := by decide +kernel
theorem dX12_couldBe_51 : decode cX12_couldBe 51 = .ok (.aload_n 0, 1) := by decide +kernel
theorem dX12_couldBe_52 : decode cX12_couldBe 52 = .ok (.getfield 7, 3) := by decide +kernel
theorem dX12_couldBe_55 : decode cX12_couldBe 55 = .ok (.sipush 320, 3) := by decide +kernel
theorem dX12_couldBe_58 : decode cX12_couldBe 58 = .ok (.iload_n 3, 1) := by decide +kernel
theorem dX12_couldBe_59 : decode cX12_couldBe 59 = .ok (.iadd, 1) := by decide +kernel
theorem dX12_couldBe_60 : decode cX12_couldBe 60 = .ok (.iaload, 1) := by decide +kernel
theorem dX12_couldBe_61 : decode cX12_couldBe 61 = .ok (.if_icmp .lt 33, 3) := by decide +kernel
theorem dX12_couldBe_64 : decode cX12_couldBe 64 = .ok (.iload 4, 2) := by decide +kernel
theorem dX12_couldBe_66 : decode cX12_couldBe 66 = .ok (.aload_n 0, 1) := by decide +kernel
theorem dX12_couldBe_67 : decode cX12_couldBe 67 = .ok (.getfield 7, 3) := by decide +kernel
theorem dX12_couldBe_70 : decode cX12_couldBe 70 = .ok (.sipush 320, 3) := by decide +kernel
theorem dX12_couldBe_73 : decode cX12_couldBe 73 = .ok (.iload_n 3, 1) := by decide +kernel
theorem dX12_couldBe_74 : decode cX12_couldBe 74 = .ok (.iadd, 1) := by decide +kernel
theorem dX12_couldBe_75 : decode cX12_couldBe 75 = .ok (.iaload, 1) := by decide +kernel
theorem dX12_couldBe_76 : decode cX12_couldBe 76 = .ok (.aload_n 0, 1) := by decide +kernel
theorem dX12_couldBe_77 : decode cX12_couldBe 77 = .ok (.getfield 7, 3) := by decide +kernel
theorem dX12_couldBe_80 : decode cX12_couldBe 80 = .ok (.sipush 384, 3) := by decide +kernel
theorem dX12_couldBe_83 : decode cX12_couldBe 83 = .ok (.iload_n 3, 1) := by decide +kernel
theorem dX12_couldBe_84 : decode cX12_couldBe 84 = .ok (.iadd, 1) := by decide +kernel
theorem dX12_couldBe_85 : decode cX12_couldBe 85 = .ok (.iaload, 1) := by decide +kernel
theorem dX12_couldBe_86 : decode cX12_couldBe 86 = .ok (.iadd, 1) := by decide +kernel
theorem dX12_couldBe_87 : decode cX12_couldBe 87 = .ok (.if_icmp .ge 7, 3) := by decide +kernel
theorem dX12_couldBe_90 : decode cX12_couldBe 90 = .ok (.iconst 1, 1) := by decide +kernel
theorem dX12_couldBe_91 : decode cX12_couldBe 91 = .ok (.goto 4, 3) := by decide +kernel
theorem dX12_couldBe_94 : decode cX12_couldBe 94 = .ok (.iconst 0, 1) := by decide +kernel
theorem dX12_couldBe_95 : decode cX12_couldBe 95 = .ok (.istore 5, 2) := by decide +kernel
theorem dX12_couldBe_97 : decode cX12_couldBe 97 = .ok (.iload 5, 2) := by decide +kernel
theorem dX12_couldBe_99 : decode cX12_couldBe 99 = .ok (.aload_n 0, 1) := by decide +kernel
theorem dX12_couldBe_100 : decode cX12_couldBe 100 = .ok (.getfield 7, 3) := by decide +kernel
theorem dX12_couldBe_103 : decode cX12_couldBe 103 = .ok (.sipush 448, 3) := by decide +kernel
theorem dX12_couldBe_106 : decode cX12_couldBe 106 = .ok (.iload_n 3, 1) := by decide +kernel
theorem dX12_couldBe_107 : decode cX12_couldBe 107 = .ok (.iadd, 1) := by decide +kernel
theorem dX12_couldBe_108 : decode cX12_couldBe 108 = .ok (.iaload, 1) := by decide +kernel
theorem dX12_couldBe_109 : decode cX12_couldBe 109 = .ok (.iconst 0, 1) := by decide +kernel
theorem dX12_couldBe_110 : decode cX12_couldBe 110 = .ok (.bipush 11, 2) := by decide +kernel
theorem dX12_couldBe_112 : decode cX12_couldBe 112 = .ok (.invokestatic 102, 3) := by decide +kernel
theorem dX12_couldBe_115 : decode cX12_couldBe 115 = .ok (.if_icmp .eq 5, 3) := by decide +kernel
theorem dX12_couldBe_118 : decode cX12_couldBe 118 = .ok (.iconst 0, 1) := by decide +kernel
theorem dX12_couldBe_119 : decode cX12_couldBe 119 = .ok (.ireturn, 1) := by decide +kernel
theorem dX12_couldBe_120 : decode cX12_couldBe 120 = .ok (.iinc 3 1, 3) := by decide +kernel
theorem dX12_couldBe_123 : decode cX12_couldBe 123 = .ok (.goto (-121), 3) := by decide +kernel
theorem dX12_couldBe_126 : decode cX12_couldBe 126 = .ok (.iconst 1, 1) := by decide +kernel
theorem dX12_couldBe_127 : decode cX12_couldBe 127 = .ok (.ireturn, 1) := by decide +kernel
set_option maxRecDepth 100000 in
set_option maxHeartbeats 4000000 in
theorem c_X12_couldBe {l : Launch} {D : q_D} (τ : q_T) (σ : q_V) (a0 : Nat) (x1 : Int32) (x2 : Int32) (hI : q_I τ σ) (tA0 : τ a0 = some (10, 1)) (rA2 : q_r x2 0 1) : q_Cp l D yX12_couldBe cX12_couldBe 6 (some .boolean) 1 22 τ σ [.ref a0, .int x1, .int x2] (fun r => (q_r r 0 1) ∧ (r.toInt = f_X12_couldBe (fx_N σ) a0 x1.toInt x2.toInt)) := by
  refine q_meti rfl (Nat.le_of_ble_eq_true rfl) (fun X hG hE => ?_)
  show q_O X 0 0 τ σ 0 [(0, .ref a0), (1, .int x1), (2, .int x2)] []
  obtain ⟨Fv, hF⟩ : ∃ z, fx_eq z (f_X12_couldBe (fx_N σ) a0 x1.toInt x2.toInt) := ⟨_, fx_rf⟩
  have hF0 := hF
  unfold f_X12_couldBe at hF
  refine q_iconst (pc := 0) hG dX12_couldBe_0 ki_0 ?_
  refine q_istore_n (pc := 1) [(3, .int 0), (0, .ref a0), (1, .int x1), (2, .int x2)] hG dX12_couldBe_1 (by decide) rfl ?_
  have J2 : ∀ (n2 : Nat) (p2_3 : Int32), (q_r p2_3 0 64) → (fx_eq Fv (kL_X12_couldBe_2 (fx_N σ) a0 x2.toInt x1.toInt n2 p2_3.toInt)) → ((64 - p2_3.toInt).toNat < n2) → q_O X 0 0 τ σ 2 [(0, .ref a0), (1, .int x1), (2, .int x2), (3, .int p2_3)] [] := by
    intro n2
    induction n2 with
    | zero => intro p2_3 r2_3 hF hm2; exact absurd hm2 (Nat.not_lt_zero _)
    | succ n2 ih2 =>
      intro p2_3 r2_3 hF hm2
      replace hF := (show fx_eq Fv (kB_X12_couldBe_2 (kL_X12_couldBe_2 (fx_N σ) a0 x2.toInt x1.toInt n2) (fx_N σ) a0 x2.toInt x1.toInt p2_3.toInt) from hF)
      unfold kB_X12_couldBe_2 at hF
      refine q_iload_n (pc := 2) hG dX12_couldBe_2 3 rfl ?_
      refine q_aload_n (pc := 3) hG dX12_couldBe_3 0 rfl ?_
      refine q_getR (pc := 4) (k2 := 100) (n2 := 549) hG fl_X12_7 dX12_couldBe_4 hI tA0 ff_10_0 (fun b4 f4 T4 => ?_)
      replace hF := fx_R hF f4 rfl
      refine q_sipush (pc := 7) hG dX12_couldBe_7 ks_512 ?_
      refine q_naldc (pc := 10) (a1 := 8) (a2 := 64) hG dX12_couldBe_10 hI T4 (q_ix rl_512 (by decide)) rfl (fun v10 f10 g10 => ?_)
      replace hF := fx_I hF f10 (congrArg Int.toNat tl_512)
      refine q_icmp_ge (pc := 11) hG 126 dX12_couldBe_11 rfl ?_ ?_
      · intro c11
        replace hF := fx_lt2 hF rfl rfl c11
        refine q_iconst (pc := 126) hG dX12_couldBe_126 ki_1 ?_
        exact q_zrt hG hE dX12_couldBe_127 (q_r.mono rl_1 (by decide)) ⟨rfl, (q_r.mono rl_1 (by decide)), (by rw [tl_1]; exact fx_end hF hF0)⟩
      intro c11
      replace hF := fx_lt1 hF rfl rfl c11
      refine q_aload_n (pc := 14) hG dX12_couldBe_14 0 rfl ?_
      refine q_iload_n (pc := 15) hG dX12_couldBe_15 3 rfl ?_
      have r_1 := q_rlt r2_3 g10 c11 63 (by decide)
      refine q_pV (pc := 16) [.int p2_3] [] hG (c_X12_isPainted τ σ a0 p2_3 hI tA0 r_1) my_X12_isPainted mv_X12_isPainted w862 dX12_couldBe_16 tA0 (by decide) rfl rfl (Nat.le_of_ble_eq_true rfl) (by decide) (fun v16 p16 => ?_)
      replace hF := fx_E hF p16.2
      have J120 : (fx_eq Fv (kJ_X12_couldBe_120 p2_3.toInt (kL_X12_couldBe_2 (fx_N σ) a0 x2.toInt x1.toInt n2))) → q_O X 0 0 τ σ 120 [(0, .ref a0), (1, .int x1), (2, .int x2), (3, .int p2_3)] [] := by
        intro hF
        unfold kJ_X12_couldBe_120 at hF
        obtain ⟨v120, e120⟩ : ∃ z : Int32, z = p2_3 + Int32.ofInt 1 := ⟨_, rfl⟩
        have h120 := q_incN (lo := 1) (hi := 64) r_1 (by decide) (by decide) e120
        replace hF := fx_add hF rfl rfl h120.1
        refine q_iinc (pc := 120) [(3, .int v120), (0, .ref a0), (1, .int x1), (2, .int x2)] hG dX12_couldBe_120 3 rfl e120 (by decide) rfl ?_
        refine q_goto (pc := 123) 2 hG dX12_couldBe_123 rfl ?_
        refine q_lv [1, 2, 3, 0] rfl ?_
        exact ih2 v120 (q_r.mono h120.2 (by decide)) hF (q_measU hm2 (by have o0 := c11; have o1 := h120.1; have o2 := r_1; have o3 := g10; have o4 := h120.2; unfold q_r at o2 o3 o4; omega) (h120.2).2)
      refine q_if_ne (pc := 19) hG 25 dX12_couldBe_19 rfl ?_ ?_
      · intro c19
        replace hF := fx_eq2 hF rfl rfl c19
        refine q_iload_n (pc := 25) hG dX12_couldBe_25 1 rfl ?_
        refine q_iload_n (pc := 26) hG dX12_couldBe_26 2 rfl ?_
        have J46 : ∀ (p46_s0 : Int32), (q_r p46_s0 (-56) 63) → (fx_eq Fv (kJ_X12_couldBe_46 x1.toInt p2_3.toInt (fx_N σ) b4 (kL_X12_couldBe_2 (fx_N σ) a0 x2.toInt x1.toInt n2) p46_s0.toInt)) → q_O X 0 0 τ σ 46 [(0, .ref a0), (1, .int x1), (2, .int x2), (3, .int p2_3)] [.int p46_s0, .int x1] := by
          intro p46_s0 r46_s0 hF
          unfold kJ_X12_couldBe_46 at hF
          refine q_iadd (pc := 46) hG dX12_couldBe_46 (fun v46 e46 => ?_)
          replace hF := fx_B_add hF rfl rfl e46
          refine q_istore (pc := 47) [(4, .int v46), (0, .ref a0), (1, .int x1), (2, .int x2), (3, .int p2_3)] hG dX12_couldBe_47 (by decide) rfl ?_
          refine q_iload (pc := 49) hG dX12_couldBe_49 0 rfl ?_
          refine q_aload_n (pc := 51) hG dX12_couldBe_51 1 rfl ?_
          refine q_getV (pc := 52) (v := .ref b4) hG fl_X12_7 dX12_couldBe_52 tA0 f4 ?_
          refine q_sipush (pc := 55) hG dX12_couldBe_55 ks_320 ?_
          refine q_iload_n (pc := 58) hG dX12_couldBe_58 4 rfl ?_
          refine q_iadd (pc := 59) hG dX12_couldBe_59 (fun v59 e59 => ?_)
          replace hF := fx_add hF tl_320 rfl (q_addN (lo := 320) (hi := 383) e59 rl_320 r_1 (by decide)).1
          have r_2 := (q_addN (lo := 320) (hi := 383) e59 rl_320 r_1 (by decide)).2
          refine q_nald (pc := 60) hG dX12_couldBe_60 hI T4 (q_ix r_2 (by decide)) (fun v60 f60 => ?_)
          replace hF := fx_I hF f60 rfl
          have J95 : ∀ (p95_s0 : Int32), (q_r p95_s0 0 1) → (fx_eq Fv (kJ_X12_couldBe_95 p2_3.toInt (fx_N σ) b4 (kL_X12_couldBe_2 (fx_N σ) a0 x2.toInt x1.toInt n2) p95_s0.toInt)) → q_O X 0 0 τ σ 95 [(0, .ref a0), (1, .int x1), (2, .int x2), (3, .int p2_3)] [.int p95_s0] := by
            intro p95_s0 r95_s0 hF
            unfold kJ_X12_couldBe_95 at hF
            refine q_istore (pc := 95) [(5, .int p95_s0), (0, .ref a0), (1, .int x1), (2, .int x2), (3, .int p2_3)] hG dX12_couldBe_95 (by decide) rfl ?_
            refine q_iload (pc := 97) hG dX12_couldBe_97 0 rfl ?_
            refine q_aload_n (pc := 99) hG dX12_couldBe_99 1 rfl ?_
            refine q_getV (pc := 100) (v := .ref b4) hG fl_X12_7 dX12_couldBe_100 tA0 f4 ?_
            refine q_sipush (pc := 103) hG dX12_couldBe_103 ks_448 ?_
            refine q_iload_n (pc := 106) hG dX12_couldBe_106 4 rfl ?_
            refine q_iadd (pc := 107) hG dX12_couldBe_107 (fun v107 e107 => ?_)
            replace hF := fx_add hF tl_448 rfl (q_addN (lo := 448) (hi := 511) e107 rl_448 r_1 (by decide)).1
            have r_3 := (q_addN (lo := 448) (hi := 511) e107 rl_448 r_1 (by decide)).2
            refine q_nald (pc := 108) hG dX12_couldBe_108 hI T4 (q_ix r_3 (by decide)) (fun v108 f108 => ?_)
            replace hF := fx_I hF f108 rfl
            refine q_iconst (pc := 109) hG dX12_couldBe_109 ki_0 ?_
            refine q_bipush (pc := 110) hG dX12_couldBe_110 kb_11 ?_
            refine q_pS (pc := 112) [.int v108, .int 0, .int 11] [.int p95_s0] hG (c_X12_in τ σ v108 0 11 hI) my_X12_in w778 w777 dX12_couldBe_112 rfl rfl (Nat.le_of_ble_eq_true rfl) (by decide) (fun v112 p112 => ?_)
            have fq112 := p112.2.1
            rewrite [tl_0, tl_11] at fq112
            replace hF := fx_E hF fq112
            refine q_icmp_eq (pc := 115) hG 120 dX12_couldBe_115 rfl ?_ ?_
            · intro c115
              replace hF := fx_eq1 hF rfl rfl c115
              refine q_lv [1, 2, 3, 4] rfl ?_
              exact J120 hF
            intro c115
            replace hF := fx_eq2 hF rfl rfl c115
            refine q_iconst (pc := 118) hG dX12_couldBe_118 ki_0 ?_
            exact q_zrt hG hE dX12_couldBe_119 (q_r.mono rl_0 (by decide)) ⟨rfl, (q_r.mono rl_0 (by decide)), (by rw [tl_0]; exact fx_end hF hF0)⟩
          have J94 : (fx_eq Fv (kJ_X12_couldBe_94 p2_3.toInt (fx_N σ) b4 (kL_X12_couldBe_2 (fx_N σ) a0 x2.toInt x1.toInt n2))) → q_O X 0 0 τ σ 94 [(0, .ref a0), (1, .int x1), (2, .int x2), (3, .int p2_3)] [] := by
            intro hF
            unfold kJ_X12_couldBe_94 at hF
            refine q_iconst (pc := 94) hG dX12_couldBe_94 ki_0 ?_
            refine q_lv [0, 1, 2, 3] rfl ?_
            exact J95 0 (q_r.mono rl_0 (by decide)) (by rw [tl_0]; exact hF)
          refine q_icmp_lt (pc := 61) hG 94 dX12_couldBe_61 rfl ?_ ?_
          · intro c61
            replace hF := fx_lt1 hF rfl rfl c61
            refine q_lv [1, 2, 3, 4] rfl ?_
            exact J94 hF
          intro c61
          replace hF := fx_lt2 hF rfl rfl c61
          refine q_iload (pc := 64) hG dX12_couldBe_64 0 rfl ?_
          refine q_aload_n (pc := 66) hG dX12_couldBe_66 1 rfl ?_
          refine q_getV (pc := 67) (v := .ref b4) hG fl_X12_7 dX12_couldBe_67 tA0 f4 ?_
          refine q_sipush (pc := 70) hG dX12_couldBe_70 ks_320 ?_
          refine q_iload_n (pc := 73) hG dX12_couldBe_73 4 rfl ?_
          refine q_iadd (pc := 74) hG dX12_couldBe_74 (fun v74 e74 => ?_)
          rw [e74.trans e59.symm]
          refine q_ialdV (pc := 75) (v := .int v60) hG dX12_couldBe_75 T4 (by decide) (by decide) (q_ix r_2 (by decide)) f60 ?_
          refine q_aload_n (pc := 76) hG dX12_couldBe_76 1 rfl ?_
          refine q_getV (pc := 77) (v := .ref b4) hG fl_X12_7 dX12_couldBe_77 tA0 f4 ?_
          refine q_sipush (pc := 80) hG dX12_couldBe_80 ks_384 ?_
          refine q_iload_n (pc := 83) hG dX12_couldBe_83 4 rfl ?_
          refine q_iadd (pc := 84) hG dX12_couldBe_84 (fun v84 e84 => ?_)
          replace hF := fx_add hF tl_384 rfl (q_addN (lo := 384) (hi := 447) e84 rl_384 r_1 (by decide)).1
          have r_4 := (q_addN (lo := 384) (hi := 447) e84 rl_384 r_1 (by decide)).2
          refine q_nald (pc := 85) hG dX12_couldBe_85 hI T4 (q_ix r_4 (by decide)) (fun v85 f85 => ?_)
          replace hF := fx_I hF f85 rfl
          refine q_iadd (pc := 86) hG dX12_couldBe_86 (fun v86 e86 => ?_)
          replace hF := fx_B_add hF rfl rfl e86
          refine q_icmp_ge (pc := 87) hG 94 dX12_couldBe_87 rfl ?_ ?_
          · intro c87
            replace hF := fx_lt2 hF rfl rfl c87
            refine q_lv [1, 2, 3, 4] rfl ?_
            exact J94 hF
          intro c87
          replace hF := fx_lt1 hF rfl rfl c87
          refine q_iconst (pc := 90) hG dX12_couldBe_90 ki_1 ?_
          refine q_goto (pc := 91) 95 hG dX12_couldBe_91 rfl ?_
          refine q_lv [1, 2, 3, 4] rfl ?_
          exact J95 1 (q_r.mono rl_1 (by decide)) (by rw [tl_1]; exact hF)
        refine q_if_ne (pc := 27) hG 34 dX12_couldBe_27 rfl ?_ ?_
        · intro c27
          replace hF := fx_eq2 hF rfl rfl c27
          refine q_aload_n (pc := 34) hG dX12_couldBe_34 0 rfl ?_
          refine q_getV (pc := 35) (v := .ref b4) hG fl_X12_7 dX12_couldBe_35 tA0 f4 ?_
          refine q_sipush (pc := 38) hG dX12_couldBe_38 ks_512 ?_
          refine q_ialdV (pc := 41) (v := .int v10) hG dX12_couldBe_41 T4 (by decide) (by decide) (q_ix rl_512 (by decide)) f10 ?_
          refine q_iconst (pc := 42) hG dX12_couldBe_42 ki_1 ?_
          refine q_isub (pc := 43) hG dX12_couldBe_43 (fun v43 e43 => ?_)
          replace hF := fx_sub hF rfl tl_1 (q_subN (lo := 7) (hi := 63) e43 g10 rl_1 (by decide)).1
          refine q_iload_n (pc := 44) hG dX12_couldBe_44 3 rfl ?_
          refine q_isub (pc := 45) hG dX12_couldBe_45 (fun v45 e45 => ?_)
          have r_5 := (q_subN (lo := 7) (hi := 63) e43 g10 rl_1 (by decide)).2
          replace hF := fx_sub hF rfl rfl (q_subN (lo := (-56)) (hi := 63) e45 r_5 r_1 (by decide)).1
          refine q_lv [0, 1, 2, 3] rfl ?_
          have r_6 := (q_subN (lo := (-56)) (hi := 63) e45 r_5 r_1 (by decide)).2
          exact J46 v45 r_6 hF
        intro c27
        replace hF := fx_eq1 hF rfl rfl c27
        refine q_iload_n (pc := 30) hG dX12_couldBe_30 3 rfl ?_
        refine q_goto (pc := 31) 46 hG dX12_couldBe_31 rfl ?_
        refine q_lv [0, 1, 2, 3] rfl ?_
        exact J46 p2_3 (q_r.mono r_1 (by decide)) hF
      intro c19
      replace hF := fx_eq1 hF rfl rfl c19
      refine q_goto (pc := 22) 120 hG dX12_couldBe_22 rfl ?_
      refine q_lv [0, 1, 2, 3] rfl ?_
      exact J120 hF
  refine q_lv [1, 2, 3, 0] rfl ?_
  exact J2 ((64 - (0 : Int32).toInt).toNat + 1) 0 (q_r.mono rl_0 (by decide)) (by rw [tl_0]; exact hF) (Nat.lt_succ_self _)
theorem dX12_who_0 : decode cX12_who 0 = .ok (.iload_n 1, 1) := by decide +kernel
theorem dX12_who_1 : decode cX12_who 1 = .ok (.iconst 0, 1) := by decide +kernel
theorem dX12_who_2 : decode cX12_who 2 = .ok (.iconst 2, 1) := by decide +kernel
theorem dX12_who_3 : decode cX12_who 3 = .ok (.invokestatic 102, 3) := by decide +kernel
theorem dX12_who_6 : decode cX12_who 6 = .ok (.ifCond .ne 5, 3) := by decide +kernel
theorem dX12_who_9 : decode cX12_who 9 = .ok (.iconst (-1), 1) := by decide +kernel
theorem dX12_who_10 : decode cX12_who 10 = .ok (.ireturn, 1) := by decide +kernel
theorem dX12_who_11 : decode cX12_who 11 = .ok (.iconst 0, 1) := by decide +kernel
theorem dX12_who_12 : decode cX12_who 12 = .ok (.istore_n 2, 1) := by decide +kernel
theorem dX12_who_13 : decode cX12_who 13 = .ok (.iconst (-1), 1) := by decide +kernel
theorem dX12_who_14 : decode cX12_who 14 = .ok (.istore_n 3, 1) := by decide +kernel
theorem dX12_who_15 : decode cX12_who 15 = .ok (.iconst 0, 1) := by decide +kernel
theorem dX12_who_16 : decode cX12_who 16 = .ok (.istore 4, 2) := by decide +kernel
theorem dX12_who_18 : decode cX12_who 18 = .ok (.iload 4, 2) := by decide +kernel
theorem dX12_who_20 : decode cX12_who 20 = .ok (.iconst 2, 1) := by decide +kernel
theorem dX12_who_21 : decode cX12_who 21 = .ok (.aload_n 0, 1) := by decide +kernel
theorem dX12_who_22 : decode cX12_who 22 = .ok (.getfield 7, 3) := by decide +kernel
theorem dX12_who_25 : decode cX12_who 25 = .ok (.sipush 513, 3) := by decide +kernel
theorem dX12_who_28 : decode cX12_who 28 = .ok (.iaload, 1) := by decide +kernel
theorem dX12_who_29 : decode cX12_who 29 = .ok (.imul, 1) := by decide +kernel
theorem dX12_who_30 : decode cX12_who 30 = .ok (.iconst 2, 1) := by decide +kernel
theorem dX12_who_31 : decode cX12_who 31 = .ok (.iadd, 1) := by decide +kernel
theorem dX12_who_32 : decode cX12_who 32 = .ok (.if_icmp .ge 42, 3) := by decide +kernel
theorem dX12_who_35 : decode cX12_who 35 = .ok (.aload_n 0, 1) := by decide +kernel
theorem dX12_who_36 : decode cX12_who 36 = .ok (.iload 4, 2) := by decide +kernel
theorem dX12_who_38 : decode cX12_who 38 = .ok (.iconst 2, 1) := by decide +kernel
theorem dX12_who_39 : decode cX12_who 39 = .ok (.idiv, 1) := by decide +kernel
theorem dX12_who_40 : decode cX12_who 40 = .ok (.iload 4, 2) := by decide +kernel
theorem dX12_who_42 : decode cX12_who 42 = .ok (.iconst 2, 1) := by decide +kernel
theorem dX12_who_43 : decode cX12_who 43 = .ok (.irem, 1) := by decide +kernel
theorem dX12_who_44 : decode cX12_who 44 = .ok (.invokevirtual 424, 3) := by decide +kernel
theorem dX12_who_47 : decode cX12_who 47 = .ok (.ifCond .ne 6, 3) := by decide +kernel
theorem dX12_who_50 : decode cX12_who 50 = .ok (.goto 18, 3) := by decide +kernel
theorem dX12_who_53 : decode cX12_who 53 = .ok (.iload_n 2, 1) := by decide +kernel
theorem dX12_who_54 : decode cX12_who 54 = .ok (.ifCond .ne 8, 3) := by decide +kernel
theorem dX12_who_57 : decode cX12_who 57 = .ok (.iload 4, 2) := by decide +kernel
theorem dX12_who_59 : decode cX12_who 59 = .ok (.goto 4, 3) := by decide +kernel
theorem dX12_who_62 : decode cX12_who 62 = .ok (.iload_n 3, 1) := by decide +kernel
theorem dX12_who_63 : decode cX12_who 63 = .ok (.istore_n 3, 1) := by decide +kernel
theorem dX12_who_64 : decode cX12_who 64 = .ok (.iload_n 2, 1) := by decide +kernel
theorem dX12_who_65 : decode cX12_who 65 = .ok (.iconst 1, 1) := by decide +kernel
theorem dX12_who_66 : decode cX12_who 66 = .ok (.iadd, 1) := by decide +kernel
theorem dX12_who_67 : decode cX12_who 67 = .ok (.istore_n 2, 1) := by decide +kernel
theorem dX12_who_68 : decode cX12_who 68 = .ok (.iinc 4 1, 3) := by decide +kernel
theorem dX12_who_71 : decode cX12_who 71 = .ok (.goto (-53), 3) := by decide +kernel
theorem dX12_who_74 : decode cX12_who 74 = .ok (.iload_n 1, 1) := by decide +kernel
theorem dX12_who_75 : decode cX12_who 75 = .ok (.ifCond .ne 7, 3) := by decide +kernel
theorem dX12_who_78 : decode cX12_who 78 = .ok (.iload_n 2, 1) := by decide +kernel
theorem dX12_who_79 : decode cX12_who 79 = .ok (.goto 27, 3) := by decide +kernel
theorem dX12_who_82 : decode cX12_who 82 = .ok (.iload_n 3, 1) := by decide +kernel
theorem dX12_who_83 : decode cX12_who 83 = .ok (.iconst (-1), 1) := by decide +kernel
theorem dX12_who_84 : decode cX12_who 84 = .ok (.if_icmp .ne 8, 3) := by decide +kernel
theorem dX12_who_87 : decode cX12_who 87 = .ok (.bipush (-2), 2) := by decide +kernel
theorem dX12_who_89 : decode cX12_who 89 = .ok (.goto 17, 3) := by decide +kernel
theorem dX12_who_92 : decode cX12_who 92 = .ok (.iload_n 1, 1) := by decide +kernel
theorem dX12_who_93 : decode cX12_who 93 = .ok (.iconst 1, 1) := by decide +kernel
theorem dX12_who_94 : decode cX12_who 94 = .ok (.if_icmp .ne 9, 3) := by decide +kernel
theorem dX12_who_97 : decode cX12_who 97 = .ok (.iload_n 3, 1) := by decide +kernel
theorem dX12_who_98 : decode cX12_who 98 = .ok (.iconst 2, 1) := by decide +kernel
theorem dX12_who_99 : decode cX12_who 99 = .ok (.idiv, 1) := by decide +kernel
theorem dX12_who_100 : decode cX12_who 100 = .ok (.goto 6, 3) := by decide +kernel
theorem dX12_who_103 : decode cX12_who 103 = .ok (.iload_n 3, 1) := by decide +kernel
theorem dX12_who_104 : decode cX12_who 104 = .ok (.iconst 2, 1) := by decide +kernel
theorem dX12_who_105 : decode cX12_who 105 = .ok (.irem, 1) := by decide +kernel
theorem dX12_who_106 : decode cX12_who 106 = .ok (.ireturn, 1) := by decide +kernel
set_option maxRecDepth 100000 in
set_option maxHeartbeats 4000000 in
theorem c_X12_who {l : Launch} {D : q_D} (τ : q_T) (σ : q_V) (a0 : Nat) (x1 : Int32) (hI : q_I τ σ) (tA0 : τ a0 = some (10, 1)) : q_Cp l D yX12_who cX12_who 5 (some .int) 2 47 τ σ [.ref a0, .int x1] (fun r => (q_r r (-2147483648) 2147483647) ∧ (r.toInt = f_X12_who (fx_N σ) a0 x1.toInt)) := by
  refine q_meti rfl (Nat.le_of_ble_eq_true rfl) (fun X hG hE => ?_)
  show q_O X 0 0 τ σ 0 [(0, .ref a0), (1, .int x1)] []
  obtain ⟨Fv, hF⟩ : ∃ z, fx_eq z (f_X12_who (fx_N σ) a0 x1.toInt) := ⟨_, fx_rf⟩
  have hF0 := hF
  unfold f_X12_who at hF
  refine q_iload_n (pc := 0) hG dX12_who_0 1 rfl ?_
  refine q_iconst (pc := 1) hG dX12_who_1 ki_0 ?_
  refine q_iconst (pc := 2) hG dX12_who_2 ki_2 ?_
  refine q_pS (pc := 3) [.int x1, .int 0, .int 2] [] hG (c_X12_in τ σ x1 0 2 hI) my_X12_in w778 w777 dX12_who_3 rfl rfl (Nat.le_of_ble_eq_true rfl) (by decide) (fun v3 p3 => ?_)
  have fq3 := p3.2.1
  rewrite [tl_0, tl_2] at fq3
  replace hF := fx_E hF fq3
  refine q_if_ne (pc := 6) hG 11 dX12_who_6 rfl ?_ ?_
  · intro c6
    have g_1 := p3.2.2.mp (q_one p3.1 c6)
    have r_2 := q_rge (q_r_any x1) rl_0 g_1.1
    replace hF := fx_eq2 hF rfl rfl c6
    refine q_iconst (pc := 11) hG dX12_who_11 ki_0 ?_
    refine q_istore_n (pc := 12) [(2, .int 0), (0, .ref a0), (1, .int x1)] hG dX12_who_12 (by decide) rfl ?_
    refine q_iconst (pc := 13) hG dX12_who_13 ki_m1 ?_
    refine q_istore_n (pc := 14) [(3, .int (-1)), (2, .int 0), (0, .ref a0), (1, .int x1)] hG dX12_who_14 (by decide) rfl ?_
    refine q_iconst (pc := 15) hG dX12_who_15 ki_0 ?_
    refine q_istore (pc := 16) [(4, .int 0), (3, .int (-1)), (2, .int 0), (0, .ref a0), (1, .int x1)] hG dX12_who_16 (by decide) rfl ?_
    have J18 : ∀ (n18 : Nat) (p18_2 : Int32) (p18_3 : Int32) (p18_4 : Int32), (q_r p18_3 (-1) 2147483646) → (q_r p18_4 0 2147483647) → (fx_eq Fv (kL_X12_who_18 (fx_N σ) a0 x1.toInt n18 p18_2.toInt p18_3.toInt p18_4.toInt)) → ((2147483647 - p18_4.toInt).toNat < n18) → q_O X 0 0 τ σ 18 [(0, .ref a0), (1, .int x1), (2, .int p18_2), (3, .int p18_3), (4, .int p18_4)] [] := by
      intro n18
      induction n18 with
      | zero => intro p18_2 p18_3 p18_4 r18_3 r18_4 hF hm18; exact absurd hm18 (Nat.not_lt_zero _)
      | succ n18 ih18 =>
        intro p18_2 p18_3 p18_4 r18_3 r18_4 hF hm18
        replace hF := (show fx_eq Fv (kB_X12_who_18 (kL_X12_who_18 (fx_N σ) a0 x1.toInt n18) (fx_N σ) a0 x1.toInt p18_2.toInt p18_3.toInt p18_4.toInt) from hF)
        unfold kB_X12_who_18 at hF
        refine q_iload (pc := 18) hG dX12_who_18 4 rfl ?_
        refine q_iconst (pc := 20) hG dX12_who_20 ki_2 ?_
        refine q_aload_n (pc := 21) hG dX12_who_21 0 rfl ?_
        refine q_getR (pc := 22) (k2 := 100) (n2 := 549) hG fl_X12_7 dX12_who_22 hI tA0 ff_10_0 (fun b22 f22 T22 => ?_)
        replace hF := fx_R hF f22 rfl
        refine q_sipush (pc := 25) hG dX12_who_25 ks_513 ?_
        refine q_nald (pc := 28) hG dX12_who_28 hI T22 (q_ix rl_513 (by decide)) (fun v28 f28 => ?_)
        replace hF := fx_I hF f28 (congrArg Int.toNat tl_513)
        refine q_imul (pc := 29) hG dX12_who_29 (fun v29 e29 => ?_)
        replace hF := fx_B_mul hF tl_2 rfl e29
        refine q_iconst (pc := 30) hG dX12_who_30 ki_2 ?_
        refine q_iadd (pc := 31) hG dX12_who_31 (fun v31 e31 => ?_)
        replace hF := fx_B_add hF rfl tl_2 e31
        refine q_icmp_ge (pc := 32) hG 74 dX12_who_32 rfl ?_ ?_
        · intro c32
          replace hF := fx_lt2 hF rfl rfl c32
          refine q_iload_n (pc := 74) hG dX12_who_74 1 rfl ?_
          refine q_if_ne (pc := 75) hG 82 dX12_who_75 rfl ?_ ?_
          · intro c75
            have r_3 := q_rle r_2 rl_2 g_1.2
            replace hF := fx_eq2 hF rfl rfl c75
            refine q_iload_n (pc := 82) hG dX12_who_82 3 rfl ?_
            refine q_iconst (pc := 83) hG dX12_who_83 ki_m1 ?_
            refine q_icmp_ne (pc := 84) hG 92 dX12_who_84 rfl ?_ ?_
            · intro c84
              replace hF := fx_eq2 hF rfl tl_m1 c84
              refine q_iload_n (pc := 92) hG dX12_who_92 1 rfl ?_
              refine q_iconst (pc := 93) hG dX12_who_93 ki_1 ?_
              refine q_icmp_ne (pc := 94) hG 103 dX12_who_94 rfl ?_ ?_
              · intro c94
                have r_4 := q_neL (c := 1) r_3 c75 (by decide)
                replace hF := fx_eq2 hF rfl tl_1 c94
                refine q_iload_n (pc := 103) hG dX12_who_103 3 rfl ?_
                refine q_iconst (pc := 104) hG dX12_who_104 ki_2 ?_
                refine q_irem (pc := 105) hG dX12_who_105 (q_nzr rl_2 (by decide)) (fun v105 e105 => ?_)
                have r_5 := q_neL (c := 0) r18_3 (q_nel c84 tl_m1) (by decide)
                replace hF := fx_mod hF rfl tl_2 (q_remP e105 r_5 rl_2 (by decide)).1
                have r_6 := q_r.mono (c := 0) (d := 1) (q_remP e105 r_5 rl_2 (by decide)).2.1 (by decide)
                exact q_irt hG hE dX12_who_106 ⟨rfl, (q_r.mono r_6 (by decide)), (fx_end hF hF0)⟩
              intro c94
              have r_7 := q_neL (c := 1) r_3 c75 (by decide)
              replace hF := fx_eq1 hF rfl tl_1 c94
              refine q_iload_n (pc := 97) hG dX12_who_97 3 rfl ?_
              refine q_iconst (pc := 98) hG dX12_who_98 ki_2 ?_
              refine q_idiv (pc := 99) hG dX12_who_99 (q_nzr rl_2 (by decide)) (fun v99 e99 => ?_)
              have r_8 := q_neL (c := 0) r18_3 (q_nel c84 tl_m1) (by decide)
              replace hF := fx_div hF rfl tl_2 (q_divP e99 r_8 rl_2 (by decide))
              refine q_goto (pc := 100) 106 hG dX12_who_100 rfl ?_
              have r_9 := (⟨by have q1 := q_divP e99 r_8 rl_2 (by decide); have q2 := r_8; have q3 := tl_2; rw [q3] at q1; unfold q_r at q2; omega, by have q1 := q_divP e99 r_8 rl_2 (by decide); have q2 := r_8; have q3 := tl_2; rw [q3] at q1; unfold q_r at q2; omega⟩ : q_r v99 0 1073741823)
              exact q_irt hG hE dX12_who_106 ⟨rfl, (q_r.mono r_9 (by decide)), (fx_end hF hF0)⟩
            intro c84
            replace hF := fx_eq1 hF rfl tl_m1 c84
            refine q_bipush (pc := 87) hG dX12_who_87 kb_m2 ?_
            refine q_goto (pc := 89) 106 hG dX12_who_89 rfl ?_
            exact q_irt hG hE dX12_who_106 ⟨rfl, (q_r.mono rl_m2 (by decide)), (by rw [tl_m2]; exact fx_end hF hF0)⟩
          intro c75
          have r_10 := q_rle r_2 rl_2 g_1.2
          replace hF := fx_eq1 hF rfl rfl c75
          refine q_iload_n (pc := 78) hG dX12_who_78 2 rfl ?_
          refine q_goto (pc := 79) 106 hG dX12_who_79 rfl ?_
          exact q_irt hG hE dX12_who_106 ⟨rfl, (q_r_any p18_2), (fx_end hF hF0)⟩
        intro c32
        replace hF := fx_lt1 hF rfl rfl c32
        refine q_aload_n (pc := 35) hG dX12_who_35 0 rfl ?_
        refine q_iload (pc := 36) hG dX12_who_36 4 rfl ?_
        refine q_iconst (pc := 38) hG dX12_who_38 ki_2 ?_
        refine q_idiv (pc := 39) hG dX12_who_39 (q_nzr rl_2 (by decide)) (fun v39 e39 => ?_)
        have r_11 := q_rlt r18_4 (q_r_any v31) c32 2147483646 (by decide)
        replace hF := fx_div hF rfl tl_2 (q_divP e39 r_11 rl_2 (by decide))
        refine q_iload (pc := 40) hG dX12_who_40 4 rfl ?_
        refine q_iconst (pc := 42) hG dX12_who_42 ki_2 ?_
        refine q_irem (pc := 43) hG dX12_who_43 (q_nzr rl_2 (by decide)) (fun v43 e43 => ?_)
        replace hF := fx_mod hF rfl tl_2 (q_remP e43 r_11 rl_2 (by decide)).1
        have r_12 := q_r.mono (c := 0) (d := 1) (q_remP e43 r_11 rl_2 (by decide)).2.1 (by decide)
        refine q_pV (pc := 44) [.int v39, .int v43] [] hG (c_X12_couldBe τ σ a0 v39 v43 hI tA0 r_12) my_X12_couldBe mv_X12_couldBe w1201 dX12_who_44 tA0 (by decide) rfl rfl (Nat.le_of_ble_eq_true rfl) (by decide) (fun v44 p44 => ?_)
        replace hF := fx_E hF p44.2
        have J68 : ∀ (p68_2 : Int32) (p68_3 : Int32), (q_r p68_3 (-1) 2147483646) → (fx_eq Fv (kJ_X12_who_68 p18_4.toInt (kL_X12_who_18 (fx_N σ) a0 x1.toInt n18) p68_2.toInt p68_3.toInt)) → q_O X 0 0 τ σ 68 [(0, .ref a0), (1, .int x1), (2, .int p68_2), (3, .int p68_3), (4, .int p18_4)] [] := by
          intro p68_2 p68_3 r68_3 hF
          unfold kJ_X12_who_68 at hF
          obtain ⟨v68, e68⟩ : ∃ z : Int32, z = p18_4 + Int32.ofInt 1 := ⟨_, rfl⟩
          have h68 := q_incN (lo := 1) (hi := 2147483647) r_11 (by decide) (by decide) e68
          replace hF := fx_add hF rfl rfl h68.1
          refine q_iinc (pc := 68) [(4, .int v68), (0, .ref a0), (1, .int x1), (2, .int p68_2), (3, .int p68_3)] hG dX12_who_68 4 rfl e68 (by decide) rfl ?_
          refine q_goto (pc := 71) 18 hG dX12_who_71 rfl ?_
          refine q_lv [1, 2, 3, 4, 0] rfl ?_
          have r_13 := q_rgt (q_r_any v31) r18_4 c32 1 (by decide)
          have r_14 := (⟨by have q1 := q_divP e39 r_11 rl_2 (by decide); have q2 := r_11; have q3 := tl_2; rw [q3] at q1; unfold q_r at q2; omega, by have q1 := q_divP e39 r_11 rl_2 (by decide); have q2 := r_11; have q3 := tl_2; rw [q3] at q1; unfold q_r at q2; omega⟩ : q_r v39 0 1073741823)
          exact ih18 p68_2 p68_3 v68 r68_3 (q_r.mono h68.2 (by decide)) hF (q_measU hm18 (by have o0 := c32; have o1 := (show v39.toInt = p18_4.toInt / 2 from (by have q := q_divP e39 r_11 rl_2 (by decide); rw [tl_2] at q; exact q)); have o2 := (q_remP e43 r_11 rl_2 (by decide)).2.2; have o3 := (show v43.toInt = p18_4.toInt % 2 from (by have q := (q_remP e43 r_11 rl_2 (by decide)).1; rw [tl_2] at q; exact q)); have o4 := (q_remL e43 r_11 rl_2 (by decide)); have o5 := h68.1; have o6 := r_11; have o7 := r_13; have o8 := r_14; have o9 := r_12; have o10 := h68.2; have l11 := tl_2; unfold q_r at o6 o7 o8 o9 o10; omega) (h68.2).2)
        refine q_if_ne (pc := 47) hG 53 dX12_who_47 rfl ?_ ?_
        · intro c47
          replace hF := fx_eq2 hF rfl rfl c47
          refine q_iload_n (pc := 53) hG dX12_who_53 2 rfl ?_
          have J63 : ∀ (p63_s0 : Int32), (q_r p63_s0 (-1) 2147483646) → (fx_eq Fv (kJ_X12_who_63 p18_2.toInt p18_4.toInt (kL_X12_who_18 (fx_N σ) a0 x1.toInt n18) p63_s0.toInt)) → q_O X 0 0 τ σ 63 [(0, .ref a0), (1, .int x1), (2, .int p18_2), (4, .int p18_4)] [.int p63_s0] := by
            intro p63_s0 r63_s0 hF
            unfold kJ_X12_who_63 at hF
            refine q_istore_n (pc := 63) [(3, .int p63_s0), (0, .ref a0), (1, .int x1), (2, .int p18_2), (4, .int p18_4)] hG dX12_who_63 (by decide) rfl ?_
            refine q_iload_n (pc := 64) hG dX12_who_64 3 rfl ?_
            refine q_iconst (pc := 65) hG dX12_who_65 ki_1 ?_
            refine q_iadd (pc := 66) hG dX12_who_66 (fun v66 e66 => ?_)
            replace hF := fx_B_add hF rfl tl_1 e66
            refine q_istore_n (pc := 67) [(2, .int v66), (3, .int p63_s0), (0, .ref a0), (1, .int x1), (4, .int p18_4)] hG dX12_who_67 (by decide) rfl ?_
            refine q_lv [2, 3, 0, 1, 4] rfl ?_
            exact J68 v66 p63_s0 r63_s0 hF
          refine q_if_ne (pc := 54) hG 62 dX12_who_54 rfl ?_ ?_
          · intro c54
            replace hF := fx_eq2 hF rfl rfl c54
            refine q_iload_n (pc := 62) hG dX12_who_62 3 rfl ?_
            refine q_lv [0, 1, 2, 4] rfl ?_
            exact J63 p18_3 r18_3 hF
          intro c54
          replace hF := fx_eq1 hF rfl rfl c54
          refine q_iload (pc := 57) hG dX12_who_57 4 rfl ?_
          refine q_goto (pc := 59) 63 hG dX12_who_59 rfl ?_
          refine q_lv [0, 1, 2, 4] rfl ?_
          exact J63 p18_4 (q_r.mono r_11 (by decide)) hF
        intro c47
        replace hF := fx_eq1 hF rfl rfl c47
        refine q_goto (pc := 50) 68 hG dX12_who_50 rfl ?_
        refine q_lv [0, 1, 2, 3, 4] rfl ?_
        exact J68 p18_2 p18_3 r18_3 hF
    refine q_lv [3, 4, 2, 1, 0] rfl ?_
    exact J18 ((2147483647 - (0 : Int32).toInt).toNat + 1) 0 (-1) 0 (q_r.mono rl_m1 (by decide)) (q_r.mono rl_0 (by decide)) (by rw [tl_m1, tl_0]; exact hF) (Nat.lt_succ_self _)
  intro c6
  replace hF := fx_eq1 hF rfl rfl c6
  refine q_iconst (pc := 9) hG dX12_who_9 ki_m1 ?_
  exact q_irt hG hE dX12_who_10 ⟨rfl, (q_r.mono rl_m1 (by decide)), (by rw [tl_m1]; exact fx_end hF hF0)⟩
theorem dX12_check_0 : decode cX12_check 0 = .ok (.iload_n 1, 1) := by decide +kernel
theorem dX12_check_1 : decode cX12_check 1 = .ok (.iconst 0, 1) := by decide +kernel
theorem dX12_check_2 : decode cX12_check 2 = .ok (.aload_n 0, 1) := by decide +kernel
theorem dX12_check_3 : decode cX12_check 3 = .ok (.getfield 7, 3) := by decide +kernel
theorem dX12_check_6 : decode cX12_check 6 = .ok (.sipush 512, 3) := by decide +kernel
theorem dX12_check_9 : decode cX12_check 9 = .ok (.iaload, 1) := by decide +kernel
theorem dX12_check_10 : decode cX12_check 10 = .ok (.invokestatic 102, 3) := by decide +kernel
theorem dX12_check_13 : decode cX12_check 13 = .ok (.ifCond .eq 11, 3) := by decide +kernel
theorem dX12_check_16 : decode cX12_check 16 = .ok (.iload_n 1, 1) := by decide +kernel
theorem dX12_check_17 : decode cX12_check 17 = .ok (.aload_n 0, 1) := by decide +kernel
theorem dX12_check_18 : decode cX12_check 18 = .ok (.getfield 119, 3) := by decide +kernel
theorem dX12_check_21 : decode cX12_check 21 = .ok (.if_icmp .le 6, 3) := by decide +kernel
theorem dX12_check_24 : decode cX12_check 24 = .ok (.bipush (-2), 2) := by decide +kernel
theorem dX12_check_26 : decode cX12_check 26 = .ok (.ireturn, 1) := by decide +kernel
theorem dX12_check_27 : decode cX12_check 27 = .ok (.aload_n 0, 1) := by decide +kernel
theorem dX12_check_28 : decode cX12_check 28 = .ok (.iconst 0, 1) := by decide +kernel
theorem dX12_check_29 : decode cX12_check 29 = .ok (.putfield 119, 3) := by decide +kernel
theorem dX12_check_32 : decode cX12_check 32 = .ok (.iconst 0, 1) := by decide +kernel
theorem dX12_check_33 : decode cX12_check 33 = .ok (.istore_n 2, 1) := by decide +kernel
theorem dX12_check_34 : decode cX12_check 34 = .ok (.iload_n 2, 1) := by decide +kernel
theorem dX12_check_35 : decode cX12_check 35 = .ok (.iload_n 1, 1) := by decide +kernel
theorem dX12_check_36 : decode cX12_check 36 = .ok (.if_icmp .ge 49, 3) := by decide +kernel
theorem dX12_check_39 : decode cX12_check 39 = .ok (.aload_n 0, 1) := by decide +kernel
theorem dX12_check_40 : decode cX12_check 40 = .ok (.getfield 19, 3) := by decide +kernel
theorem dX12_check_43 : decode cX12_check 43 = .ok (.iload_n 2, 1) := by decide +kernel
theorem dX12_check_44 : decode cX12_check 44 = .ok (.baload, 1) := by decide +kernel
theorem dX12_check_45 : decode cX12_check 45 = .ok (.sipush 255, 3) := by decide +kernel
theorem dX12_check_48 : decode cX12_check 48 = .ok (.iand, 1) := by decide +kernel
theorem dX12_check_49 : decode cX12_check 49 = .ok (.aload_n 0, 1) := by decide +kernel
theorem dX12_check_50 : decode cX12_check 50 = .ok (.iload_n 2, 1) := by decide +kernel
theorem dX12_check_51 : decode cX12_check 51 = .ok (.invokevirtual 116, 3) := by decide +kernel
theorem dX12_check_54 : decode cX12_check 54 = .ok (.ifCond .eq 19, 3) := by decide +kernel
theorem dX12_check_57 : decode cX12_check 57 = .ok (.aload_n 0, 1) := by decide +kernel
theorem dX12_check_58 : decode cX12_check 58 = .ok (.getfield 7, 3) := by decide +kernel
theorem dX12_check_61 : decode cX12_check 61 = .ok (.sipush 256, 3) := by decide +kernel
theorem dX12_check_64 : decode cX12_check 64 = .ok (.iload_n 2, 1) := by decide +kernel
theorem dX12_check_65 : decode cX12_check 65 = .ok (.iadd, 1) := by decide +kernel
theorem dX12_check_66 : decode cX12_check 66 = .ok (.iaload, 1) := by decide +kernel
theorem dX12_check_67 : decode cX12_check 67 = .ok (.bipush 100, 2) := by decide +kernel
theorem dX12_check_69 : decode cX12_check 69 = .ok (.iadd, 1) := by decide +kernel
theorem dX12_check_70 : decode cX12_check 70 = .ok (.goto 4, 3) := by decide +kernel
theorem dX12_check_73 : decode cX12_check 73 = .ok (.iconst 0, 1) := by decide +kernel
theorem dX12_check_74 : decode cX12_check 74 = .ok (.if_icmp .eq 5, 3) := by decide +kernel
theorem dX12_check_77 : decode cX12_check 77 = .ok (.iload_n 2, 1) := by decide +kernel
theorem dX12_check_78 : decode cX12_check 78 = .ok (.ireturn, 1) := by decide +kernel
theorem dX12_check_79 : decode cX12_check 79 = .ok (.iinc 2 1, 3) := by decide +kernel
theorem dX12_check_82 : decode cX12_check 82 = .ok (.goto (-48), 3) := by decide +kernel
theorem dX12_check_85 : decode cX12_check 85 = .ok (.iconst (-1), 1) := by decide +kernel
theorem dX12_check_86 : decode cX12_check 86 = .ok (.ireturn, 1) := by decide +kernel
def md_X12_check : List (Nat × Nat) := [(10, 4)]
set_option maxRecDepth 100000 in
set_option maxHeartbeats 4000000 in
theorem c_X12_check {l : Launch} {D : q_D} (τ : q_T) (σ : q_V) (a0 : Nat) (x1 : Int32) (hI : q_I τ σ) (tA0 : τ a0 = some (10, 1)) : q_Ci l D yX12_check cX12_check 3 (some .int) 1 22 τ σ [.ref a0, .int x1] (fun r σ1 => q_S md_X12_check τ σ σ1 ∧ (q_r r (-2) 63) ∧ (∀ t : Int32, σ a0 4 = .int t → ∀ (bd : Nat) (dd : Int32), σ a0 0 = .ref bd → σ bd (512 : Int32).toInt.toNat = .int dd → ∃ z : Int32, σ1 a0 4 = .int z ∧ (((0 ≤ x1.toInt ∧ x1.toInt ≤ dd.toInt) ∧ x1.toInt ≤ t.toInt) → z.toInt = 0) ∧ (¬ ((0 ≤ x1.toInt ∧ x1.toInt ≤ dd.toInt) ∧ x1.toInt ≤ t.toInt) → z.toInt = t.toInt))) := by
  refine q_meti rfl (Nat.le_of_ble_eq_true rfl) (fun X hG hE => ?_)
  show q_O X 0 0 τ σ 0 [(0, .ref a0), (1, .int x1)] []
  have hS0 : q_S md_X12_check τ σ σ := q_S.rf hI
  obtain ⟨q_1v, q_1f, q_1r⟩ := (hI a0 10 1 tA0 4 (by decide)).int ff_10_4
  obtain ⟨q_2b, q_2f, q_2T⟩ := (hI a0 10 1 tA0 0 (by decide)).ref (k := 100) (n := 549) rfl
  obtain ⟨q_3v, q_3f, q_3r⟩ := (hI q_2b 100 549 q_2T 512 (by decide)).int (lo := 8) (hi := 64) rfl
  have q_3g : σ q_2b (512 : Int32).toInt.toNat = .int q_3v := q_3f
  refine q_iload_n (pc := 0) hG dX12_check_0 1 rfl ?_
  refine q_iconst (pc := 1) hG dX12_check_1 ki_0 ?_
  refine q_aload_n (pc := 2) hG dX12_check_2 0 rfl ?_
  refine q_getV (pc := 3) (v := .ref q_2b) hG fl_X12_7 dX12_check_3 tA0 q_2f ?_
  refine q_sipush (pc := 6) hG dX12_check_6 ks_512 ?_
  refine q_ialdV (pc := 9) (v := .int q_3v) hG dX12_check_9 q_2T (by decide) (by decide) (q_ix rl_512 (by decide)) q_3g ?_
  refine q_pS (pc := 10) [.int x1, .int 0, .int q_3v] [] hG (c_X12_in τ σ x1 0 q_3v hI) my_X12_in w778 w777 dX12_check_10 rfl rfl (Nat.le_of_ble_eq_true rfl) (by decide) (fun v10 p10 => ?_)
  refine q_if_eq (pc := 13) hG 24 dX12_check_13 rfl ?_ ?_
  · intro c13
    refine q_bipush (pc := 24) hG dX12_check_24 kb_m2 ?_
    have r_4 := q_zeq c13
    exact q_irt hG hE dX12_check_26 ⟨hS0, (q_r.mono rl_m2 (by decide)), (fun t e bd dd e1 e2 => by cases e.symm.trans q_1f; cases e1.symm.trans q_2f; cases e2.symm.trans q_3g; exact ⟨q_1v, q_1f, (by have o0 := p10.2.2; have o1 := c13; have o2 := q_1r; have o3 := q_3r; have o4 := r_4; have l5 := tl_m2; have l6 := tl_0; unfold q_r at o2 o3 o4; omega)⟩)⟩
  intro c13
  have g_5 := p10.2.2.mp (q_one p10.1 c13)
  have r_6 := q_rge (q_r_any x1) rl_0 g_5.1
  refine q_iload_n (pc := 16) hG dX12_check_16 1 rfl ?_
  refine q_aload_n (pc := 17) hG dX12_check_17 0 rfl ?_
  refine q_getV (pc := 18) (v := .int q_1v) hG fl_X12_119 dX12_check_18 tA0 q_1f ?_
  refine q_icmp_le (pc := 21) hG 27 dX12_check_21 rfl ?_ ?_
  · intro c21
    have r_7 := q_rle r_6 q_3r g_5.2
    refine q_aload_n (pc := 27) hG dX12_check_27 0 rfl ?_
    refine q_iconst (pc := 28) hG dX12_check_28 ki_0 ?_
    refine q_putI (pc := 29) hG fl_X12_119 dX12_check_29 hS0 tA0 ff_10_4 rl_0 (by decide) rfl (fun s29 u29 w29 => ?_)
    have m29 : s29 a0 4 = .int 0 := by rw [u29]; exact q_up_same
    refine q_iconst (pc := 32) hG dX12_check_32 ki_0 ?_
    refine q_istore_n (pc := 33) [(2, .int 0), (0, .ref a0), (1, .int x1)] hG dX12_check_33 (by decide) rfl ?_
    have J34 : ∀ (n34 : Nat) (p34_2 : Int32), (q_r p34_2 0 64) → ((64 - p34_2.toInt).toNat < n34) → q_O X 0 0 τ s29 34 [(0, .ref a0), (1, .int x1), (2, .int p34_2)] [] := by
      intro n34
      induction n34 with
      | zero => intro p34_2 r34_2 hm34; exact absurd hm34 (Nat.not_lt_zero _)
      | succ n34 ih34 =>
        intro p34_2 r34_2 hm34
        refine q_iload_n (pc := 34) hG dX12_check_34 2 rfl ?_
        refine q_iload_n (pc := 35) hG dX12_check_35 1 rfl ?_
        refine q_icmp_ge (pc := 36) hG 85 dX12_check_36 rfl ?_ ?_
        · intro c36
          refine q_iconst (pc := 85) hG dX12_check_85 ki_m1 ?_
          have r_8 := q_neL (c := 1) p10.1 c13 (by decide)
          exact q_irt hG hE dX12_check_86 ⟨w29, (q_r.mono rl_m1 (by decide)), (fun t e bd dd e1 e2 => by cases e.symm.trans q_1f; cases e1.symm.trans q_2f; cases e2.symm.trans q_3g; exact ⟨0, m29, (by have o0 := p10.2.2; have o1 := c13; have o2 := g_5.1; have o3 := g_5.2; have o4 := c21; have o5 := c36; have o6 := r34_2; have o7 := q_1r; have o8 := q_3r; have o9 := r_8; have o10 := r_7; have l11 := tl_m1; have l12 := tl_0; unfold q_r at o6 o7 o8 o9 o10; omega)⟩)⟩
        intro c36
        refine q_aload_n (pc := 39) hG dX12_check_39 0 rfl ?_
        refine q_getR (pc := 40) (k2 := 310) (n2 := 260) hG fl_X12_19 dX12_check_40 w29.1 tA0 ff_10_3 (fun b40 f40 T40 => ?_)
        have f_9 := (w29.2 _ _ _ _ tA0 rfl).symm.trans f40
        refine q_iload_n (pc := 43) hG dX12_check_43 2 rfl ?_
        have r_10 := q_rlt r34_2 r_7 c36 63 (by decide)
        refine q_bald (pc := 44) hG dX12_check_44 w29.1 ai_310 T40 (q_ix r_10 (by decide)) (fun v44 f44 g44 => ?_)
        have f_11 := (w29.2 _ _ _ _ T40 rfl).symm.trans f44
        refine q_sipush (pc := 45) hG dX12_check_45 ks_255 ?_
        refine q_iand (pc := 48) hG dX12_check_48 (fun v48 e48 => ?_)
        refine q_aload_n (pc := 49) hG dX12_check_49 0 rfl ?_
        refine q_iload_n (pc := 50) hG dX12_check_50 2 rfl ?_
        refine q_pV (pc := 51) [.int p34_2] [.int v48] hG (c_X12_isPainted τ s29 a0 p34_2 w29.1 tA0 r_10) my_X12_isPainted mv_X12_isPainted w862 dX12_check_51 tA0 (by decide) rfl rfl (Nat.le_of_ble_eq_true rfl) (by decide) (fun v51 p51 => ?_)
        have J74 : ∀ (p74_s0 : Int32), q_O X 0 0 τ s29 74 [(0, .ref a0), (1, .int x1), (2, .int p34_2)] [.int p74_s0, .int v48] := by
          intro p74_s0
          refine q_icmp_eq (pc := 74) hG 79 dX12_check_74 rfl ?_ ?_
          · intro c74
            have r_12 := q_andN (n := 255) e48 rfl (by decide)
            obtain ⟨v79, e79⟩ : ∃ z : Int32, z = p34_2 + Int32.ofInt 1 := ⟨_, rfl⟩
            have h79 := q_incN (lo := 1) (hi := 64) r_10 (by decide) (by decide) e79
            refine q_iinc (pc := 79) [(2, .int v79), (0, .ref a0), (1, .int x1)] hG dX12_check_79 2 rfl e79 (by decide) rfl ?_
            refine q_goto (pc := 82) 34 hG dX12_check_82 rfl ?_
            refine q_lv [1, 2, 0] rfl ?_
            have r_13 := q_neL (c := 1) p10.1 c13 (by decide)
            have r_14 := q_rgt r_7 r34_2 c36 1 (by decide)
            exact ih34 v79 (q_r.mono h79.2 (by decide)) (q_measU hm34 (by have o0 := c36; have o1 := h79.1; have o2 := p10.2.2; have o3 := c13; have o4 := g_5.1; have o5 := g_5.2; have o6 := c21; have o7 := r_10; have o8 := q_1r; have o9 := q_3r; have o10 := r_13; have o11 := h79.2; have o12 := r_14; have l13 := tl_0; unfold q_r at o7 o8 o9 o10 o11 o12; omega) (h79.2).2)
          intro c74
          have r_15 := q_andN (n := 255) e48 rfl (by decide)
          refine q_iload_n (pc := 77) hG dX12_check_77 2 rfl ?_
          have r_16 := q_neL (c := 1) p10.1 c13 (by decide)
          have r_17 := q_rgt r_7 r34_2 c36 1 (by decide)
          exact q_irt hG hE dX12_check_78 ⟨w29, (q_r.mono r_10 (by decide)), (fun t e bd dd e1 e2 => by cases e.symm.trans q_1f; cases e1.symm.trans q_2f; cases e2.symm.trans q_3g; exact ⟨0, m29, (by have o0 := p10.2.2; have o1 := c13; have o2 := g_5.1; have o3 := g_5.2; have o4 := c21; have o5 := c36; have o6 := r_10; have o7 := q_1r; have o8 := q_3r; have o9 := r_16; have o10 := r_17; have l11 := tl_0; unfold q_r at o6 o7 o8 o9 o10; omega)⟩)⟩
        refine q_if_eq (pc := 54) hG 73 dX12_check_54 rfl ?_ ?_
        · intro c54
          refine q_iconst (pc := 73) hG dX12_check_73 ki_0 ?_
          refine q_lv [0, 1, 2] rfl ?_
          exact J74 0
        intro c54
        refine q_aload_n (pc := 57) hG dX12_check_57 0 rfl ?_
        refine q_getV (pc := 58) (v := .ref q_2b) hG fl_X12_7 dX12_check_58 tA0 (w29.same tA0 rfl q_2f) ?_
        refine q_sipush (pc := 61) hG dX12_check_61 ks_256 ?_
        refine q_iload_n (pc := 64) hG dX12_check_64 2 rfl ?_
        refine q_iadd (pc := 65) hG dX12_check_65 (fun v65 e65 => ?_)
        have r_18 := (q_addN (lo := 256) (hi := 319) e65 rl_256 r_10 (by decide)).2
        refine q_nald (pc := 66) hG dX12_check_66 w29.1 q_2T (q_ix r_18 (by decide)) (fun v66 f66 => ?_)
        have f_19 := (w29.2 _ _ _ _ q_2T rfl).symm.trans f66
        refine q_bipush (pc := 67) hG dX12_check_67 kb_100 ?_
        refine q_iadd (pc := 69) hG dX12_check_69 (fun v69 e69 => ?_)
        refine q_goto (pc := 70) 74 hG dX12_check_70 rfl ?_
        refine q_lv [0, 1, 2] rfl ?_
        exact J74 v69
    refine q_lv [1, 2, 0] rfl ?_
    exact J34 _ 0 (q_r.mono rl_0 (by decide)) (Nat.lt_succ_self _)
  intro c21
  have r_20 := q_rle r_6 q_3r g_5.2
  refine q_bipush (pc := 24) hG dX12_check_24 kb_m2 ?_
  have r_21 := q_rlt q_1r r_20 c21 63 (by decide)
  have r_22 := q_neL (c := 1) p10.1 c13 (by decide)
  have r_23 := q_rgt r_20 q_1r c21 1 (by decide)
  exact q_irt hG hE dX12_check_26 ⟨hS0, (q_r.mono rl_m2 (by decide)), (fun t e bd dd e1 e2 => by cases e.symm.trans q_1f; cases e1.symm.trans q_2f; cases e2.symm.trans q_3g; exact ⟨q_1v, q_1f, (by have o0 := p10.2.2; have o1 := c13; have o2 := g_5.1; have o3 := g_5.2; have o4 := c21; have o5 := r_21; have o6 := q_3r; have o7 := r_22; have o8 := r_23; have l9 := tl_m2; have l10 := tl_0; unfold q_r at o5 o6 o7 o8; omega)⟩)⟩
theorem dX12_count_0 : decode cX12_count 0 = .ok (.iload_n 1, 1) := by decide +kernel
theorem dX12_count_1 : decode cX12_count 1 = .ok (.tableswitch 103 0 7 #[47, 56, 65, 70, 75, 84, 93, 98], 47) := by decide +kernel
theorem dX12_count_48 : decode cX12_count 48 = .ok (.aload_n 0, 1) := by decide +kernel
theorem dX12_count_49 : decode cX12_count 49 = .ok (.getfield 7, 3) := by decide +kernel
theorem dX12_count_52 : decode cX12_count 52 = .ok (.sipush 512, 3) := by decide +kernel
theorem dX12_count_55 : decode cX12_count 55 = .ok (.iaload, 1) := by decide +kernel
theorem dX12_count_56 : decode cX12_count 56 = .ok (.ireturn, 1) := by decide +kernel
theorem dX12_count_57 : decode cX12_count 57 = .ok (.aload_n 0, 1) := by decide +kernel
theorem dX12_count_58 : decode cX12_count 58 = .ok (.getfield 7, 3) := by decide +kernel
theorem dX12_count_61 : decode cX12_count 61 = .ok (.sipush 513, 3) := by decide +kernel
theorem dX12_count_64 : decode cX12_count 64 = .ok (.iaload, 1) := by decide +kernel
theorem dX12_count_65 : decode cX12_count 65 = .ok (.ireturn, 1) := by decide +kernel
theorem dX12_count_66 : decode cX12_count 66 = .ok (.aload_n 0, 1) := by decide +kernel
theorem dX12_count_67 : decode cX12_count 67 = .ok (.invokevirtual 303, 3) := by decide +kernel
theorem dX12_count_70 : decode cX12_count 70 = .ok (.ireturn, 1) := by decide +kernel
theorem dX12_count_71 : decode cX12_count 71 = .ok (.aload_n 0, 1) := by decide +kernel
theorem dX12_count_72 : decode cX12_count 72 = .ok (.invokevirtual 306, 3) := by decide +kernel
theorem dX12_count_75 : decode cX12_count 75 = .ok (.ireturn, 1) := by decide +kernel
theorem dX12_count_76 : decode cX12_count 76 = .ok (.aload_n 0, 1) := by decide +kernel
theorem dX12_count_77 : decode cX12_count 77 = .ok (.getfield 7, 3) := by decide +kernel
theorem dX12_count_80 : decode cX12_count 80 = .ok (.sipush 514, 3) := by decide +kernel
theorem dX12_count_83 : decode cX12_count 83 = .ok (.iaload, 1) := by decide +kernel
theorem dX12_count_84 : decode cX12_count 84 = .ok (.ireturn, 1) := by decide +kernel
theorem dX12_count_85 : decode cX12_count 85 = .ok (.aload_n 0, 1) := by decide +kernel
theorem dX12_count_86 : decode cX12_count 86 = .ok (.getfield 7, 3) := by decide +kernel
theorem dX12_count_89 : decode cX12_count 89 = .ok (.sipush 515, 3) := by decide +kernel
theorem dX12_count_92 : decode cX12_count 92 = .ok (.iaload, 1) := by decide +kernel
theorem dX12_count_93 : decode cX12_count 93 = .ok (.ireturn, 1) := by decide +kernel
theorem dX12_count_94 : decode cX12_count 94 = .ok (.aload_n 0, 1) := by decide +kernel
theorem dX12_count_95 : decode cX12_count 95 = .ok (.getfield 233, 3) := by decide +kernel
theorem dX12_count_98 : decode cX12_count 98 = .ok (.ireturn, 1) := by decide +kernel
theorem dX12_count_99 : decode cX12_count 99 = .ok (.aload_n 0, 1) := by decide +kernel
theorem dX12_count_100 : decode cX12_count 100 = .ok (.getfield 119, 3) := by decide +kernel
theorem dX12_count_103 : decode cX12_count 103 = .ok (.ireturn, 1) := by decide +kernel
theorem dX12_count_104 : decode cX12_count 104 = .ok (.iload_n 1, 1) := by decide +kernel
theorem dX12_count_105 : decode cX12_count 105 = .ok (.bipush 10, 2) := by decide +kernel
theorem dX12_count_107 : decode cX12_count 107 = .ok (.bipush 11, 2) := by decide +kernel
theorem dX12_count_109 : decode cX12_count 109 = .ok (.invokestatic 102, 3) := by decide +kernel
theorem dX12_count_112 : decode cX12_count 112 = .ok (.ifCond .eq 17, 3) := by decide +kernel
theorem dX12_count_115 : decode cX12_count 115 = .ok (.aload_n 0, 1) := by decide +kernel
theorem dX12_count_116 : decode cX12_count 116 = .ok (.getfield 7, 3) := by decide +kernel
theorem dX12_count_119 : decode cX12_count 119 = .ok (.sipush 516, 3) := by decide +kernel
theorem dX12_count_122 : decode cX12_count 122 = .ok (.iload_n 1, 1) := by decide +kernel
theorem dX12_count_123 : decode cX12_count 123 = .ok (.iadd, 1) := by decide +kernel
theorem dX12_count_124 : decode cX12_count 124 = .ok (.bipush 10, 2) := by decide +kernel
theorem dX12_count_126 : decode cX12_count 126 = .ok (.isub, 1) := by decide +kernel
theorem dX12_count_127 : decode cX12_count 127 = .ok (.iaload, 1) := by decide +kernel
theorem dX12_count_128 : decode cX12_count 128 = .ok (.ireturn, 1) := by decide +kernel
theorem dX12_count_129 : decode cX12_count 129 = .ok (.iload_n 1, 1) := by decide +kernel
theorem dX12_count_130 : decode cX12_count 130 = .ok (.bipush 20, 2) := by decide +kernel
theorem dX12_count_132 : decode cX12_count 132 = .ok (.bipush 21, 2) := by decide +kernel
theorem dX12_count_134 : decode cX12_count 134 = .ok (.invokestatic 102, 3) := by decide +kernel
theorem dX12_count_137 : decode cX12_count 137 = .ok (.ifCond .eq 20, 3) := by decide +kernel
theorem dX12_count_140 : decode cX12_count 140 = .ok (.aload_n 0, 1) := by decide +kernel
theorem dX12_count_141 : decode cX12_count 141 = .ok (.getfield 7, 3) := by decide +kernel
theorem dX12_count_144 : decode cX12_count 144 = .ok (.sipush 518, 3) := by decide +kernel
theorem dX12_count_147 : decode cX12_count 147 = .ok (.iload_n 1, 1) := by decide +kernel
theorem dX12_count_148 : decode cX12_count 148 = .ok (.iadd, 1) := by decide +kernel
theorem dX12_count_149 : decode cX12_count 149 = .ok (.bipush 20, 2) := by decide +kernel
theorem dX12_count_151 : decode cX12_count 151 = .ok (.isub, 1) := by decide +kernel
theorem dX12_count_152 : decode cX12_count 152 = .ok (.iaload, 1) := by decide +kernel
theorem dX12_count_153 : decode cX12_count 153 = .ok (.bipush 100, 2) := by decide +kernel
theorem dX12_count_155 : decode cX12_count 155 = .ok (.iadd, 1) := by decide +kernel
theorem dX12_count_156 : decode cX12_count 156 = .ok (.ireturn, 1) := by decide +kernel
theorem dX12_count_157 : decode cX12_count 157 = .ok (.iload_n 1, 1) := by decide +kernel
theorem dX12_count_158 : decode cX12_count 158 = .ok (.bipush 30, 2) := by decide +kernel
theorem dX12_count_160 : decode cX12_count 160 = .ok (.bipush 41, 2) := by decide +kernel
theorem dX12_count_162 : decode cX12_count 162 = .ok (.invokestatic 102, 3) := by decide +kernel
theorem dX12_count_165 : decode cX12_count 165 = .ok (.ifCond .eq 35, 3) := by decide +kernel
theorem dX12_count_168 : decode cX12_count 168 = .ok (.aload_n 0, 1) := by decide +kernel
theorem dX12_count_169 : decode cX12_count 169 = .ok (.getfield 7, 3) := by decide +kernel
theorem dX12_count_172 : decode cX12_count 172 = .ok (.sipush 524, 3) := by decide +kernel
theorem dX12_count_175 : decode cX12_count 175 = .ok (.iaload, 1) := by decide +kernel
theorem dX12_count_176 : decode cX12_count 176 = .ok (.iload_n 1, 1) := by decide +kernel
theorem dX12_count_177 : decode cX12_count 177 = .ok (.bipush 30, 2) := by decide +kernel
theorem dX12_count_179 : decode cX12_count 179 = .ok (.isub, 1) := by decide +kernel
theorem dX12_count_180 : decode cX12_count 180 = .ok (.invokestatic 281, 3) := by decide +kernel
theorem dX12_count_183 : decode cX12_count 183 = .ok (.ifCond .eq 17, 3) := by decide +kernel
theorem dX12_count_186 : decode cX12_count 186 = .ok (.aload_n 0, 1) := by decide +kernel
theorem dX12_count_187 : decode cX12_count 187 = .ok (.getfield 7, 3) := by decide +kernel
theorem dX12_count_190 : decode cX12_count 190 = .ok (.sipush 525, 3) := by decide +kernel
theorem dX12_count_193 : decode cX12_count 193 = .ok (.iload_n 1, 1) := by decide +kernel
theorem dX12_count_194 : decode cX12_count 194 = .ok (.iadd, 1) := by decide +kernel
theorem dX12_count_195 : decode cX12_count 195 = .ok (.bipush 30, 2) := by decide +kernel
theorem dX12_count_197 : decode cX12_count 197 = .ok (.isub, 1) := by decide +kernel
theorem dX12_count_198 : decode cX12_count 198 = .ok (.iaload, 1) := by decide +kernel
theorem dX12_count_199 : decode cX12_count 199 = .ok (.ireturn, 1) := by decide +kernel
theorem dX12_count_200 : decode cX12_count 200 = .ok (.iload_n 1, 1) := by decide +kernel
theorem dX12_count_201 : decode cX12_count 201 = .ok (.bipush 50, 2) := by decide +kernel
theorem dX12_count_203 : decode cX12_count 203 = .ok (.bipush 61, 2) := by decide +kernel
theorem dX12_count_205 : decode cX12_count 205 = .ok (.invokestatic 102, 3) := by decide +kernel
theorem dX12_count_208 : decode cX12_count 208 = .ok (.ifCond .eq 37, 3) := by decide +kernel
theorem dX12_count_211 : decode cX12_count 211 = .ok (.aload_n 0, 1) := by decide +kernel
theorem dX12_count_212 : decode cX12_count 212 = .ok (.getfield 7, 3) := by decide +kernel
theorem dX12_count_215 : decode cX12_count 215 = .ok (.sipush 524, 3) := by decide +kernel
theorem dX12_count_218 : decode cX12_count 218 = .ok (.iaload, 1) := by decide +kernel
theorem dX12_count_219 : decode cX12_count 219 = .ok (.iload_n 1, 1) := by decide +kernel
theorem dX12_count_220 : decode cX12_count 220 = .ok (.bipush 50, 2) := by decide +kernel
theorem dX12_count_222 : decode cX12_count 222 = .ok (.isub, 1) := by decide +kernel
theorem dX12_count_223 : decode cX12_count 223 = .ok (.invokestatic 281, 3) := by decide +kernel
theorem dX12_count_226 : decode cX12_count 226 = .ok (.ifCond .eq 19, 3) := by decide +kernel
theorem dX12_count_229 : decode cX12_count 229 = .ok (.aload_n 0, 1) := by decide +kernel
theorem dX12_count_230 : decode cX12_count 230 = .ok (.getfield 7, 3) := by decide +kernel
theorem dX12_count_233 : decode cX12_count 233 = .ok (.sipush 537, 3) := by decide +kernel
theorem dX12_count_236 : decode cX12_count 236 = .ok (.iload_n 1, 1) := by decide +kernel
theorem dX12_count_237 : decode cX12_count 237 = .ok (.iadd, 1) := by decide +kernel
theorem dX12_count_238 : decode cX12_count 238 = .ok (.bipush 50, 2) := by decide +kernel
theorem dX12_count_240 : decode cX12_count 240 = .ok (.isub, 1) := by decide +kernel
theorem dX12_count_241 : decode cX12_count 241 = .ok (.iaload, 1) := by decide +kernel
theorem dX12_count_242 : decode cX12_count 242 = .ok (.goto 4, 3) := by decide +kernel
theorem dX12_count_245 : decode cX12_count 245 = .ok (.iconst (-1), 1) := by decide +kernel
theorem dX12_count_246 : decode cX12_count 246 = .ok (.ireturn, 1) := by decide +kernel
set_option maxRecDepth 100000 in
set_option maxHeartbeats 4000000 in
theorem c_X12_count {l : Launch} {D : q_D} (τ : q_T) (σ : q_V) (a0 : Nat) (x1 : Int32) (hI : q_I τ σ) (tA0 : τ a0 = some (10, 1)) : q_Cp l D yX12_count cX12_count 2 (some .int) 2 43 τ σ [.ref a0, .int x1] (fun r => q_r r (-2147483648) 2147483647) := by
  refine q_meti rfl (Nat.le_of_ble_eq_true rfl) (fun X hG hE => ?_)
  show q_O X 0 0 τ σ 0 [(0, .ref a0), (1, .int x1)] []
  refine q_iload_n (pc := 0) hG dX12_count_0 1 rfl ?_
  by_cases z1_0 : x1.toInt = 0
  · skip
    refine q_tsIn (pc := 1) 0 48 hG dX12_count_1 z1_0 (by decide) rfl rfl ?_
    refine q_aload_n (pc := 48) hG dX12_count_48 0 rfl ?_
    refine q_getR (pc := 49) (k2 := 100) (n2 := 549) hG fl_X12_7 dX12_count_49 hI tA0 ff_10_0 (fun b49 f49 T49 => ?_)
    refine q_sipush (pc := 52) hG dX12_count_52 ks_512 ?_
    refine q_naldc (pc := 55) (a1 := 8) (a2 := 64) hG dX12_count_55 hI T49 (q_ix rl_512 (by decide)) rfl (fun v55 f55 g55 => ?_)
    exact q_irt hG hE dX12_count_56 ⟨rfl, (q_r.mono g55 (by decide))⟩
  by_cases z1_1 : x1.toInt = 1
  · skip
    refine q_tsIn (pc := 1) 1 57 hG dX12_count_1 z1_1 (by decide) rfl rfl ?_
    refine q_aload_n (pc := 57) hG dX12_count_57 0 rfl ?_
    refine q_getR (pc := 58) (k2 := 100) (n2 := 549) hG fl_X12_7 dX12_count_58 hI tA0 ff_10_0 (fun b58 f58 T58 => ?_)
    refine q_sipush (pc := 61) hG dX12_count_61 ks_513 ?_
    refine q_nald (pc := 64) hG dX12_count_64 hI T58 (q_ix rl_513 (by decide)) (fun v64 f64 => ?_)
    exact q_irt hG hE dX12_count_65 ⟨rfl, (q_r_any v64)⟩
  by_cases z1_2 : x1.toInt = 2
  · skip
    refine q_tsIn (pc := 1) 2 66 hG dX12_count_1 z1_2 (by decide) rfl rfl ?_
    refine q_aload_n (pc := 66) hG dX12_count_66 0 rfl ?_
    refine q_pV (pc := 67) [] [] hG (c_X12_paintedAll τ σ a0 hI tA0) my_X12_paintedAll mv_X12_paintedAll w1021 dX12_count_67 tA0 (by decide) rfl rfl (Nat.le_of_ble_eq_true rfl) (by decide) (fun v67 p67 => ?_)
    exact q_irt hG hE dX12_count_70 ⟨rfl, p67.1⟩
  by_cases z1_3 : x1.toInt = 3
  · skip
    refine q_tsIn (pc := 1) 3 71 hG dX12_count_1 z1_3 (by decide) rfl rfl ?_
    refine q_aload_n (pc := 71) hG dX12_count_71 0 rfl ?_
    refine q_pV (pc := 72) [] [] hG (c_X12_spoiltAll τ σ a0 hI tA0) my_X12_spoiltAll mv_X12_spoiltAll w1024 dX12_count_72 tA0 (by decide) rfl rfl (Nat.le_of_ble_eq_true rfl) (by decide) (fun v72 p72 => ?_)
    exact q_irt hG hE dX12_count_75 ⟨rfl, p72.1⟩
  by_cases z1_4 : x1.toInt = 4
  · skip
    refine q_tsIn (pc := 1) 4 76 hG dX12_count_1 z1_4 (by decide) rfl rfl ?_
    refine q_aload_n (pc := 76) hG dX12_count_76 0 rfl ?_
    refine q_getR (pc := 77) (k2 := 100) (n2 := 549) hG fl_X12_7 dX12_count_77 hI tA0 ff_10_0 (fun b77 f77 T77 => ?_)
    refine q_sipush (pc := 80) hG dX12_count_80 ks_514 ?_
    refine q_nald (pc := 83) hG dX12_count_83 hI T77 (q_ix rl_514 (by decide)) (fun v83 f83 => ?_)
    exact q_irt hG hE dX12_count_84 ⟨rfl, (q_r_any v83)⟩
  by_cases z1_5 : x1.toInt = 5
  · skip
    refine q_tsIn (pc := 1) 5 85 hG dX12_count_1 z1_5 (by decide) rfl rfl ?_
    refine q_aload_n (pc := 85) hG dX12_count_85 0 rfl ?_
    refine q_getR (pc := 86) (k2 := 100) (n2 := 549) hG fl_X12_7 dX12_count_86 hI tA0 ff_10_0 (fun b86 f86 T86 => ?_)
    refine q_sipush (pc := 89) hG dX12_count_89 ks_515 ?_
    refine q_nald (pc := 92) hG dX12_count_92 hI T86 (q_ix rl_515 (by decide)) (fun v92 f92 => ?_)
    exact q_irt hG hE dX12_count_93 ⟨rfl, (q_r_any v92)⟩
  by_cases z1_6 : x1.toInt = 6
  · skip
    refine q_tsIn (pc := 1) 6 94 hG dX12_count_1 z1_6 (by decide) rfl rfl ?_
    refine q_aload_n (pc := 94) hG dX12_count_94 0 rfl ?_
    refine q_getI (pc := 95) hG fl_X12_233 dX12_count_95 hI tA0 ff_10_13 (fun v95 f95 g95 => ?_)
    exact q_irt hG hE dX12_count_98 ⟨rfl, (q_r.mono g95 (by decide))⟩
  by_cases z1_7 : x1.toInt = 7
  · skip
    refine q_tsIn (pc := 1) 7 99 hG dX12_count_1 z1_7 (by decide) rfl rfl ?_
    refine q_aload_n (pc := 99) hG dX12_count_99 0 rfl ?_
    refine q_getI (pc := 100) hG fl_X12_119 dX12_count_100 hI tA0 ff_10_4 (fun v100 f100 g100 => ?_)
    exact q_irt hG hE dX12_count_103 ⟨rfl, (q_r.mono g100 (by decide))⟩
  refine q_tsOut (pc := 1) 104 hG dX12_count_1 (by have q := (q_r_any x1); unfold q_r at q; omega) rfl ?_
  refine q_iload_n (pc := 104) hG dX12_count_104 1 rfl ?_
  refine q_bipush (pc := 105) hG dX12_count_105 kb_10 ?_
  refine q_bipush (pc := 107) hG dX12_count_107 kb_11 ?_
  refine q_pS (pc := 109) [.int x1, .int 10, .int 11] [] hG (c_X12_in τ σ x1 10 11 hI) my_X12_in w778 w777 dX12_count_109 rfl rfl (Nat.le_of_ble_eq_true rfl) (by decide) (fun v109 p109 => ?_)
  refine q_if_eq (pc := 112) hG 129 dX12_count_112 rfl ?_ ?_
  · intro c112
    refine q_iload_n (pc := 129) hG dX12_count_129 1 rfl ?_
    refine q_bipush (pc := 130) hG dX12_count_130 kb_20 ?_
    refine q_bipush (pc := 132) hG dX12_count_132 kb_21 ?_
    refine q_pS (pc := 134) [.int x1, .int 20, .int 21] [] hG (c_X12_in τ σ x1 20 21 hI) my_X12_in w778 w777 dX12_count_134 rfl rfl (Nat.le_of_ble_eq_true rfl) (by decide) (fun v134 p134 => ?_)
    refine q_if_eq (pc := 137) hG 157 dX12_count_137 rfl ?_ ?_
    · intro c137
      refine q_iload_n (pc := 157) hG dX12_count_157 1 rfl ?_
      refine q_bipush (pc := 158) hG dX12_count_158 kb_30 ?_
      refine q_bipush (pc := 160) hG dX12_count_160 kb_41 ?_
      refine q_pS (pc := 162) [.int x1, .int 30, .int 41] [] hG (c_X12_in τ σ x1 30 41 hI) my_X12_in w778 w777 dX12_count_162 rfl rfl (Nat.le_of_ble_eq_true rfl) (by decide) (fun v162 p162 => ?_)
      have J200 : q_O X 0 0 τ σ 200 [(0, .ref a0), (1, .int x1)] [] := by
        refine q_iload_n (pc := 200) hG dX12_count_200 1 rfl ?_
        refine q_bipush (pc := 201) hG dX12_count_201 kb_50 ?_
        refine q_bipush (pc := 203) hG dX12_count_203 kb_61 ?_
        refine q_pS (pc := 205) [.int x1, .int 50, .int 61] [] hG (c_X12_in τ σ x1 50 61 hI) my_X12_in w778 w777 dX12_count_205 rfl rfl (Nat.le_of_ble_eq_true rfl) (by decide) (fun v205 p205 => ?_)
        refine q_if_eq (pc := 208) hG 245 dX12_count_208 rfl ?_ ?_
        · intro c208
          refine q_iconst (pc := 245) hG dX12_count_245 ki_m1 ?_
          exact q_irt hG hE dX12_count_246 ⟨rfl, (q_r.mono rl_m1 (by decide))⟩
        intro c208
        have g_1 := p205.2.2.mp (q_one p205.1 c208)
        have r_2 := q_rge (q_r_any x1) rl_50 g_1.1
        refine q_aload_n (pc := 211) hG dX12_count_211 0 rfl ?_
        refine q_getR (pc := 212) (k2 := 100) (n2 := 549) hG fl_X12_7 dX12_count_212 hI tA0 ff_10_0 (fun b212 f212 T212 => ?_)
        refine q_sipush (pc := 215) hG dX12_count_215 ks_524 ?_
        refine q_nald (pc := 218) hG dX12_count_218 hI T212 (q_ix rl_524 (by decide)) (fun v218 f218 => ?_)
        refine q_iload_n (pc := 219) hG dX12_count_219 1 rfl ?_
        refine q_bipush (pc := 220) hG dX12_count_220 kb_50 ?_
        refine q_isub (pc := 222) hG dX12_count_222 (fun v222 e222 => ?_)
        have r_3 := q_rle r_2 rl_61 g_1.2
        refine q_pS (pc := 223) [.int v218, .int v222] [] hG (c_X12_has τ σ v218 v222 hI) my_X12_has w1012 w1011 dX12_count_223 rfl rfl (Nat.le_of_ble_eq_true rfl) (by decide) (fun v223 p223 => ?_)
        refine q_if_eq (pc := 226) hG 245 dX12_count_226 rfl ?_ ?_
        · intro c226
          refine q_iconst (pc := 245) hG dX12_count_245 ki_m1 ?_
          exact q_irt hG hE dX12_count_246 ⟨rfl, (q_r.mono rl_m1 (by decide))⟩
        intro c226
        refine q_aload_n (pc := 229) hG dX12_count_229 0 rfl ?_
        refine q_getV (pc := 230) (v := .ref b212) hG fl_X12_7 dX12_count_230 tA0 f212 ?_
        refine q_sipush (pc := 233) hG dX12_count_233 ks_537 ?_
        refine q_iload_n (pc := 236) hG dX12_count_236 1 rfl ?_
        refine q_iadd (pc := 237) hG dX12_count_237 (fun v237 e237 => ?_)
        refine q_bipush (pc := 238) hG dX12_count_238 kb_50 ?_
        refine q_isub (pc := 240) hG dX12_count_240 (fun v240 e240 => ?_)
        have r_4 := (q_addN (lo := 587) (hi := 598) e237 rl_537 r_3 (by decide)).2
        have r_5 := (q_subN (lo := 537) (hi := 548) e240 r_4 rl_50 (by decide)).2
        refine q_nald (pc := 241) hG dX12_count_241 hI T212 (q_ix r_5 (by decide)) (fun v241 f241 => ?_)
        refine q_goto (pc := 242) 246 hG dX12_count_242 rfl ?_
        exact q_irt hG hE dX12_count_246 ⟨rfl, (q_r_any v241)⟩
      refine q_if_eq (pc := 165) hG 200 dX12_count_165 rfl ?_ ?_
      · intro c165
        refine q_lv [0, 1] rfl ?_
        exact J200 
      intro c165
      have g_6 := p162.2.2.mp (q_one p162.1 c165)
      have r_7 := q_rge (q_r_any x1) rl_30 g_6.1
      refine q_aload_n (pc := 168) hG dX12_count_168 0 rfl ?_
      refine q_getR (pc := 169) (k2 := 100) (n2 := 549) hG fl_X12_7 dX12_count_169 hI tA0 ff_10_0 (fun b169 f169 T169 => ?_)
      refine q_sipush (pc := 172) hG dX12_count_172 ks_524 ?_
      refine q_nald (pc := 175) hG dX12_count_175 hI T169 (q_ix rl_524 (by decide)) (fun v175 f175 => ?_)
      refine q_iload_n (pc := 176) hG dX12_count_176 1 rfl ?_
      refine q_bipush (pc := 177) hG dX12_count_177 kb_30 ?_
      refine q_isub (pc := 179) hG dX12_count_179 (fun v179 e179 => ?_)
      have r_8 := q_rle r_7 rl_41 g_6.2
      refine q_pS (pc := 180) [.int v175, .int v179] [] hG (c_X12_has τ σ v175 v179 hI) my_X12_has w1012 w1011 dX12_count_180 rfl rfl (Nat.le_of_ble_eq_true rfl) (by decide) (fun v180 p180 => ?_)
      refine q_if_eq (pc := 183) hG 200 dX12_count_183 rfl ?_ ?_
      · intro c183
        refine q_lv [0, 1] rfl ?_
        exact J200 
      intro c183
      refine q_aload_n (pc := 186) hG dX12_count_186 0 rfl ?_
      refine q_getV (pc := 187) (v := .ref b169) hG fl_X12_7 dX12_count_187 tA0 f169 ?_
      refine q_sipush (pc := 190) hG dX12_count_190 ks_525 ?_
      refine q_iload_n (pc := 193) hG dX12_count_193 1 rfl ?_
      refine q_iadd (pc := 194) hG dX12_count_194 (fun v194 e194 => ?_)
      refine q_bipush (pc := 195) hG dX12_count_195 kb_30 ?_
      refine q_isub (pc := 197) hG dX12_count_197 (fun v197 e197 => ?_)
      have r_9 := (q_addN (lo := 555) (hi := 566) e194 rl_525 r_8 (by decide)).2
      have r_10 := (q_subN (lo := 525) (hi := 536) e197 r_9 rl_30 (by decide)).2
      refine q_nald (pc := 198) hG dX12_count_198 hI T169 (q_ix r_10 (by decide)) (fun v198 f198 => ?_)
      exact q_irt hG hE dX12_count_199 ⟨rfl, (q_r_any v198)⟩
    intro c137
    have g_11 := p134.2.2.mp (q_one p134.1 c137)
    have r_12 := q_rge (q_r_any x1) rl_20 g_11.1
    refine q_aload_n (pc := 140) hG dX12_count_140 0 rfl ?_
    refine q_getR (pc := 141) (k2 := 100) (n2 := 549) hG fl_X12_7 dX12_count_141 hI tA0 ff_10_0 (fun b141 f141 T141 => ?_)
    refine q_sipush (pc := 144) hG dX12_count_144 ks_518 ?_
    refine q_iload_n (pc := 147) hG dX12_count_147 1 rfl ?_
    refine q_iadd (pc := 148) hG dX12_count_148 (fun v148 e148 => ?_)
    have r_13 := q_rle r_12 rl_21 g_11.2
    refine q_bipush (pc := 149) hG dX12_count_149 kb_20 ?_
    refine q_isub (pc := 151) hG dX12_count_151 (fun v151 e151 => ?_)
    have r_14 := (q_addN (lo := 538) (hi := 539) e148 rl_518 r_13 (by decide)).2
    have r_15 := (q_subN (lo := 518) (hi := 519) e151 r_14 rl_20 (by decide)).2
    refine q_nald (pc := 152) hG dX12_count_152 hI T141 (q_ix r_15 (by decide)) (fun v152 f152 => ?_)
    refine q_bipush (pc := 153) hG dX12_count_153 kb_100 ?_
    refine q_iadd (pc := 155) hG dX12_count_155 (fun v155 e155 => ?_)
    exact q_irt hG hE dX12_count_156 ⟨rfl, (q_r_any v155)⟩
  intro c112
  have g_16 := p109.2.2.mp (q_one p109.1 c112)
  have r_17 := q_rge (q_r_any x1) rl_10 g_16.1
  refine q_aload_n (pc := 115) hG dX12_count_115 0 rfl ?_
  refine q_getR (pc := 116) (k2 := 100) (n2 := 549) hG fl_X12_7 dX12_count_116 hI tA0 ff_10_0 (fun b116 f116 T116 => ?_)
  refine q_sipush (pc := 119) hG dX12_count_119 ks_516 ?_
  refine q_iload_n (pc := 122) hG dX12_count_122 1 rfl ?_
  refine q_iadd (pc := 123) hG dX12_count_123 (fun v123 e123 => ?_)
  have r_18 := q_rle r_17 rl_11 g_16.2
  refine q_bipush (pc := 124) hG dX12_count_124 kb_10 ?_
  refine q_isub (pc := 126) hG dX12_count_126 (fun v126 e126 => ?_)
  have r_19 := (q_addN (lo := 526) (hi := 527) e123 rl_516 r_18 (by decide)).2
  have r_20 := (q_subN (lo := 516) (hi := 517) e126 r_19 rl_10 (by decide)).2
  refine q_nald (pc := 127) hG dX12_count_127 hI T116 (q_ix r_20 (by decide)) (fun v127 f127 => ?_)
  exact q_irt hG hE dX12_count_128 ⟨rfl, (q_r_any v127)⟩
