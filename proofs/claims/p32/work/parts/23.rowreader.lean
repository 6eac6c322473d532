/-! laid by wip/p2/build.py -/
theorem dX8_peek_0 : decode cX8_peek 0 = .ok (.aload_n 0, 1) := by decide +kernel
theorem dX8_peek_1 : decode cX8_peek 1 = .ok (.getfield 25, 3) := by decide +kernel
theorem dX8_peek_4 : decode cX8_peek 4 = .ok (.ifCond .lt 26, 3) := by decide +kernel
theorem dX8_peek_7 : decode cX8_peek 7 = .ok (.aload_n 0, 1) := by decide +kernel
theorem dX8_peek_8 : decode cX8_peek 8 = .ok (.getfield 25, 3) := by decide +kernel
theorem dX8_peek_11 : decode cX8_peek 11 = .ok (.aload_n 0, 1) := by decide +kernel
theorem dX8_peek_12 : decode cX8_peek 12 = .ok (.getfield 21, 3) := by decide +kernel
theorem dX8_peek_15 : decode cX8_peek 15 = .ok (.if_icmp .ge 15, 3) := by decide +kernel
theorem dX8_peek_18 : decode cX8_peek 18 = .ok (.aload_n 0, 1) := by decide +kernel
theorem dX8_peek_19 : decode cX8_peek 19 = .ok (.getfield 18, 3) := by decide +kernel
theorem dX8_peek_22 : decode cX8_peek 22 = .ok (.aload_n 0, 1) := by decide +kernel
theorem dX8_peek_23 : decode cX8_peek 23 = .ok (.getfield 25, 3) := by decide +kernel
theorem dX8_peek_26 : decode cX8_peek 26 = .ok (.iaload, 1) := by decide +kernel
theorem dX8_peek_27 : decode cX8_peek 27 = .ok (.goto 4, 3) := by decide +kernel
theorem dX8_peek_30 : decode cX8_peek 30 = .ok (.iconst (-1), 1) := by decide +kernel
theorem dX8_peek_31 : decode cX8_peek 31 = .ok (.ireturn, 1) := by decide +kernel
set_option maxRecDepth 100000 in
set_option maxHeartbeats 4000000 in
theorem c_X8_peek {l : Launch} {D : q_D} (τ : q_T) (σ : q_V) (a0 : Nat) (hI : q_I τ σ) (tA0 : τ a0 = some (7, 1)) (at1 : Nat) (ht : σ a0 1 = .ref at1) (Tt : τ at1 = some (110, 260)) : q_Cp l D yX8_peek cX8_peek 1 (some .int) 0 0 τ σ [.ref a0] (fun r => (q_r r (-1) 255) ∧ (r.toInt = f_X8_peek (fx_N σ) a0)) := by
  refine q_meti rfl (Nat.le_of_ble_eq_true rfl) (fun X hG hE => ?_)
  show q_O X 0 0 τ σ 0 [(0, .ref a0)] []
  obtain ⟨Fv, hF⟩ : ∃ z, fx_eq z (f_X8_peek (fx_N σ) a0) := ⟨_, fx_rf⟩
  have hF0 := hF
  unfold f_X8_peek at hF
  replace hF := fx_R hF ht rfl
  refine q_aload_n (pc := 0) hG dX8_peek_0 0 rfl ?_
  refine q_getI (pc := 1) hG fl_X8_25 dX8_peek_1 hI tA0 ff_7_3 (fun v1 f1 g1 => ?_)
  replace hF := fx_I hF f1 rfl
  refine q_if_lt (pc := 4) hG 30 dX8_peek_4 rfl ?_ ?_
  · intro c4
    replace hF := fx_lt1 hF rfl rfl c4
    refine q_iconst (pc := 30) hG dX8_peek_30 ki_m1 ?_
    exact q_irt hG hE dX8_peek_31 ⟨rfl, (q_r.mono rl_m1 (by decide)), (by rw [tl_m1]; exact fx_end hF hF0)⟩
  intro c4
  replace hF := fx_lt2 hF rfl rfl c4
  refine q_aload_n (pc := 7) hG dX8_peek_7 0 rfl ?_
  refine q_getV (pc := 8) (v := .int v1) hG fl_X8_25 dX8_peek_8 tA0 f1 ?_
  refine q_aload_n (pc := 11) hG dX8_peek_11 0 rfl ?_
  refine q_getI (pc := 12) hG fl_X8_21 dX8_peek_12 hI tA0 ff_7_2 (fun v12 f12 g12 => ?_)
  replace hF := fx_I hF f12 rfl
  refine q_icmp_ge (pc := 15) hG 30 dX8_peek_15 rfl ?_ ?_
  · intro c15
    have r_1 := q_zge g1 c4
    replace hF := fx_lt2 hF rfl rfl c15
    refine q_iconst (pc := 30) hG dX8_peek_30 ki_m1 ?_
    exact q_irt hG hE dX8_peek_31 ⟨rfl, (q_r.mono rl_m1 (by decide)), (by rw [tl_m1]; exact fx_end hF hF0)⟩
  intro c15
  have r_2 := q_zge g1 c4
  replace hF := fx_lt1 hF rfl rfl c15
  refine q_aload_n (pc := 18) hG dX8_peek_18 0 rfl ?_
  refine q_getV (pc := 19) (v := .ref at1) hG fl_X8_18 dX8_peek_19 tA0 ht ?_
  refine q_aload_n (pc := 22) hG dX8_peek_22 0 rfl ?_
  refine q_getV (pc := 23) (v := .int v1) hG fl_X8_25 dX8_peek_23 tA0 f1 ?_
  have r_3 := q_rlt r_2 g12 c15 259 (by decide)
  refine q_iald (pc := 26) hG dX8_peek_26 hI ai_110 Tt (q_ix r_3 (by decide)) (fun v26 f26 g26 => ?_)
  replace hF := fx_I hF f26 rfl
  refine q_goto (pc := 27) 31 hG dX8_peek_27 rfl ?_
  exact q_irt hG hE dX8_peek_31 ⟨rfl, (q_r.mono g26 (by decide)), (fx_end hF hF0)⟩
theorem dX8_fail_0 : decode cX8_fail 0 = .ok (.aload_n 0, 1) := by decide +kernel
theorem dX8_fail_1 : decode cX8_fail 1 = .ok (.sipush (-1000), 3) := by decide +kernel
theorem dX8_fail_4 : decode cX8_fail 4 = .ok (.iload_n 1, 1) := by decide +kernel
theorem dX8_fail_5 : decode cX8_fail 5 = .ok (.imul, 1) := by decide +kernel
theorem dX8_fail_6 : decode cX8_fail 6 = .ok (.iload_n 2, 1) := by decide +kernel
theorem dX8_fail_7 : decode cX8_fail 7 = .ok (.isub, 1) := by decide +kernel
theorem dX8_fail_8 : decode cX8_fail 8 = .ok (.putfield 31, 3) := by decide +kernel
theorem dX8_fail_11 : decode cX8_fail 11 = .ok (.iconst 0, 1) := by decide +kernel
theorem dX8_fail_12 : decode cX8_fail 12 = .ok (.ireturn, 1) := by decide +kernel
def md_X8_fail : List (Nat × Nat) := [(7, 5)]
set_option maxRecDepth 100000 in
set_option maxHeartbeats 4000000 in
theorem c_X8_fail {l : Launch} {D : q_D} (τ : q_T) (σ : q_V) (a0 : Nat) (x1 : Int32) (x2 : Int32) (hI : q_I τ σ) (tA0 : τ a0 = some (7, 1)) : q_Ci l D yX8_fail cX8_fail 3 (some .boolean) 0 0 τ σ [.ref a0, .int x1, .int x2] (fun r σ1 => q_S md_X8_fail τ σ σ1 ∧ (q_r r 0 0) ∧ ((r.toInt, fx_N σ1) = f_X8_fail (fx_N σ) a0 x1.toInt x2.toInt)) := by
  refine q_meti rfl (Nat.le_of_ble_eq_true rfl) (fun X hG hE => ?_)
  show q_O X 0 0 τ σ 0 [(0, .ref a0), (1, .int x1), (2, .int x2)] []
  have hS0 : q_S md_X8_fail τ σ σ := q_S.rf hI
  obtain ⟨Fv, hF⟩ : ∃ z, fx_eq z (f_X8_fail (fx_N σ) a0 x1.toInt x2.toInt) := ⟨_, fx_rf⟩
  have hF0 := hF
  unfold f_X8_fail at hF
  refine q_aload_n (pc := 0) hG dX8_fail_0 0 rfl ?_
  refine q_sipush (pc := 1) hG dX8_fail_1 ks_m1000 ?_
  refine q_iload_n (pc := 4) hG dX8_fail_4 1 rfl ?_
  refine q_imul (pc := 5) hG dX8_fail_5 (fun v5 e5 => ?_)
  replace hF := fx_B_mul hF tl_m1000 rfl e5
  refine q_iload_n (pc := 6) hG dX8_fail_6 2 rfl ?_
  refine q_isub (pc := 7) hG dX8_fail_7 (fun v7 e7 => ?_)
  replace hF := fx_B_sub hF rfl rfl e7
  refine q_putI (pc := 8) hG fl_X8_31 dX8_fail_8 hS0 tA0 ff_7_5 (q_r_any v7) (by decide) rfl (fun s8 u8 w8 => ?_)
  replace hF := fx_P hF u8 rfl rfl
  have m8 : s8 a0 5 = .int v7 := by rw [u8]; exact q_up_same
  refine q_iconst (pc := 11) hG dX8_fail_11 ki_0 ?_
  exact q_zrt hG hE dX8_fail_12 (q_r.mono rl_0 (by decide)) ⟨w8, rl_0, (by rw [tl_0]; exact fx_end hF hF0)⟩
theorem dX8_sumOfAmounts_0 : decode cX8_sumOfAmounts 0 = .ok (.iconst 0, 1) := by decide +kernel
theorem dX8_sumOfAmounts_1 : decode cX8_sumOfAmounts 1 = .ok (.istore_n 1, 1) := by decide +kernel
theorem dX8_sumOfAmounts_2 : decode cX8_sumOfAmounts 2 = .ok (.iconst 0, 1) := by decide +kernel
theorem dX8_sumOfAmounts_3 : decode cX8_sumOfAmounts 3 = .ok (.istore_n 2, 1) := by decide +kernel
theorem dX8_sumOfAmounts_4 : decode cX8_sumOfAmounts 4 = .ok (.iload_n 2, 1) := by decide +kernel
theorem dX8_sumOfAmounts_5 : decode cX8_sumOfAmounts 5 = .ok (.aload_n 0, 1) := by decide +kernel
theorem dX8_sumOfAmounts_6 : decode cX8_sumOfAmounts 6 = .ok (.getfield 28, 3) := by decide +kernel
theorem dX8_sumOfAmounts_9 : decode cX8_sumOfAmounts 9 = .ok (.if_icmp .ge 21, 3) := by decide +kernel
theorem dX8_sumOfAmounts_12 : decode cX8_sumOfAmounts 12 = .ok (.iload_n 1, 1) := by decide +kernel
theorem dX8_sumOfAmounts_13 : decode cX8_sumOfAmounts 13 = .ok (.aload_n 0, 1) := by decide +kernel
theorem dX8_sumOfAmounts_14 : decode cX8_sumOfAmounts 14 = .ok (.getfield 9, 3) := by decide +kernel
theorem dX8_sumOfAmounts_17 : decode cX8_sumOfAmounts 17 = .ok (.iload_n 2, 1) := by decide +kernel
theorem dX8_sumOfAmounts_18 : decode cX8_sumOfAmounts 18 = .ok (.iaload, 1) := by decide +kernel
theorem dX8_sumOfAmounts_19 : decode cX8_sumOfAmounts 19 = .ok (.invokestatic 65, 3) := by decide +kernel
theorem dX8_sumOfAmounts_22 : decode cX8_sumOfAmounts 22 = .ok (.iadd, 1) := by decide +kernel
theorem dX8_sumOfAmounts_23 : decode cX8_sumOfAmounts 23 = .ok (.istore_n 1, 1) := by decide +kernel
theorem dX8_sumOfAmounts_24 : decode cX8_sumOfAmounts 24 = .ok (.iinc 2 1, 3) := by decide +kernel
theorem dX8_sumOfAmounts_27 : decode cX8_sumOfAmounts 27 = .ok (.goto (-23), 3) := by decide +kernel
theorem dX8_sumOfAmounts_30 : decode cX8_sumOfAmounts 30 = .ok (.iload_n 1, 1) := by decide +kernel
theorem dX8_sumOfAmounts_31 : decode cX8_sumOfAmounts 31 = .ok (.ireturn, 1) := by decide +kernel
set_option maxRecDepth 100000 in
set_option maxHeartbeats 4000000 in
theorem c_X8_sumOfAmounts {l : Launch} {D : q_D} (τ : q_T) (σ : q_V) (a0 : Nat) (hI : q_I τ σ) (tA0 : τ a0 = some (7, 1)) : q_Cp l D yX8_sumOfAmounts cX8_sumOfAmounts 3 (some .int) 1 20 τ σ [.ref a0] (fun r => (q_r r (-2147483648) 2147483647) ∧ (r.toInt = f_X8_sumOfAmounts (fx_N σ) a0)) := by
  refine q_meti rfl (Nat.le_of_ble_eq_true rfl) (fun X hG hE => ?_)
  show q_O X 0 0 τ σ 0 [(0, .ref a0)] []
  obtain ⟨Fv, hF⟩ : ∃ z, fx_eq z (f_X8_sumOfAmounts (fx_N σ) a0) := ⟨_, fx_rf⟩
  have hF0 := hF
  unfold f_X8_sumOfAmounts at hF
  refine q_iconst (pc := 0) hG dX8_sumOfAmounts_0 ki_0 ?_
  refine q_istore_n (pc := 1) [(1, .int 0), (0, .ref a0)] hG dX8_sumOfAmounts_1 (by decide) rfl ?_
  refine q_iconst (pc := 2) hG dX8_sumOfAmounts_2 ki_0 ?_
  refine q_istore_n (pc := 3) [(2, .int 0), (1, .int 0), (0, .ref a0)] hG dX8_sumOfAmounts_3 (by decide) rfl ?_
  have J4 : ∀ (n4 : Nat) (p4_1 : Int32) (p4_2 : Int32), (q_r p4_2 0 64) → (fx_eq Fv (kL_X8_sumOfAmounts_4 (fx_N σ) a0 n4 p4_1.toInt p4_2.toInt)) → ((64 - p4_2.toInt).toNat < n4) → q_O X 0 0 τ σ 4 [(0, .ref a0), (1, .int p4_1), (2, .int p4_2)] [] := by
    intro n4
    induction n4 with
    | zero => intro p4_1 p4_2 r4_2 hF hm4; exact absurd hm4 (Nat.not_lt_zero _)
    | succ n4 ih4 =>
      intro p4_1 p4_2 r4_2 hF hm4
      replace hF := (show fx_eq Fv (kB_X8_sumOfAmounts_4 (kL_X8_sumOfAmounts_4 (fx_N σ) a0 n4) (fx_N σ) a0 p4_1.toInt p4_2.toInt) from hF)
      unfold kB_X8_sumOfAmounts_4 at hF
      refine q_iload_n (pc := 4) hG dX8_sumOfAmounts_4 2 rfl ?_
      refine q_aload_n (pc := 5) hG dX8_sumOfAmounts_5 0 rfl ?_
      refine q_getI (pc := 6) hG fl_X8_28 dX8_sumOfAmounts_6 hI tA0 ff_7_4 (fun v6 f6 g6 => ?_)
      replace hF := fx_I hF f6 rfl
      refine q_icmp_ge (pc := 9) hG 30 dX8_sumOfAmounts_9 rfl ?_ ?_
      · intro c9
        replace hF := fx_lt2 hF rfl rfl c9
        refine q_iload_n (pc := 30) hG dX8_sumOfAmounts_30 1 rfl ?_
        exact q_irt hG hE dX8_sumOfAmounts_31 ⟨rfl, (q_r_any p4_1), (fx_end hF hF0)⟩
      intro c9
      replace hF := fx_lt1 hF rfl rfl c9
      refine q_iload_n (pc := 12) hG dX8_sumOfAmounts_12 1 rfl ?_
      refine q_aload_n (pc := 13) hG dX8_sumOfAmounts_13 0 rfl ?_
      refine q_getR (pc := 14) (k2 := 111) (n2 := 64) hG fl_X8_9 dX8_sumOfAmounts_14 hI tA0 ff_7_0 (fun b14 f14 T14 => ?_)
      replace hF := fx_R hF f14 rfl
      refine q_iload_n (pc := 17) hG dX8_sumOfAmounts_17 2 rfl ?_
      have r_1 := q_rlt r4_2 g6 c9 63 (by decide)
      refine q_iald (pc := 18) hG dX8_sumOfAmounts_18 hI ai_111 T14 (q_ix r_1 (by decide)) (fun v18 f18 g18 => ?_)
      replace hF := fx_I hF f18 rfl
      refine q_pS (pc := 19) [.int v18] [.int p4_1] hG (c_J9_abs_0f7a4 τ σ v18 hI) my_J9_abs_0f7a4 w271 w270 dX8_sumOfAmounts_19 rfl rfl (Nat.le_of_ble_eq_true rfl) (by decide) (fun v19 p19 => ?_)
      replace hF := fx_E hF p19.2.1
      refine q_iadd (pc := 22) hG dX8_sumOfAmounts_22 (fun v22 e22 => ?_)
      replace hF := fx_B_add hF rfl rfl e22
      refine q_istore_n (pc := 23) [(1, .int v22), (0, .ref a0), (2, .int p4_2)] hG dX8_sumOfAmounts_23 (by decide) rfl ?_
      obtain ⟨v24, e24⟩ : ∃ z : Int32, z = p4_2 + Int32.ofInt 1 := ⟨_, rfl⟩
      have h24 := q_incN (lo := 1) (hi := 64) r_1 (by decide) (by decide) e24
      replace hF := fx_add hF rfl rfl h24.1
      refine q_iinc (pc := 24) [(2, .int v24), (1, .int v22), (0, .ref a0)] hG dX8_sumOfAmounts_24 2 rfl e24 (by decide) rfl ?_
      refine q_goto (pc := 27) 4 hG dX8_sumOfAmounts_27 rfl ?_
      refine q_lv [2, 1, 0] rfl ?_
      have r_2 := q_rgt g6 r4_2 c9 1 (by decide)
      exact ih4 v22 v24 (q_r.mono h24.2 (by decide)) hF (q_measU hm4 (by have o0 := c9; have o1 := h24.1; have o2 := r_1; have o3 := h24.2; have o4 := r_2; unfold q_r at o2 o3 o4; omega) (h24.2).2)
  refine q_lv [2, 1, 0] rfl ?_
  exact J4 ((64 - (0 : Int32).toInt).toNat + 1) 0 0 (q_r.mono rl_0 (by decide)) (by rw [tl_0]; exact hF) (Nat.lt_succ_self _)
theorem dX8_readNumber_0 : decode cX8_readNumber 0 = .ok (.iconst (-1), 1) := by decide +kernel
theorem dX8_readNumber_1 : decode cX8_readNumber 1 = .ok (.istore_n 1, 1) := by decide +kernel
theorem dX8_readNumber_2 : decode cX8_readNumber 2 = .ok (.iconst 0, 1) := by decide +kernel
theorem dX8_readNumber_3 : decode cX8_readNumber 3 = .ok (.istore_n 2, 1) := by decide +kernel
theorem dX8_readNumber_4 : decode cX8_readNumber 4 = .ok (.iload_n 2, 1) := by decide +kernel
theorem dX8_readNumber_5 : decode cX8_readNumber 5 = .ok (.iconst 2, 1) := by decide +kernel
theorem dX8_readNumber_6 : decode cX8_readNumber 6 = .ok (.if_icmp .ge 50, 3) := by decide +kernel
theorem dX8_readNumber_9 : decode cX8_readNumber 9 = .ok (.aload_n 0, 1) := by decide +kernel
theorem dX8_readNumber_10 : decode cX8_readNumber 10 = .ok (.invokevirtual 44, 3) := by decide +kernel
theorem dX8_readNumber_13 : decode cX8_readNumber 13 = .ok (.bipush 48, 2) := by decide +kernel
theorem dX8_readNumber_15 : decode cX8_readNumber 15 = .ok (.bipush 57, 2) := by decide +kernel
theorem dX8_readNumber_17 : decode cX8_readNumber 17 = .ok (.invokestatic 58, 3) := by decide +kernel
theorem dX8_readNumber_20 : decode cX8_readNumber 20 = .ok (.ifCond .eq 36, 3) := by decide +kernel
theorem dX8_readNumber_23 : decode cX8_readNumber 23 = .ok (.iconst 0, 1) := by decide +kernel
theorem dX8_readNumber_24 : decode cX8_readNumber 24 = .ok (.iload_n 1, 1) := by decide +kernel
theorem dX8_readNumber_25 : decode cX8_readNumber 25 = .ok (.invokestatic 62, 3) := by decide +kernel
theorem dX8_readNumber_28 : decode cX8_readNumber 28 = .ok (.bipush 10, 2) := by decide +kernel
theorem dX8_readNumber_30 : decode cX8_readNumber 30 = .ok (.imul, 1) := by decide +kernel
theorem dX8_readNumber_31 : decode cX8_readNumber 31 = .ok (.aload_n 0, 1) := by decide +kernel
theorem dX8_readNumber_32 : decode cX8_readNumber 32 = .ok (.invokevirtual 44, 3) := by decide +kernel
theorem dX8_readNumber_35 : decode cX8_readNumber 35 = .ok (.iadd, 1) := by decide +kernel
theorem dX8_readNumber_36 : decode cX8_readNumber 36 = .ok (.bipush 48, 2) := by decide +kernel
theorem dX8_readNumber_38 : decode cX8_readNumber 38 = .ok (.isub, 1) := by decide +kernel
theorem dX8_readNumber_39 : decode cX8_readNumber 39 = .ok (.istore_n 1, 1) := by decide +kernel
theorem dX8_readNumber_40 : decode cX8_readNumber 40 = .ok (.aload_n 0, 1) := by decide +kernel
theorem dX8_readNumber_41 : decode cX8_readNumber 41 = .ok (.dup, 1) := by decide +kernel
theorem dX8_readNumber_42 : decode cX8_readNumber 42 = .ok (.getfield 25, 3) := by decide +kernel
theorem dX8_readNumber_45 : decode cX8_readNumber 45 = .ok (.iconst 1, 1) := by decide +kernel
theorem dX8_readNumber_46 : decode cX8_readNumber 46 = .ok (.iadd, 1) := by decide +kernel
theorem dX8_readNumber_47 : decode cX8_readNumber 47 = .ok (.putfield 25, 3) := by decide +kernel
theorem dX8_readNumber_50 : decode cX8_readNumber 50 = .ok (.iinc 2 1, 3) := by decide +kernel
theorem dX8_readNumber_53 : decode cX8_readNumber 53 = .ok (.goto (-49), 3) := by decide +kernel
theorem dX8_readNumber_56 : decode cX8_readNumber 56 = .ok (.iload_n 1, 1) := by decide +kernel
theorem dX8_readNumber_57 : decode cX8_readNumber 57 = .ok (.ireturn, 1) := by decide +kernel
def md_X8_readNumber : List (Nat × Nat) := [(7, 3)]
set_option maxRecDepth 100000 in
set_option maxHeartbeats 4000000 in
theorem c_X8_readNumber {l : Launch} {D : q_D} (τ : q_T) (σ : q_V) (a0 : Nat) (hI : q_I τ σ) (tA0 : τ a0 = some (7, 1)) (at1 : Nat) (ht : σ a0 1 = .ref at1) (Tt : τ at1 = some (110, 260)) : q_Ci l D yX8_readNumber cX8_readNumber 3 (some .int) 1 22 τ σ [.ref a0] (fun r σ1 => q_S md_X8_readNumber τ σ σ1 ∧ (q_r r (-2147483648) 2147483647) ∧ ((r.toInt, fx_N σ1) = f_X8_readNumber (fx_N σ) a0)) := by
  refine q_meti rfl (Nat.le_of_ble_eq_true rfl) (fun X hG hE => ?_)
  show q_O X 0 0 τ σ 0 [(0, .ref a0)] []
  have hS0 : q_S md_X8_readNumber τ σ σ := q_S.rf hI
  obtain ⟨Fv, hF⟩ : ∃ z, fx_eq z (f_X8_readNumber (fx_N σ) a0) := ⟨_, fx_rf⟩
  have hF0 := hF
  unfold f_X8_readNumber at hF
  replace hF := fx_R hF ht rfl
  refine q_iconst (pc := 0) hG dX8_readNumber_0 ki_m1 ?_
  refine q_istore_n (pc := 1) [(1, .int (-1)), (0, .ref a0)] hG dX8_readNumber_1 (by decide) rfl ?_
  refine q_iconst (pc := 2) hG dX8_readNumber_2 ki_0 ?_
  refine q_istore_n (pc := 3) [(2, .int 0), (1, .int (-1)), (0, .ref a0)] hG dX8_readNumber_3 (by decide) rfl ?_
  have J4 : ∀ (n4 : Nat) (p4_1 : Int32) (p4_2 : Int32) (σ4 : q_V), (q_r p4_2 0 2) → (q_S md_X8_readNumber τ σ σ4) → (fx_eq Fv (kL_X8_readNumber_4 a0 n4 p4_1.toInt p4_2.toInt (fx_N σ4))) → ((2 - p4_2.toInt).toNat < n4) → q_O X 0 0 τ σ4 4 [(0, .ref a0), (1, .int p4_1), (2, .int p4_2)] [] := by
    intro n4
    induction n4 with
    | zero => intro p4_1 p4_2 σ4 r4_2 hS4 hF hm4; exact absurd hm4 (Nat.not_lt_zero _)
    | succ n4 ih4 =>
      intro p4_1 p4_2 σ4 r4_2 hS4 hF hm4
      replace hF := (show fx_eq Fv (kB_X8_readNumber_4 (kL_X8_readNumber_4 a0 n4) a0 p4_1.toInt p4_2.toInt (fx_N σ4)) from hF)
      unfold kB_X8_readNumber_4 at hF
      refine q_iload_n (pc := 4) hG dX8_readNumber_4 2 rfl ?_
      refine q_iconst (pc := 5) hG dX8_readNumber_5 ki_2 ?_
      refine q_icmp_ge (pc := 6) hG 56 dX8_readNumber_6 rfl ?_ ?_
      · intro c6
        replace hF := fx_lt2 hF rfl tl_2 c6
        refine q_iload_n (pc := 56) hG dX8_readNumber_56 1 rfl ?_
        exact q_irt hG hE dX8_readNumber_57 ⟨hS4, (q_r_any p4_1), (fx_end hF hF0)⟩
      intro c6
      replace hF := fx_lt1 hF rfl tl_2 c6
      refine q_aload_n (pc := 9) hG dX8_readNumber_9 0 rfl ?_
      refine q_pV (pc := 10) [] [] hG (c_X8_peek τ σ4 a0 hS4.1 tA0 at1 (hS4.same tA0 rfl ht) Tt) my_X8_peek mv_X8_peek w255 dX8_readNumber_10 tA0 (by decide) rfl rfl (Nat.le_of_ble_eq_true rfl) (by decide) (fun v10 p10 => ?_)
      replace hF := fx_E hF p10.2
      refine q_bipush (pc := 13) hG dX8_readNumber_13 kb_48 ?_
      refine q_bipush (pc := 15) hG dX8_readNumber_15 kb_57 ?_
      refine q_pN (pc := 17) [.int v10, .int 48, .int 57] [] hG (c_X11_isIn τ σ4 v10 48 57 hS4.1) my_X11_isIn w238 nw_11 dX8_readNumber_17 rfl rfl (Nat.le_of_ble_eq_true rfl) (by decide) (fun v17 p17 => ?_)
      have fq17 := p17.2.1
      rewrite [tl_48, tl_57] at fq17
      replace hF := fx_E hF fq17
      refine q_if_eq (pc := 20) hG 56 dX8_readNumber_20 rfl ?_ ?_
      · intro c20
        replace hF := fx_eq1 hF rfl rfl c20
        refine q_iload_n (pc := 56) hG dX8_readNumber_56 1 rfl ?_
        exact q_irt hG hE dX8_readNumber_57 ⟨hS4, (q_r_any p4_1), (fx_end hF hF0)⟩
      intro c20
      have g_1 := p17.2.2.mp (q_one p17.1 c20)
      have r_2 := q_rge p10.1 rl_48 g_1.1
      replace hF := fx_eq2 hF rfl rfl c20
      refine q_iconst (pc := 23) hG dX8_readNumber_23 ki_0 ?_
      refine q_iload_n (pc := 24) hG dX8_readNumber_24 1 rfl ?_
      refine q_pS (pc := 25) [.int 0, .int p4_1] [] hG (c_J9_max_7cf53 τ σ4 0 p4_1 hS4.1) my_J9_max_7cf53 w262 w261 dX8_readNumber_25 rfl rfl (Nat.le_of_ble_eq_true rfl) (by decide) (fun v25 p25 => ?_)
      have fq25 := p25.2.1
      rewrite [tl_0] at fq25
      replace hF := fx_E hF fq25
      refine q_bipush (pc := 28) hG dX8_readNumber_28 kb_10 ?_
      refine q_imul (pc := 30) hG dX8_readNumber_30 (fun v30 e30 => ?_)
      replace hF := fx_B_mul hF rfl tl_10 e30
      refine q_aload_n (pc := 31) hG dX8_readNumber_31 0 rfl ?_
      refine q_pV (pc := 32) [] [.int v30] hG (c_X8_peek τ σ4 a0 hS4.1 tA0 at1 (hS4.same tA0 rfl ht) Tt) my_X8_peek mv_X8_peek w255 dX8_readNumber_32 tA0 (by decide) rfl rfl (Nat.le_of_ble_eq_true rfl) (by decide) (fun v32 p32 => ?_)
      replace hF := fx_E hF p32.2
      refine q_iadd (pc := 35) hG dX8_readNumber_35 (fun v35 e35 => ?_)
      replace hF := fx_B_add hF rfl rfl e35
      refine q_bipush (pc := 36) hG dX8_readNumber_36 kb_48 ?_
      refine q_isub (pc := 38) hG dX8_readNumber_38 (fun v38 e38 => ?_)
      replace hF := fx_B_sub hF rfl tl_48 e38
      refine q_istore_n (pc := 39) [(1, .int v38), (0, .ref a0), (2, .int p4_2)] hG dX8_readNumber_39 (by decide) rfl ?_
      refine q_aload_n (pc := 40) hG dX8_readNumber_40 1 rfl ?_
      refine q_dup (pc := 41) hG dX8_readNumber_41 rfl ?_
      refine q_getI (pc := 42) hG fl_X8_25 dX8_readNumber_42 hS4.1 tA0 ff_7_3 (fun v42 f42 g42 => ?_)
      replace hF := fx_I hF f42 rfl
      refine q_iconst (pc := 45) hG dX8_readNumber_45 ki_1 ?_
      refine q_iadd (pc := 46) hG dX8_readNumber_46 (fun v46 e46 => ?_)
      replace hF := fx_B_add hF rfl tl_1 e46
      refine q_putI (pc := 47) hG fl_X8_25 dX8_readNumber_47 hS4 tA0 ff_7_3 (q_r_any v46) (by decide) rfl (fun s47 u47 w47 => ?_)
      replace hF := fx_P hF u47 rfl rfl
      have m47 : s47 a0 3 = .int v46 := by rw [u47]; exact q_up_same
      obtain ⟨v50, e50⟩ : ∃ z : Int32, z = p4_2 + Int32.ofInt 1 := ⟨_, rfl⟩
      have r_3 := q_rlt r4_2 rl_2 c6 1 (by decide)
      have h50 := q_incN (lo := 1) (hi := 2) r_3 (by decide) (by decide) e50
      replace hF := fx_add hF rfl rfl h50.1
      refine q_iinc (pc := 50) [(2, .int v50), (1, .int v38), (0, .ref a0)] hG dX8_readNumber_50 2 rfl e50 (by decide) rfl ?_
      refine q_goto (pc := 53) 4 hG dX8_readNumber_53 rfl ?_
      refine q_lv [2, 1, 0] rfl ?_
      exact ih4 v38 v50 s47 (q_r.mono h50.2 (by decide)) w47 hF (q_measU hm4 (by have o0 := c6; have o1 := h50.1; have o2 := r_3; have o3 := h50.2; have l4 := tl_2; unfold q_r at o2 o3; omega) (h50.2).2)
  refine q_lv [2, 1, 0] rfl ?_
  exact J4 ((2 - (0 : Int32).toInt).toNat + 1) (-1) 0 σ (q_r.mono rl_0 (by decide)) hS0 (by rw [tl_m1, tl_0]; exact hF) (Nat.lt_succ_self _)
theorem dX8_readValue_0 : decode cX8_readValue 0 = .ok (.aload_n 0, 1) := by decide +kernel
theorem dX8_readValue_1 : decode cX8_readValue 1 = .ok (.getfield 25, 3) := by decide +kernel
theorem dX8_readValue_4 : decode cX8_readValue 4 = .ok (.istore_n 3, 1) := by decide +kernel
theorem dX8_readValue_5 : decode cX8_readValue 5 = .ok (.iload_n 2, 1) := by decide +kernel
theorem dX8_readValue_6 : decode cX8_readValue 6 = .ok (.ifCond .eq 16, 3) := by decide +kernel
theorem dX8_readValue_9 : decode cX8_readValue 9 = .ok (.aload_n 0, 1) := by decide +kernel
theorem dX8_readValue_10 : decode cX8_readValue 10 = .ok (.invokevirtual 44, 3) := by decide +kernel
theorem dX8_readValue_13 : decode cX8_readValue 13 = .ok (.bipush 45, 2) := by decide +kernel
theorem dX8_readValue_15 : decode cX8_readValue 15 = .ok (.if_icmp .ne 7, 3) := by decide +kernel
theorem dX8_readValue_18 : decode cX8_readValue 18 = .ok (.iconst 1, 1) := by decide +kernel
theorem dX8_readValue_19 : decode cX8_readValue 19 = .ok (.goto 4, 3) := by decide +kernel
theorem dX8_readValue_22 : decode cX8_readValue 22 = .ok (.iconst 0, 1) := by decide +kernel
theorem dX8_readValue_23 : decode cX8_readValue 23 = .ok (.istore 4, 2) := by decide +kernel
theorem dX8_readValue_25 : decode cX8_readValue 25 = .ok (.aload_n 0, 1) := by decide +kernel
theorem dX8_readValue_26 : decode cX8_readValue 26 = .ok (.dup, 1) := by decide +kernel
theorem dX8_readValue_27 : decode cX8_readValue 27 = .ok (.getfield 25, 3) := by decide +kernel
theorem dX8_readValue_30 : decode cX8_readValue 30 = .ok (.iload 4, 2) := by decide +kernel
theorem dX8_readValue_32 : decode cX8_readValue 32 = .ok (.ifCond .eq 7, 3) := by decide +kernel
theorem dX8_readValue_35 : decode cX8_readValue 35 = .ok (.iconst 1, 1) := by decide +kernel
theorem dX8_readValue_36 : decode cX8_readValue 36 = .ok (.goto 4, 3) := by decide +kernel
theorem dX8_readValue_39 : decode cX8_readValue 39 = .ok (.iconst 0, 1) := by decide +kernel
theorem dX8_readValue_40 : decode cX8_readValue 40 = .ok (.iadd, 1) := by decide +kernel
theorem dX8_readValue_41 : decode cX8_readValue 41 = .ok (.putfield 25, 3) := by decide +kernel
theorem dX8_readValue_44 : decode cX8_readValue 44 = .ok (.aload_n 0, 1) := by decide +kernel
theorem dX8_readValue_45 : decode cX8_readValue 45 = .ok (.getfield 25, 3) := by decide +kernel
theorem dX8_readValue_48 : decode cX8_readValue 48 = .ok (.istore 5, 2) := by decide +kernel
theorem dX8_readValue_50 : decode cX8_readValue 50 = .ok (.aload_n 0, 1) := by decide +kernel
theorem dX8_readValue_51 : decode cX8_readValue 51 = .ok (.invokevirtual 55, 3) := by decide +kernel
theorem dX8_readValue_54 : decode cX8_readValue 54 = .ok (.istore 6, 2) := by decide +kernel
theorem dX8_readValue_56 : decode cX8_readValue 56 = .ok (.iload 6, 2) := by decide +kernel
theorem dX8_readValue_58 : decode cX8_readValue 58 = .ok (.ifCond .ge 13, 3) := by decide +kernel
theorem dX8_readValue_61 : decode cX8_readValue 61 = .ok (.aload_n 0, 1) := by decide +kernel
theorem dX8_readValue_62 : decode cX8_readValue 62 = .ok (.iconst 1, 1) := by decide +kernel
theorem dX8_readValue_63 : decode cX8_readValue 63 = .ok (.aload_n 0, 1) := by decide +kernel
theorem dX8_readValue_64 : decode cX8_readValue 64 = .ok (.getfield 25, 3) := by decide +kernel
theorem dX8_readValue_67 : decode cX8_readValue 67 = .ok (.invokevirtual 48, 3) := by decide +kernel
theorem dX8_readValue_70 : decode cX8_readValue 70 = .ok (.ireturn, 1) := by decide +kernel
theorem dX8_readValue_71 : decode cX8_readValue 71 = .ok (.iload 4, 2) := by decide +kernel
theorem dX8_readValue_73 : decode cX8_readValue 73 = .ok (.ifCond .eq 16, 3) := by decide +kernel
theorem dX8_readValue_76 : decode cX8_readValue 76 = .ok (.iload 6, 2) := by decide +kernel
theorem dX8_readValue_78 : decode cX8_readValue 78 = .ok (.ifCond .ne 11, 3) := by decide +kernel
theorem dX8_readValue_81 : decode cX8_readValue 81 = .ok (.aload_n 0, 1) := by decide +kernel
theorem dX8_readValue_82 : decode cX8_readValue 82 = .ok (.iconst 1, 1) := by decide +kernel
theorem dX8_readValue_83 : decode cX8_readValue 83 = .ok (.iload 5, 2) := by decide +kernel
theorem dX8_readValue_85 : decode cX8_readValue 85 = .ok (.invokevirtual 48, 3) := by decide +kernel
theorem dX8_readValue_88 : decode cX8_readValue 88 = .ok (.ireturn, 1) := by decide +kernel
theorem dX8_readValue_89 : decode cX8_readValue 89 = .ok (.iconst 1, 1) := by decide +kernel
theorem dX8_readValue_90 : decode cX8_readValue 90 = .ok (.istore 7, 2) := by decide +kernel
theorem dX8_readValue_92 : decode cX8_readValue 92 = .ok (.aload_n 0, 1) := by decide +kernel
theorem dX8_readValue_93 : decode cX8_readValue 93 = .ok (.invokevirtual 44, 3) := by decide +kernel
theorem dX8_readValue_96 : decode cX8_readValue 96 = .ok (.bipush 42, 2) := by decide +kernel
theorem dX8_readValue_98 : decode cX8_readValue 98 = .ok (.if_icmp .ne 59, 3) := by decide +kernel
theorem dX8_readValue_101 : decode cX8_readValue 101 = .ok (.aload_n 0, 1) := by decide +kernel
theorem dX8_readValue_102 : decode cX8_readValue 102 = .ok (.dup, 1) := by decide +kernel
theorem dX8_readValue_103 : decode cX8_readValue 103 = .ok (.getfield 25, 3) := by decide +kernel
theorem dX8_readValue_106 : decode cX8_readValue 106 = .ok (.iconst 1, 1) := by decide +kernel
theorem dX8_readValue_107 : decode cX8_readValue 107 = .ok (.iadd, 1) := by decide +kernel
theorem dX8_readValue_108 : decode cX8_readValue 108 = .ok (.putfield 25, 3) := by decide +kernel
theorem dX8_readValue_111 : decode cX8_readValue 111 = .ok (.aload_n 0, 1) := by decide +kernel
theorem dX8_readValue_112 : decode cX8_readValue 112 = .ok (.getfield 25, 3) := by decide +kernel
theorem dX8_readValue_115 : decode cX8_readValue 115 = .ok (.istore 5, 2) := by decide +kernel
theorem dX8_readValue_117 : decode cX8_readValue 117 = .ok (.aload_n 0, 1) := by decide +kernel
theorem dX8_readValue_118 : decode cX8_readValue 118 = .ok (.invokevirtual 55, 3) := by decide +kernel
theorem dX8_readValue_121 : decode cX8_readValue 121 = .ok (.istore 7, 2) := by decide +kernel
theorem dX8_readValue_123 : decode cX8_readValue 123 = .ok (.iload 7, 2) := by decide +kernel
theorem dX8_readValue_125 : decode cX8_readValue 125 = .ok (.ifCond .ge 13, 3) := by decide +kernel
theorem dX8_readValue_128 : decode cX8_readValue 128 = .ok (.aload_n 0, 1) := by decide +kernel
theorem dX8_readValue_129 : decode cX8_readValue 129 = .ok (.iconst 1, 1) := by decide +kernel
theorem dX8_readValue_130 : decode cX8_readValue 130 = .ok (.aload_n 0, 1) := by decide +kernel
theorem dX8_readValue_131 : decode cX8_readValue 131 = .ok (.getfield 25, 3) := by decide +kernel
theorem dX8_readValue_134 : decode cX8_readValue 134 = .ok (.invokevirtual 48, 3) := by decide +kernel
theorem dX8_readValue_137 : decode cX8_readValue 137 = .ok (.ireturn, 1) := by decide +kernel
theorem dX8_readValue_138 : decode cX8_readValue 138 = .ok (.iload 7, 2) := by decide +kernel
theorem dX8_readValue_140 : decode cX8_readValue 140 = .ok (.iconst 2, 1) := by decide +kernel
theorem dX8_readValue_141 : decode cX8_readValue 141 = .ok (.bipush 64, 2) := by decide +kernel
theorem dX8_readValue_143 : decode cX8_readValue 143 = .ok (.invokestatic 58, 3) := by decide +kernel
theorem dX8_readValue_146 : decode cX8_readValue 146 = .ok (.ifCond .ne 11, 3) := by decide +kernel
theorem dX8_readValue_149 : decode cX8_readValue 149 = .ok (.aload_n 0, 1) := by decide +kernel
theorem dX8_readValue_150 : decode cX8_readValue 150 = .ok (.iconst 3, 1) := by decide +kernel
theorem dX8_readValue_151 : decode cX8_readValue 151 = .ok (.iload 5, 2) := by decide +kernel
theorem dX8_readValue_153 : decode cX8_readValue 153 = .ok (.invokevirtual 48, 3) := by decide +kernel
theorem dX8_readValue_156 : decode cX8_readValue 156 = .ok (.ireturn, 1) := by decide +kernel
theorem dX8_readValue_157 : decode cX8_readValue 157 = .ok (.aload_n 0, 1) := by decide +kernel
theorem dX8_readValue_158 : decode cX8_readValue 158 = .ok (.getfield 28, 3) := by decide +kernel
theorem dX8_readValue_161 : decode cX8_readValue 161 = .ok (.iload 7, 2) := by decide +kernel
theorem dX8_readValue_163 : decode cX8_readValue 163 = .ok (.iadd, 1) := by decide +kernel
theorem dX8_readValue_164 : decode cX8_readValue 164 = .ok (.iload_n 1, 1) := by decide +kernel
theorem dX8_readValue_165 : decode cX8_readValue 165 = .ok (.if_icmp .gt 15, 3) := by decide +kernel
theorem dX8_readValue_168 : decode cX8_readValue 168 = .ok (.aload_n 0, 1) := by decide +kernel
theorem dX8_readValue_169 : decode cX8_readValue 169 = .ok (.getfield 28, 3) := by decide +kernel
theorem dX8_readValue_172 : decode cX8_readValue 172 = .ok (.iload 7, 2) := by decide +kernel
theorem dX8_readValue_174 : decode cX8_readValue 174 = .ok (.iadd, 1) := by decide +kernel
theorem dX8_readValue_175 : decode cX8_readValue 175 = .ok (.bipush 64, 2) := by decide +kernel
theorem dX8_readValue_177 : decode cX8_readValue 177 = .ok (.if_icmp .le 11, 3) := by decide +kernel
theorem dX8_readValue_180 : decode cX8_readValue 180 = .ok (.aload_n 0, 1) := by decide +kernel
theorem dX8_readValue_181 : decode cX8_readValue 181 = .ok (.bipush 6, 2) := by decide +kernel
theorem dX8_readValue_183 : decode cX8_readValue 183 = .ok (.iload_n 3, 1) := by decide +kernel
theorem dX8_readValue_184 : decode cX8_readValue 184 = .ok (.invokevirtual 48, 3) := by decide +kernel
theorem dX8_readValue_187 : decode cX8_readValue 187 = .ok (.ireturn, 1) := by decide +kernel
theorem dX8_readValue_188 : decode cX8_readValue 188 = .ok (.iconst 0, 1) := by decide +kernel
theorem dX8_readValue_189 : decode cX8_readValue 189 = .ok (.istore 8, 2) := by decide +kernel
theorem dX8_readValue_191 : decode cX8_readValue 191 = .ok (.iload 8, 2) := by decide +kernel
theorem dX8_readValue_193 : decode cX8_readValue 193 = .ok (.iload 7, 2) := by decide +kernel
theorem dX8_readValue_195 : decode cX8_readValue 195 = .ok (.if_icmp .ge 41, 3) := by decide +kernel
theorem dX8_readValue_198 : decode cX8_readValue 198 = .ok (.aload_n 0, 1) := by decide +kernel
theorem dX8_readValue_199 : decode cX8_readValue 199 = .ok (.getfield 9, 3) := by decide +kernel
theorem dX8_readValue_202 : decode cX8_readValue 202 = .ok (.aload_n 0, 1) := by decide +kernel
theorem dX8_readValue_203 : decode cX8_readValue 203 = .ok (.getfield 28, 3) := by decide +kernel
theorem dX8_readValue_206 : decode cX8_readValue 206 = .ok (.iload 4, 2) := by decide +kernel
theorem dX8_readValue_208 : decode cX8_readValue 208 = .ok (.ifCond .eq 9, 3) := by decide +kernel
theorem dX8_readValue_211 : decode cX8_readValue 211 = .ok (.iload 6, 2) := by decide +kernel
theorem dX8_readValue_213 : decode cX8_readValue 213 = .ok (.ineg, 1) := by decide +kernel
theorem dX8_readValue_214 : decode cX8_readValue 214 = .ok (.goto 5, 3) := by decide +kernel
theorem dX8_readValue_217 : decode cX8_readValue 217 = .ok (.iload 6, 2) := by decide +kernel
theorem dX8_readValue_219 : decode cX8_readValue 219 = .ok (.iastore, 1) := by decide +kernel
theorem dX8_readValue_220 : decode cX8_readValue 220 = .ok (.aload_n 0, 1) := by decide +kernel
theorem dX8_readValue_221 : decode cX8_readValue 221 = .ok (.dup, 1) := by decide +kernel
theorem dX8_readValue_222 : decode cX8_readValue 222 = .ok (.getfield 28, 3) := by decide +kernel
theorem dX8_readValue_225 : decode cX8_readValue 225 = .ok (.iconst 1, 1) := by decide +kernel
theorem dX8_readValue_226 : decode cX8_readValue 226 = .ok (.iadd, 1) := by decide +kernel
theorem dX8_readValue_227 : decode cX8_readValue 227 = .ok (.putfield 28, 3) := by decide +kernel
theorem dX8_readValue_230 : decode cX8_readValue 230 = .ok (.iinc 8 1, 3) := by decide +kernel
theorem dX8_readValue_233 : decode cX8_readValue 233 = .ok (.goto (-42), 3) := by decide +kernel
theorem dX8_readValue_236 : decode cX8_readValue 236 = .ok (.iconst 1, 1) := by decide +kernel
theorem dX8_readValue_237 : decode cX8_readValue 237 = .ok (.ireturn, 1) := by decide +kernel
def md_X8_readValue : List (Nat × Nat) := [(7, 3), (7, 4), (7, 5), (111, 0)]
set_option maxRecDepth 100000 in
set_option maxHeartbeats 4000000 in
theorem c_X8_readValue {l : Launch} {D : q_D} (τ : q_T) (σ : q_V) (a0 : Nat) (x1 : Int32) (x2 : Int32) (hI : q_I τ σ) (tA0 : τ a0 = some (7, 1)) (rA2 : q_r x2 0 1) (at1 : Nat) (ht : σ a0 1 = .ref at1) (Tt : τ at1 = some (110, 260)) : q_Ci l D yX8_readValue cX8_readValue 9 (some .boolean) 2 44 τ σ [.ref a0, .int x1, .int x2] (fun r σ1 => q_S md_X8_readValue τ σ σ1 ∧ (q_r r 0 1) ∧ ((r.toInt, fx_N σ1) = f_X8_readValue (fx_N σ) a0 x1.toInt x2.toInt)) := by
  refine q_meti rfl (Nat.le_of_ble_eq_true rfl) (fun X hG hE => ?_)
  show q_O X 0 0 τ σ 0 [(0, .ref a0), (1, .int x1), (2, .int x2)] []
  have hS0 : q_S md_X8_readValue τ σ σ := q_S.rf hI
  obtain ⟨Fv, hF⟩ : ∃ z, fx_eq z (f_X8_readValue (fx_N σ) a0 x1.toInt x2.toInt) := ⟨_, fx_rf⟩
  have hF0 := hF
  unfold f_X8_readValue at hF
  replace hF := fx_R hF ht rfl
  refine q_aload_n (pc := 0) hG dX8_readValue_0 0 rfl ?_
  refine q_getI (pc := 1) hG fl_X8_25 dX8_readValue_1 hI tA0 ff_7_3 (fun v1 f1 g1 => ?_)
  replace hF := fx_I hF f1 rfl
  refine q_istore_n (pc := 4) [(3, .int v1), (0, .ref a0), (1, .int x1), (2, .int x2)] hG dX8_readValue_4 (by decide) rfl ?_
  refine q_iload_n (pc := 5) hG dX8_readValue_5 3 rfl ?_
  have J23 : ∀ (p23_s0 : Int32), (q_r p23_s0 0 1) → (fx_eq Fv (kJ_X8_readValue_23 v1.toInt (fx_N σ) a0 x1.toInt p23_s0.toInt)) → q_O X 0 0 τ σ 23 [(0, .ref a0), (1, .int x1), (3, .int v1)] [.int p23_s0] := by
    intro p23_s0 r23_s0 hF
    unfold kJ_X8_readValue_23 at hF
    refine q_istore (pc := 23) [(4, .int p23_s0), (0, .ref a0), (1, .int x1), (3, .int v1)] hG dX8_readValue_23 (by decide) rfl ?_
    refine q_aload_n (pc := 25) hG dX8_readValue_25 1 rfl ?_
    refine q_dup (pc := 26) hG dX8_readValue_26 rfl ?_
    refine q_getV (pc := 27) (v := .int v1) hG fl_X8_25 dX8_readValue_27 tA0 f1 ?_
    refine q_iload (pc := 30) hG dX8_readValue_30 0 rfl ?_
    have J40 : ∀ (p40_s0 : Int32), (q_r p40_s0 0 1) → (fx_eq Fv (kJ_X8_readValue_40 v1.toInt (fx_N σ) a0 p23_s0.toInt x1.toInt p40_s0.toInt)) → q_O X 0 0 τ σ 40 [(0, .ref a0), (1, .int x1), (3, .int v1), (4, .int p23_s0)] [.int p40_s0, .int v1, .ref a0] := by
      intro p40_s0 r40_s0 hF
      unfold kJ_X8_readValue_40 at hF
      refine q_iadd (pc := 40) hG dX8_readValue_40 (fun v40 e40 => ?_)
      replace hF := fx_B_add hF rfl rfl e40
      refine q_putI (pc := 41) hG fl_X8_25 dX8_readValue_41 hS0 tA0 ff_7_3 (q_r_any v40) (by decide) rfl (fun s41 u41 w41 => ?_)
      replace hF := fx_P hF u41 rfl rfl
      have m41 : s41 a0 3 = .int v40 := by rw [u41]; exact q_up_same
      refine q_aload_n (pc := 44) hG dX8_readValue_44 0 rfl ?_
      refine q_getV (pc := 45) (v := .int v40) hG fl_X8_25 dX8_readValue_45 tA0 m41 ?_
      refine q_istore (pc := 48) [(5, .int v40), (0, .ref a0), (1, .int x1), (3, .int v1), (4, .int p23_s0)] hG dX8_readValue_48 (by decide) rfl ?_
      refine q_aload_n (pc := 50) hG dX8_readValue_50 1 rfl ?_
      refine q_cVi (pc := 51) [] [] hG (c_X8_readNumber τ s41 a0 w41.1 tA0 at1 (w41.same tA0 rfl ht) Tt) my_X8_readNumber mv_X8_readNumber w258 dX8_readValue_51 tA0 (by decide) rfl rfl (Nat.le_of_ble_eq_true rfl) (by decide) (fun v51 s51 p51 => ?_)
      have w51 := w41.trans p51.1 rfl
      replace hF := fx_C hF p51.2.2
      refine q_istore (pc := 54) [(6, .int v51), (5, .int v40), (0, .ref a0), (1, .int x1), (3, .int v1), (4, .int p23_s0)] hG dX8_readValue_54 (by decide) rfl ?_
      refine q_iload (pc := 56) hG dX8_readValue_56 0 rfl ?_
      refine q_if_ge (pc := 58) hG 71 dX8_readValue_58 rfl ?_ ?_
      · intro c58
        replace hF := fx_lt2 hF rfl rfl c58
        refine q_iload (pc := 71) hG dX8_readValue_71 5 rfl ?_
        have J89 : (fx_eq Fv (kJ_X8_readValue_89 (fx_N s51) a0 x1.toInt v1.toInt p23_s0.toInt v51.toInt)) → q_O X 0 0 τ s51 89 [(0, .ref a0), (1, .int x1), (3, .int v1), (4, .int p23_s0), (6, .int v51)] [] := by
          intro hF
          unfold kJ_X8_readValue_89 at hF
          refine q_iconst (pc := 89) hG dX8_readValue_89 ki_1 ?_
          refine q_istore (pc := 90) [(7, .int 1), (0, .ref a0), (1, .int x1), (3, .int v1), (4, .int p23_s0), (6, .int v51)] hG dX8_readValue_90 (by decide) rfl ?_
          refine q_aload_n (pc := 92) hG dX8_readValue_92 1 rfl ?_
          refine q_pV (pc := 93) [] [] hG (c_X8_peek τ s51 a0 w51.1 tA0 at1 (w51.same tA0 rfl ht) Tt) my_X8_peek mv_X8_peek w255 dX8_readValue_93 tA0 (by decide) rfl rfl (Nat.le_of_ble_eq_true rfl) (by decide) (fun v93 p93 => ?_)
          replace hF := fx_E hF p93.2
          refine q_bipush (pc := 96) hG dX8_readValue_96 kb_42 ?_
          have J157 : ∀ (p157_7 : Int32) (σ157 : q_V), (q_r p157_7 1 64) → (q_S md_X8_readValue τ σ σ157) → (fx_eq Fv (kJ_X8_readValue_157 a0 x1.toInt v1.toInt p23_s0.toInt v51.toInt p157_7.toInt (fx_N σ157))) → q_O X 0 0 τ σ157 157 [(0, .ref a0), (1, .int x1), (3, .int v1), (4, .int p23_s0), (6, .int v51), (7, .int p157_7)] [] := by
            intro p157_7 σ157 r157_7 hS157 hF
            unfold kJ_X8_readValue_157 at hF
            refine q_aload_n (pc := 157) hG dX8_readValue_157 0 rfl ?_
            refine q_getI (pc := 158) hG fl_X8_28 dX8_readValue_158 hS157.1 tA0 ff_7_4 (fun v158 f158 g158 => ?_)
            replace hF := fx_I hF f158 rfl
            refine q_iload (pc := 161) hG dX8_readValue_161 5 rfl ?_
            refine q_iadd (pc := 163) hG dX8_readValue_163 (fun v163 e163 => ?_)
            replace hF := fx_add hF rfl rfl (q_addN (lo := 1) (hi := 128) e163 g158 r157_7 (by decide)).1
            refine q_iload_n (pc := 164) hG dX8_readValue_164 1 rfl ?_
            have J180 : (fx_eq Fv (kJ_X8_readValue_180 (fx_N σ157) a0 v1.toInt)) → q_O X 0 0 τ σ157 180 [(0, .ref a0), (3, .int v1)] [] := by
              intro hF
              unfold kJ_X8_readValue_180 at hF
              refine q_aload_n (pc := 180) hG dX8_readValue_180 0 rfl ?_
              refine q_bipush (pc := 181) hG dX8_readValue_181 kb_6 ?_
              refine q_iload_n (pc := 183) hG dX8_readValue_183 1 rfl ?_
              refine q_cVi (pc := 184) [.int 6, .int v1] [] hG (c_X8_fail τ σ157 a0 6 v1 hS157.1 tA0) my_X8_fail mv_X8_fail w264 dX8_readValue_184 tA0 (by decide) rfl rfl (Nat.le_of_ble_eq_true rfl) (by decide) (fun v184 s184 p184 => ?_)
              have w184 := hS157.trans p184.1 rfl
              have fq184 := p184.2.2
              rewrite [tl_6] at fq184
              replace hF := fx_C hF fq184
              exact q_zrt hG hE dX8_readValue_187 (q_r.mono p184.2.1 (by decide)) ⟨w184, (q_r.mono p184.2.1 (by decide)), (fx_end hF hF0)⟩
            refine q_icmp_gt (pc := 165) hG 180 dX8_readValue_165 rfl ?_ ?_
            · intro c165
              have r_1 := (q_addN (lo := 1) (hi := 128) e163 g158 r157_7 (by decide)).2
              replace hF := fx_lt1 hF rfl rfl c165
              refine q_lv [0, 2] rfl ?_
              exact J180 hF
            intro c165
            have r_2 := (q_addN (lo := 1) (hi := 128) e163 g158 r157_7 (by decide)).2
            replace hF := fx_lt2 hF rfl rfl c165
            refine q_aload_n (pc := 168) hG dX8_readValue_168 0 rfl ?_
            refine q_getV (pc := 169) (v := .int v158) hG fl_X8_28 dX8_readValue_169 tA0 f158 ?_
            refine q_iload (pc := 172) hG dX8_readValue_172 5 rfl ?_
            refine q_iadd (pc := 174) hG dX8_readValue_174 (fun v174 e174 => ?_)
            rw [e174.trans e163.symm]
            refine q_bipush (pc := 175) hG dX8_readValue_175 kb_64 ?_
            refine q_icmp_le (pc := 177) hG 188 dX8_readValue_177 rfl ?_ ?_
            · intro c177
              replace hF := fx_lt2 hF tl_64 rfl c177
              refine q_iconst (pc := 188) hG dX8_readValue_188 ki_0 ?_
              refine q_istore (pc := 189) [(8, .int 0), (0, .ref a0), (1, .int x1), (3, .int v1), (4, .int p23_s0), (6, .int v51), (7, .int p157_7)] hG dX8_readValue_189 (by decide) rfl ?_
              have J191 : ∀ (n191 : Nat) (p191_8 : Int32) (σ191 : q_V) (F191 : Int32), (q_r p191_8 0 64) → (q_S md_X8_readValue τ σ σ191) → (σ191 a0 4 = .int F191 ∧ q_r F191 0 64) → (F191.toInt + p157_7.toInt - p191_8.toInt ≤ 64) → (fx_eq Fv (kL_X8_readValue_191 p157_7.toInt a0 p23_s0.toInt v51.toInt n191 p191_8.toInt (fx_N σ191) F191.toInt)) → ((64 - p191_8.toInt).toNat < n191) → q_O X 0 0 τ σ191 191 [(0, .ref a0), (4, .int p23_s0), (6, .int v51), (7, .int p157_7), (8, .int p191_8)] [] := by
                intro n191
                induction n191 with
                | zero => intro p191_8 σ191 F191 r191_8 hS191 iF191 iR191 hF hm191; exact absurd hm191 (Nat.not_lt_zero _)
                | succ n191 ih191 =>
                  intro p191_8 σ191 F191 r191_8 hS191 iF191 iR191 hF hm191
                  replace hF := (show fx_eq Fv (kB_X8_readValue_191 (kL_X8_readValue_191 p157_7.toInt a0 p23_s0.toInt v51.toInt n191) p157_7.toInt a0 p23_s0.toInt v51.toInt p191_8.toInt (fx_N σ191) F191.toInt) from hF)
                  unfold kB_X8_readValue_191 at hF
                  refine q_iload (pc := 191) hG dX8_readValue_191 4 rfl ?_
                  refine q_iload (pc := 193) hG dX8_readValue_193 3 rfl ?_
                  refine q_icmp_ge (pc := 195) hG 236 dX8_readValue_195 rfl ?_ ?_
                  · intro c195
                    replace hF := fx_lt2 hF rfl rfl c195
                    refine q_iconst (pc := 236) hG dX8_readValue_236 ki_1 ?_
                    exact q_zrt hG hE dX8_readValue_237 (q_r.mono rl_1 (by decide)) ⟨hS191, (q_r.mono rl_1 (by decide)), (by rw [tl_1]; exact fx_end hF hF0)⟩
                  intro c195
                  replace hF := fx_lt1 hF rfl rfl c195
                  refine q_aload_n (pc := 198) hG dX8_readValue_198 0 rfl ?_
                  refine q_getR (pc := 199) (k2 := 111) (n2 := 64) hG fl_X8_9 dX8_readValue_199 hS191.1 tA0 ff_7_0 (fun b199 f199 T199 => ?_)
                  replace hF := fx_R hF f199 rfl
                  have f_3 := (hS191.2 _ _ _ _ tA0 rfl).symm.trans f199
                  refine q_aload_n (pc := 202) hG dX8_readValue_202 0 rfl ?_
                  refine q_getV (pc := 203) (v := .int F191) hG fl_X8_28 dX8_readValue_203 tA0 iF191.1 ?_
                  refine q_iload (pc := 206) hG dX8_readValue_206 1 rfl ?_
                  have J219 : ∀ (p219_s0 : Int32), (q_r p219_s0 (-2147483647) 2147483647) → (fx_eq Fv (kJ_X8_readValue_219 (fx_N σ191) b199 F191.toInt a0 p191_8.toInt (kL_X8_readValue_191 p157_7.toInt a0 p23_s0.toInt v51.toInt n191) p219_s0.toInt)) → q_O X 0 0 τ σ191 219 [(0, .ref a0), (4, .int p23_s0), (6, .int v51), (7, .int p157_7), (8, .int p191_8)] [.int p219_s0, .int F191, .ref b199] := by
                    intro p219_s0 r219_s0 hF
                    unfold kJ_X8_readValue_219 at hF
                    have r_4 := q_rlt r191_8 r157_7 c195 63 (by decide)
                    have r_5 := q_rle r_2 rl_64 c177
                    have r_6 := q_rge (q_r_any x1) r_2 c165
                    refine q_iast (pc := 219) hG dX8_readValue_219 hS191 ai_111 T199 (by have o0 := iR191; have o1 := c195; have o2 := (q_addN (lo := 1) (hi := 128) e163 g158 r157_7 (by decide)).1; have o3 := c165; have o4 := c177; have o5 := iF191.2; have o6 := r157_7; have o7 := r_4; have o8 := g158; have o9 := r_5; have o10 := r_6; have l11 := tl_64; unfold q_r at o5 o6 o7 o8 o9 o10; omega) r219_s0 (by decide) rfl (fun s219 u219 w219 => ?_)
                    replace hF := fx_P hF u219 rfl rfl
                    have m219 : s219 b199 F191.toInt.toNat = .int p219_s0 := by rw [u219]; exact q_up_same
                    refine q_aload_n (pc := 220) hG dX8_readValue_220 0 rfl ?_
                    refine q_dup (pc := 221) hG dX8_readValue_221 rfl ?_
                    refine q_getV (pc := 222) (v := .int F191) hG fl_X8_28 dX8_readValue_222 tA0 (by rw [u219]; exact (q_keepK tA0 T199 (by decide)).trans iF191.1) ?_
                    refine q_iconst (pc := 225) hG dX8_readValue_225 ki_1 ?_
                    refine q_iadd (pc := 226) hG dX8_readValue_226 (fun v226 e226 => ?_)
                    replace hF := fx_add hF rfl tl_1 (q_addN (lo := 1) (hi := 65) e226 iF191.2 rl_1 (by decide)).1
                    have r_7 := (q_addN (lo := 1) (hi := 65) e226 iF191.2 rl_1 (by decide)).2
                    refine q_putI (pc := 227) hG fl_X8_28 dX8_readValue_227 w219 tA0 ff_7_4 (show q_r v226 0 64 from ⟨(by have o0 := (q_addN (lo := 1) (hi := 65) e226 iF191.2 rl_1 (by decide)).1; have o1 := iR191; have o2 := c195; have o3 := (q_addN (lo := 1) (hi := 128) e163 g158 r157_7 (by decide)).1; have o4 := c165; have o5 := c177; have o6 := iF191.2; have o7 := r157_7; have o8 := r_4; have o9 := g158; have o10 := r_5; have o11 := r_7; have o12 := r_6; have l13 := tl_1; have l14 := tl_64; unfold q_r at o6 o7 o8 o9 o10 o11 o12; omega), (by have o0 := (q_addN (lo := 1) (hi := 65) e226 iF191.2 rl_1 (by decide)).1; have o1 := iR191; have o2 := c195; have o3 := (q_addN (lo := 1) (hi := 128) e163 g158 r157_7 (by decide)).1; have o4 := c165; have o5 := c177; have o6 := iF191.2; have o7 := r157_7; have o8 := r_4; have o9 := g158; have o10 := r_5; have o11 := r_7; have o12 := r_6; have l13 := tl_1; have l14 := tl_64; unfold q_r at o6 o7 o8 o9 o10 o11 o12; omega)⟩) (by decide) rfl (fun s227 u227 w227 => ?_)
                    replace hF := fx_P hF u227 rfl rfl
                    have m227 : s227 a0 4 = .int v226 := by rw [u227]; exact q_up_same
                    obtain ⟨v230, e230⟩ : ∃ z : Int32, z = p191_8 + Int32.ofInt 1 := ⟨_, rfl⟩
                    have h230 := q_incN (lo := 1) (hi := 64) r_4 (by decide) (by decide) e230
                    replace hF := fx_add hF rfl rfl h230.1
                    refine q_iinc (pc := 230) [(8, .int v230), (0, .ref a0), (4, .int p23_s0), (6, .int v51), (7, .int p157_7)] hG dX8_readValue_230 4 rfl e230 (by decide) rfl ?_
                    refine q_goto (pc := 233) 191 hG dX8_readValue_233 rfl ?_
                    refine q_lv [1, 2, 3, 4, 0] rfl ?_
                    exact ih191 v230 s227 v226 (q_r.mono h230.2 (by decide)) w227 ⟨m227, (show q_r v226 0 64 from ⟨(by have o0 := (q_addN (lo := 1) (hi := 65) e226 iF191.2 rl_1 (by decide)).1; have o1 := iR191; have o2 := c195; have o3 := h230.1; have o4 := (q_addN (lo := 1) (hi := 128) e163 g158 r157_7 (by decide)).1; have o5 := c165; have o6 := c177; have o7 := iF191.2; have o8 := r157_7; have o9 := r_4; have o10 := g158; have o11 := r_5; have o12 := r_7; have o13 := h230.2; have o14 := r_6; have l15 := tl_1; have l16 := tl_64; unfold q_r at o7 o8 o9 o10 o11 o12 o13 o14; omega), (by have o0 := (q_addN (lo := 1) (hi := 65) e226 iF191.2 rl_1 (by decide)).1; have o1 := iR191; have o2 := c195; have o3 := h230.1; have o4 := (q_addN (lo := 1) (hi := 128) e163 g158 r157_7 (by decide)).1; have o5 := c165; have o6 := c177; have o7 := iF191.2; have o8 := r157_7; have o9 := r_4; have o10 := g158; have o11 := r_5; have o12 := r_7; have o13 := h230.2; have o14 := r_6; have l15 := tl_1; have l16 := tl_64; unfold q_r at o7 o8 o9 o10 o11 o12 o13 o14; omega)⟩)⟩ (by have o0 := (q_addN (lo := 1) (hi := 128) e163 g158 r157_7 (by decide)).1; have o1 := c165; have o2 := c177; have o3 := iR191; have o4 := c195; have o5 := (q_addN (lo := 1) (hi := 65) e226 iF191.2 rl_1 (by decide)).1; have o6 := h230.1; have o7 := iF191.2; have o8 := r157_7; have o9 := r_4; have o10 := g158; have o11 := r_5; have o12 := r_7; have o13 := h230.2; have o14 := r_6; have l15 := tl_1; have l16 := tl_64; unfold q_r at o7 o8 o9 o10 o11 o12 o13 o14; omega) hF (q_measU hm191 (by have o0 := iR191; have o1 := c195; have o2 := (q_addN (lo := 1) (hi := 65) e226 iF191.2 rl_1 (by decide)).1; have o3 := h230.1; have o4 := (q_addN (lo := 1) (hi := 128) e163 g158 r157_7 (by decide)).1; have o5 := c165; have o6 := c177; have o7 := iF191.2; have o8 := r157_7; have o9 := r_4; have o10 := g158; have o11 := r_5; have o12 := r_7; have o13 := h230.2; have o14 := r_6; have l15 := tl_1; have l16 := tl_64; unfold q_r at o7 o8 o9 o10 o11 o12 o13 o14; omega) (h230.2).2)
                  refine q_if_eq (pc := 208) hG 217 dX8_readValue_208 rfl ?_ ?_
                  · intro c208
                    replace hF := fx_eq1 hF rfl rfl c208
                    refine q_iload (pc := 217) hG dX8_readValue_217 2 rfl ?_
                    refine q_lv [0, 1, 2, 3, 4] rfl ?_
                    have r_8 := q_zge p51.2.1 c58
                    exact J219 v51 (q_r.mono r_8 (by decide)) hF
                  intro c208
                  replace hF := fx_eq2 hF rfl rfl c208
                  refine q_iload (pc := 211) hG dX8_readValue_211 2 rfl ?_
                  refine q_ineg (pc := 213) hG dX8_readValue_213 (fun v213 e213 => ?_)
                  have r_9 := q_zge p51.2.1 c58
                  replace hF := fx_neg hF rfl (q_negN (lo := (-2147483647)) (hi := 0) e213 r_9 (by decide)).1
                  refine q_goto (pc := 214) 219 hG dX8_readValue_214 rfl ?_
                  refine q_lv [0, 1, 2, 3, 4] rfl ?_
                  have r_10 := (q_negN (lo := (-2147483647)) (hi := 0) e213 r_9 (by decide)).2
                  exact J219 v213 (q_r.mono r_10 (by decide)) hF
              refine q_lv [1, 4, 5, 6, 0] rfl ?_
              have r_11 := q_rle r_2 rl_64 c177
              have r_12 := q_rge (q_r_any x1) r_2 c165
              exact J191 ((64 - (0 : Int32).toInt).toNat + 1) 0 σ157 v158 (q_r.mono rl_0 (by decide)) hS157 ⟨f158, g158⟩ (by have o0 := (q_addN (lo := 1) (hi := 128) e163 g158 r157_7 (by decide)).1; have o1 := c165; have o2 := c177; have o3 := r157_7; have o4 := g158; have o5 := r_11; have o6 := r_12; have l7 := tl_0; have l8 := tl_64; unfold q_r at o3 o4 o5 o6; omega) (by rw [tl_0]; exact hF) (Nat.lt_succ_self _)
            intro c177
            replace hF := fx_lt1 hF tl_64 rfl c177
            refine q_lv [0, 2] rfl ?_
            exact J180 hF
          refine q_icmp_ne (pc := 98) hG 157 dX8_readValue_98 rfl ?_ ?_
          · intro c98
            replace hF := fx_eq2 hF rfl tl_42 c98
            refine q_lv [1, 2, 3, 4, 5, 0] rfl ?_
            exact J157 1 s51 (q_r.mono rl_1 (by decide)) w51 (by rw [tl_1]; exact hF)
          intro c98
          replace hF := fx_eq1 hF rfl tl_42 c98
          refine q_aload_n (pc := 101) hG dX8_readValue_101 1 rfl ?_
          refine q_dup (pc := 102) hG dX8_readValue_102 rfl ?_
          refine q_getI (pc := 103) hG fl_X8_25 dX8_readValue_103 w51.1 tA0 ff_7_3 (fun v103 f103 g103 => ?_)
          replace hF := fx_I hF f103 rfl
          refine q_iconst (pc := 106) hG dX8_readValue_106 ki_1 ?_
          refine q_iadd (pc := 107) hG dX8_readValue_107 (fun v107 e107 => ?_)
          replace hF := fx_B_add hF rfl tl_1 e107
          refine q_putI (pc := 108) hG fl_X8_25 dX8_readValue_108 w51 tA0 ff_7_3 (q_r_any v107) (by decide) rfl (fun s108 u108 w108 => ?_)
          replace hF := fx_P hF u108 rfl rfl
          have m108 : s108 a0 3 = .int v107 := by rw [u108]; exact q_up_same
          refine q_aload_n (pc := 111) hG dX8_readValue_111 1 rfl ?_
          refine q_getV (pc := 112) (v := .int v107) hG fl_X8_25 dX8_readValue_112 tA0 m108 ?_
          refine q_istore (pc := 115) [(5, .int v107), (7, .int 1), (0, .ref a0), (1, .int x1), (3, .int v1), (4, .int p23_s0), (6, .int v51)] hG dX8_readValue_115 (by decide) rfl ?_
          refine q_aload_n (pc := 117) hG dX8_readValue_117 2 rfl ?_
          refine q_cVi (pc := 118) [] [] hG (c_X8_readNumber τ s108 a0 w108.1 tA0 at1 (w108.same tA0 rfl ht) Tt) my_X8_readNumber mv_X8_readNumber w258 dX8_readValue_118 tA0 (by decide) rfl rfl (Nat.le_of_ble_eq_true rfl) (by decide) (fun v118 s118 p118 => ?_)
          have w118 := w108.trans p118.1 rfl
          replace hF := fx_C hF p118.2.2
          refine q_istore (pc := 121) [(7, .int v118), (5, .int v107), (0, .ref a0), (1, .int x1), (3, .int v1), (4, .int p23_s0), (6, .int v51)] hG dX8_readValue_121 (by decide) rfl ?_
          refine q_iload (pc := 123) hG dX8_readValue_123 0 rfl ?_
          refine q_if_ge (pc := 125) hG 138 dX8_readValue_125 rfl ?_ ?_
          · intro c125
            replace hF := fx_lt2 hF rfl rfl c125
            refine q_iload (pc := 138) hG dX8_readValue_138 0 rfl ?_
            refine q_iconst (pc := 140) hG dX8_readValue_140 ki_2 ?_
            refine q_bipush (pc := 141) hG dX8_readValue_141 kb_64 ?_
            refine q_pN (pc := 143) [.int v118, .int 2, .int 64] [] hG (c_X11_isIn τ s118 v118 2 64 w118.1) my_X11_isIn w238 nw_11 dX8_readValue_143 rfl rfl (Nat.le_of_ble_eq_true rfl) (by decide) (fun v143 p143 => ?_)
            have fq143 := p143.2.1
            rewrite [tl_2, tl_64] at fq143
            replace hF := fx_E hF fq143
            refine q_if_ne (pc := 146) hG 157 dX8_readValue_146 rfl ?_ ?_
            · intro c146
              have g_13 := p143.2.2.mp (q_one p143.1 c146)
              have r_14 := q_zge p118.2.1 c125
              have r_15 := q_rge r_14 rl_2 g_13.1
              replace hF := fx_eq2 hF rfl rfl c146
              refine q_lv [2, 3, 4, 5, 6, 0] rfl ?_
              have r_16 := q_rle r_15 rl_64 g_13.2
              exact J157 v118 s118 (q_r.mono r_16 (by decide)) w118 hF
            intro c146
            replace hF := fx_eq1 hF rfl rfl c146
            refine q_aload_n (pc := 149) hG dX8_readValue_149 2 rfl ?_
            refine q_iconst (pc := 150) hG dX8_readValue_150 ki_3 ?_
            refine q_iload (pc := 151) hG dX8_readValue_151 1 rfl ?_
            refine q_cVi (pc := 153) [.int 3, .int v107] [] hG (c_X8_fail τ s118 a0 3 v107 w118.1 tA0) my_X8_fail mv_X8_fail w264 dX8_readValue_153 tA0 (by decide) rfl rfl (Nat.le_of_ble_eq_true rfl) (by decide) (fun v153 s153 p153 => ?_)
            have w153 := w118.trans p153.1 rfl
            have fq153 := p153.2.2
            rewrite [tl_3] at fq153
            replace hF := fx_C hF fq153
            exact q_zrt hG hE dX8_readValue_156 (q_r.mono p153.2.1 (by decide)) ⟨w153, (q_r.mono p153.2.1 (by decide)), (fx_end hF hF0)⟩
          intro c125
          replace hF := fx_lt1 hF rfl rfl c125
          refine q_aload_n (pc := 128) hG dX8_readValue_128 2 rfl ?_
          refine q_iconst (pc := 129) hG dX8_readValue_129 ki_1 ?_
          refine q_aload_n (pc := 130) hG dX8_readValue_130 2 rfl ?_
          refine q_getI (pc := 131) hG fl_X8_25 dX8_readValue_131 w118.1 tA0 ff_7_3 (fun v131 f131 g131 => ?_)
          replace hF := fx_I hF f131 rfl
          refine q_cVi (pc := 134) [.int 1, .int v131] [] hG (c_X8_fail τ s118 a0 1 v131 w118.1 tA0) my_X8_fail mv_X8_fail w264 dX8_readValue_134 tA0 (by decide) rfl rfl (Nat.le_of_ble_eq_true rfl) (by decide) (fun v134 s134 p134 => ?_)
          have w134 := w118.trans p134.1 rfl
          have fq134 := p134.2.2
          rewrite [tl_1] at fq134
          replace hF := fx_C hF fq134
          exact q_zrt hG hE dX8_readValue_137 (q_r.mono p134.2.1 (by decide)) ⟨w134, (q_r.mono p134.2.1 (by decide)), (fx_end hF hF0)⟩
        refine q_if_eq (pc := 73) hG 89 dX8_readValue_73 rfl ?_ ?_
        · intro c73
          replace hF := fx_eq1 hF rfl rfl c73
          refine q_lv [2, 3, 4, 5, 0] rfl ?_
          exact J89 hF
        intro c73
        replace hF := fx_eq2 hF rfl rfl c73
        refine q_iload (pc := 76) hG dX8_readValue_76 0 rfl ?_
        refine q_if_ne (pc := 78) hG 89 dX8_readValue_78 rfl ?_ ?_
        · intro c78
          have r_17 := q_zge p51.2.1 c58
          replace hF := fx_eq2 hF rfl rfl c78
          refine q_lv [2, 3, 4, 5, 0] rfl ?_
          exact J89 hF
        intro c78
        have r_18 := q_zge p51.2.1 c58
        replace hF := fx_eq1 hF rfl rfl c78
        refine q_aload_n (pc := 81) hG dX8_readValue_81 2 rfl ?_
        refine q_iconst (pc := 82) hG dX8_readValue_82 ki_1 ?_
        refine q_iload (pc := 83) hG dX8_readValue_83 1 rfl ?_
        refine q_cVi (pc := 85) [.int 1, .int v40] [] hG (c_X8_fail τ s51 a0 1 v40 w51.1 tA0) my_X8_fail mv_X8_fail w264 dX8_readValue_85 tA0 (by decide) rfl rfl (Nat.le_of_ble_eq_true rfl) (by decide) (fun v85 s85 p85 => ?_)
        have w85 := w51.trans p85.1 rfl
        have fq85 := p85.2.2
        rewrite [tl_1] at fq85
        replace hF := fx_C hF fq85
        exact q_zrt hG hE dX8_readValue_88 (q_r.mono p85.2.1 (by decide)) ⟨w85, (q_r.mono p85.2.1 (by decide)), (fx_end hF hF0)⟩
      intro c58
      replace hF := fx_lt1 hF rfl rfl c58
      refine q_aload_n (pc := 61) hG dX8_readValue_61 2 rfl ?_
      refine q_iconst (pc := 62) hG dX8_readValue_62 ki_1 ?_
      refine q_aload_n (pc := 63) hG dX8_readValue_63 2 rfl ?_
      refine q_getI (pc := 64) hG fl_X8_25 dX8_readValue_64 w51.1 tA0 ff_7_3 (fun v64 f64 g64 => ?_)
      replace hF := fx_I hF f64 rfl
      refine q_cVi (pc := 67) [.int 1, .int v64] [] hG (c_X8_fail τ s51 a0 1 v64 w51.1 tA0) my_X8_fail mv_X8_fail w264 dX8_readValue_67 tA0 (by decide) rfl rfl (Nat.le_of_ble_eq_true rfl) (by decide) (fun v67 s67 p67 => ?_)
      have w67 := w51.trans p67.1 rfl
      have fq67 := p67.2.2
      rewrite [tl_1] at fq67
      replace hF := fx_C hF fq67
      exact q_zrt hG hE dX8_readValue_70 (q_r.mono p67.2.1 (by decide)) ⟨w67, (q_r.mono p67.2.1 (by decide)), (fx_end hF hF0)⟩
    refine q_if_eq (pc := 32) hG 39 dX8_readValue_32 rfl ?_ ?_
    · intro c32
      replace hF := fx_eq1 hF rfl rfl c32
      refine q_iconst (pc := 39) hG dX8_readValue_39 ki_0 ?_
      refine q_lv [1, 2, 3, 0] rfl ?_
      exact J40 0 (q_r.mono rl_0 (by decide)) (by rw [tl_0]; exact hF)
    intro c32
    replace hF := fx_eq2 hF rfl rfl c32
    refine q_iconst (pc := 35) hG dX8_readValue_35 ki_1 ?_
    refine q_goto (pc := 36) 40 hG dX8_readValue_36 rfl ?_
    refine q_lv [1, 2, 3, 0] rfl ?_
    exact J40 1 (q_r.mono rl_1 (by decide)) (by rw [tl_1]; exact hF)
  have J22 : (fx_eq Fv (kJ_X8_readValue_22 v1.toInt (fx_N σ) a0 x1.toInt)) → q_O X 0 0 τ σ 22 [(0, .ref a0), (1, .int x1), (3, .int v1)] [] := by
    intro hF
    unfold kJ_X8_readValue_22 at hF
    refine q_iconst (pc := 22) hG dX8_readValue_22 ki_0 ?_
    refine q_lv [0, 1, 2] rfl ?_
    exact J23 0 (q_r.mono rl_0 (by decide)) (by rw [tl_0]; exact hF)
  refine q_if_eq (pc := 6) hG 22 dX8_readValue_6 rfl ?_ ?_
  · intro c6
    replace hF := fx_eq1 hF rfl rfl c6
    refine q_lv [1, 2, 0] rfl ?_
    exact J22 hF
  intro c6
  replace hF := fx_eq2 hF rfl rfl c6
  refine q_aload_n (pc := 9) hG dX8_readValue_9 1 rfl ?_
  refine q_pV (pc := 10) [] [] hG (c_X8_peek τ σ a0 hI tA0 at1 ht Tt) my_X8_peek mv_X8_peek w255 dX8_readValue_10 tA0 (by decide) rfl rfl (Nat.le_of_ble_eq_true rfl) (by decide) (fun v10 p10 => ?_)
  replace hF := fx_E hF p10.2
  refine q_bipush (pc := 13) hG dX8_readValue_13 kb_45 ?_
  refine q_icmp_ne (pc := 15) hG 22 dX8_readValue_15 rfl ?_ ?_
  · intro c15
    replace hF := fx_eq2 hF rfl tl_45 c15
    refine q_lv [1, 2, 0] rfl ?_
    exact J22 hF
  intro c15
  replace hF := fx_eq1 hF rfl tl_45 c15
  refine q_iconst (pc := 18) hG dX8_readValue_18 ki_1 ?_
  refine q_goto (pc := 19) 23 hG dX8_readValue_19 rfl ?_
  refine q_lv [1, 2, 0] rfl ?_
  exact J23 1 (q_r.mono rl_1 (by decide)) (by rw [tl_1]; exact hF)
theorem dX8_writeTo_0 : decode cX8_writeTo 0 = .ok (.iconst 0, 1) := by decide +kernel
theorem dX8_writeTo_1 : decode cX8_writeTo 1 = .ok (.istore_n 3, 1) := by decide +kernel
theorem dX8_writeTo_2 : decode cX8_writeTo 2 = .ok (.iload_n 3, 1) := by decide +kernel
theorem dX8_writeTo_3 : decode cX8_writeTo 3 = .ok (.iload_n 2, 1) := by decide +kernel
theorem dX8_writeTo_4 : decode cX8_writeTo 4 = .ok (.if_icmp .ge 30, 3) := by decide +kernel
theorem dX8_writeTo_7 : decode cX8_writeTo 7 = .ok (.iload_n 3, 1) := by decide +kernel
theorem dX8_writeTo_8 : decode cX8_writeTo 8 = .ok (.aload_n 1, 1) := by decide +kernel
theorem dX8_writeTo_9 : decode cX8_writeTo 9 = .ok (.arraylength, 1) := by decide +kernel
theorem dX8_writeTo_10 : decode cX8_writeTo 10 = .ok (.if_icmp .ge 24, 3) := by decide +kernel
theorem dX8_writeTo_13 : decode cX8_writeTo 13 = .ok (.iload_n 3, 1) := by decide +kernel
theorem dX8_writeTo_14 : decode cX8_writeTo 14 = .ok (.bipush 64, 2) := by decide +kernel
theorem dX8_writeTo_16 : decode cX8_writeTo 16 = .ok (.if_icmp .ge 18, 3) := by decide +kernel
theorem dX8_writeTo_19 : decode cX8_writeTo 19 = .ok (.aload_n 1, 1) := by decide +kernel
theorem dX8_writeTo_20 : decode cX8_writeTo 20 = .ok (.iload_n 3, 1) := by decide +kernel
theorem dX8_writeTo_21 : decode cX8_writeTo 21 = .ok (.aload_n 0, 1) := by decide +kernel
theorem dX8_writeTo_22 : decode cX8_writeTo 22 = .ok (.getfield 9, 3) := by decide +kernel
theorem dX8_writeTo_25 : decode cX8_writeTo 25 = .ok (.iload_n 3, 1) := by decide +kernel
theorem dX8_writeTo_26 : decode cX8_writeTo 26 = .ok (.iaload, 1) := by decide +kernel
theorem dX8_writeTo_27 : decode cX8_writeTo 27 = .ok (.iastore, 1) := by decide +kernel
theorem dX8_writeTo_28 : decode cX8_writeTo 28 = .ok (.iinc 3 1, 3) := by decide +kernel
theorem dX8_writeTo_31 : decode cX8_writeTo 31 = .ok (.goto (-29), 3) := by decide +kernel
theorem dX8_writeTo_34 : decode cX8_writeTo 34 = .ok (.return_, 1) := by decide +kernel
def md_X8_writeTo : List (Nat × Nat) := [(118, 0)]
set_option maxRecDepth 100000 in
set_option maxHeartbeats 4000000 in
theorem c_X8_writeTo {l : Launch} {D : q_D} (τ : q_T) (σ : q_V) (a0 : Nat) (a1 : Nat) (x2 : Int32) (hI : q_I τ σ) (tA0 : τ a0 = some (7, 1)) (tA1 : τ a1 = some (118, 64)) : q_Cv l D yX8_writeTo cX8_writeTo 4 none 0 0 τ σ [.ref a0, .ref a1, .int x2] (fun σ1 => q_S md_X8_writeTo τ σ σ1 ∧ (fx_N σ1 = f_X8_writeTo (fx_N σ) a0 a1 x2.toInt)) := by
  refine q_metv rfl (Nat.le_of_ble_eq_true rfl) (fun X hG hE => ?_)
  show q_O X 0 0 τ σ 0 [(0, .ref a0), (1, .ref a1), (2, .int x2)] []
  have hS0 : q_S md_X8_writeTo τ σ σ := q_S.rf hI
  obtain ⟨Fv, hF⟩ : ∃ z, fx_eq z (f_X8_writeTo (fx_N σ) a0 a1 x2.toInt) := ⟨_, fx_rf⟩
  have hF0 := hF
  unfold f_X8_writeTo at hF
  refine q_iconst (pc := 0) hG dX8_writeTo_0 ki_0 ?_
  refine q_istore_n (pc := 1) [(3, .int 0), (0, .ref a0), (1, .ref a1), (2, .int x2)] hG dX8_writeTo_1 (by decide) rfl ?_
  have J2 : ∀ (n2 : Nat) (p2_3 : Int32) (σ2 : q_V), (q_r p2_3 0 64) → (q_S md_X8_writeTo τ σ σ2) → (fx_eq Fv (kL_X8_writeTo_2 x2.toInt a0 a1 n2 p2_3.toInt (fx_N σ2))) → ((64 - p2_3.toInt).toNat < n2) → q_O X 0 0 τ σ2 2 [(0, .ref a0), (1, .ref a1), (2, .int x2), (3, .int p2_3)] [] := by
    intro n2
    induction n2 with
    | zero => intro p2_3 σ2 r2_3 hS2 hF hm2; exact absurd hm2 (Nat.not_lt_zero _)
    | succ n2 ih2 =>
      intro p2_3 σ2 r2_3 hS2 hF hm2
      replace hF := (show fx_eq Fv (kB_X8_writeTo_2 (kL_X8_writeTo_2 x2.toInt a0 a1 n2) x2.toInt a0 a1 p2_3.toInt (fx_N σ2)) from hF)
      unfold kB_X8_writeTo_2 at hF
      refine q_iload_n (pc := 2) hG dX8_writeTo_2 3 rfl ?_
      refine q_iload_n (pc := 3) hG dX8_writeTo_3 2 rfl ?_
      refine q_icmp_ge (pc := 4) hG 34 dX8_writeTo_4 rfl ?_ ?_
      · intro c4
        replace hF := fx_lt2 hF rfl rfl c4
        exact q_vrt hG hE dX8_writeTo_34 ⟨hS2, (fx_end hF hF0)⟩
      intro c4
      replace hF := fx_lt1 hF rfl rfl c4
      refine q_iload_n (pc := 7) hG dX8_writeTo_7 3 rfl ?_
      refine q_aload_n (pc := 8) hG dX8_writeTo_8 1 rfl ?_
      refine q_alen (pc := 9) (v := 64) hG dX8_writeTo_9 tA1 (by decide) (by decide) ?_
      refine q_icmp_ge (pc := 10) hG 34 dX8_writeTo_10 rfl ?_ ?_
      · intro c10
        replace hF := fx_lt2 hF rfl tl_64 c10
        exact q_vrt hG hE dX8_writeTo_34 ⟨hS2, (fx_end hF hF0)⟩
      intro c10
      replace hF := fx_lt1 hF rfl tl_64 c10
      refine q_iload_n (pc := 13) hG dX8_writeTo_13 3 rfl ?_
      refine q_bipush (pc := 14) hG dX8_writeTo_14 kb_64 ?_
      refine q_icmp_ge (pc := 16) hG 34 dX8_writeTo_16 rfl ?_ ?_
      · intro c16
        have r_1 := q_rlt r2_3 rl_64 c10 63 (by decide)
        exact absurd c16 (by have l0 := tl_64; have q0 := r_1; unfold q_r at q0; omega)
      intro c16
      have r_2 := q_rlt r2_3 rl_64 c10 63 (by decide)
      replace hF := fx_lt1 hF rfl tl_64 c16
      refine q_aload_n (pc := 19) hG dX8_writeTo_19 1 rfl ?_
      refine q_iload_n (pc := 20) hG dX8_writeTo_20 3 rfl ?_
      refine q_aload_n (pc := 21) hG dX8_writeTo_21 0 rfl ?_
      refine q_getR (pc := 22) (k2 := 111) (n2 := 64) hG fl_X8_9 dX8_writeTo_22 hS2.1 tA0 ff_7_0 (fun b22 f22 T22 => ?_)
      replace hF := fx_R hF f22 rfl
      have f_3 := (hS2.2 _ _ _ _ tA0 rfl).symm.trans f22
      refine q_iload_n (pc := 25) hG dX8_writeTo_25 3 rfl ?_
      refine q_iald (pc := 26) hG dX8_writeTo_26 hS2.1 ai_111 T22 (q_ix r_2 (by decide)) (fun v26 f26 g26 => ?_)
      replace hF := fx_I hF f26 rfl
      have f_4 := (hS2.2 _ _ _ _ T22 rfl).symm.trans f26
      refine q_iast (pc := 27) hG dX8_writeTo_27 hS2 ai_118 tA1 (q_ix r_2 (by decide)) g26 (by decide) rfl (fun s27 u27 w27 => ?_)
      replace hF := fx_P hF u27 rfl rfl
      have m27 : s27 a1 p2_3.toInt.toNat = .int v26 := by rw [u27]; exact q_up_same
      obtain ⟨v28, e28⟩ : ∃ z : Int32, z = p2_3 + Int32.ofInt 1 := ⟨_, rfl⟩
      have h28 := q_incN (lo := 1) (hi := 64) r_2 (by decide) (by decide) e28
      replace hF := fx_add hF rfl rfl h28.1
      refine q_iinc (pc := 28) [(3, .int v28), (0, .ref a0), (1, .ref a1), (2, .int x2)] hG dX8_writeTo_28 3 rfl e28 (by decide) rfl ?_
      refine q_goto (pc := 31) 2 hG dX8_writeTo_31 rfl ?_
      refine q_lv [1, 2, 3, 0] rfl ?_
      have r_5 := q_rgt (q_r_any x2) r2_3 c4 1 (by decide)
      exact ih2 v28 s27 (q_r.mono h28.2 (by decide)) w27 hF (q_measU hm2 (by have o0 := c4; have o1 := c10; have o2 := c16; have o3 := h28.1; have o4 := r_2; have o5 := h28.2; have o6 := r_5; have l7 := tl_64; unfold q_r at o4 o5 o6; omega) (h28.2).2)
  refine q_lv [1, 2, 3, 0] rfl ?_
  exact J2 ((64 - (0 : Int32).toInt).toNat + 1) 0 σ (q_r.mono rl_0 (by decide)) hS0 (by rw [tl_0]; exact hF) (Nat.lt_succ_self _)
theorem dX8_read_0 : decode cX8_read 0 = .ok (.aload_n 0, 1) := by decide +kernel
theorem dX8_read_1 : decode cX8_read 1 = .ok (.aload_n 1, 1) := by decide +kernel
theorem dX8_read_2 : decode cX8_read 2 = .ok (.putfield 18, 3) := by decide +kernel
theorem dX8_read_5 : decode cX8_read 5 = .ok (.aload_n 0, 1) := by decide +kernel
theorem dX8_read_6 : decode cX8_read 6 = .ok (.iload_n 2, 1) := by decide +kernel
theorem dX8_read_7 : decode cX8_read 7 = .ok (.aload_n 1, 1) := by decide +kernel
theorem dX8_read_8 : decode cX8_read 8 = .ok (.arraylength, 1) := by decide +kernel
theorem dX8_read_9 : decode cX8_read 9 = .ok (.invokestatic 34, 3) := by decide +kernel
theorem dX8_read_12 : decode cX8_read 12 = .ok (.putfield 21, 3) := by decide +kernel
theorem dX8_read_15 : decode cX8_read 15 = .ok (.aload_n 0, 1) := by decide +kernel
theorem dX8_read_16 : decode cX8_read 16 = .ok (.iconst 0, 1) := by decide +kernel
theorem dX8_read_17 : decode cX8_read 17 = .ok (.putfield 25, 3) := by decide +kernel
theorem dX8_read_20 : decode cX8_read 20 = .ok (.aload_n 0, 1) := by decide +kernel
theorem dX8_read_21 : decode cX8_read 21 = .ok (.iconst 0, 1) := by decide +kernel
theorem dX8_read_22 : decode cX8_read 22 = .ok (.putfield 28, 3) := by decide +kernel
theorem dX8_read_25 : decode cX8_read 25 = .ok (.aload_n 0, 1) := by decide +kernel
theorem dX8_read_26 : decode cX8_read 26 = .ok (.iconst 0, 1) := by decide +kernel
theorem dX8_read_27 : decode cX8_read 27 = .ok (.putfield 31, 3) := by decide +kernel
theorem dX8_read_30 : decode cX8_read 30 = .ok (.iconst 0, 1) := by decide +kernel
theorem dX8_read_31 : decode cX8_read 31 = .ok (.istore 5, 2) := by decide +kernel
theorem dX8_read_33 : decode cX8_read 33 = .ok (.iload 5, 2) := by decide +kernel
theorem dX8_read_35 : decode cX8_read 35 = .ok (.iload_n 3, 1) := by decide +kernel
theorem dX8_read_36 : decode cX8_read 36 = .ok (.if_icmp .gt 65, 3) := by decide +kernel
theorem dX8_read_39 : decode cX8_read 39 = .ok (.aload_n 0, 1) := by decide +kernel
theorem dX8_read_40 : decode cX8_read 40 = .ok (.iload_n 3, 1) := by decide +kernel
theorem dX8_read_41 : decode cX8_read 41 = .ok (.iload 4, 2) := by decide +kernel
theorem dX8_read_43 : decode cX8_read 43 = .ok (.invokevirtual 40, 3) := by decide +kernel
theorem dX8_read_46 : decode cX8_read 46 = .ok (.ifCond .eq 55, 3) := by decide +kernel
theorem dX8_read_49 : decode cX8_read 49 = .ok (.aload_n 0, 1) := by decide +kernel
theorem dX8_read_50 : decode cX8_read 50 = .ok (.getfield 25, 3) := by decide +kernel
theorem dX8_read_53 : decode cX8_read 53 = .ok (.aload_n 0, 1) := by decide +kernel
theorem dX8_read_54 : decode cX8_read 54 = .ok (.getfield 21, 3) := by decide +kernel
theorem dX8_read_57 : decode cX8_read 57 = .ok (.if_icmp .lt 6, 3) := by decide +kernel
theorem dX8_read_60 : decode cX8_read 60 = .ok (.goto 41, 3) := by decide +kernel
theorem dX8_read_63 : decode cX8_read 63 = .ok (.aload_n 0, 1) := by decide +kernel
theorem dX8_read_64 : decode cX8_read 64 = .ok (.invokevirtual 44, 3) := by decide +kernel
theorem dX8_read_67 : decode cX8_read 67 = .ok (.bipush 44, 2) := by decide +kernel
theorem dX8_read_69 : decode cX8_read 69 = .ok (.if_icmp .eq 16, 3) := by decide +kernel
theorem dX8_read_72 : decode cX8_read 72 = .ok (.aload_n 0, 1) := by decide +kernel
theorem dX8_read_73 : decode cX8_read 73 = .ok (.iconst 1, 1) := by decide +kernel
theorem dX8_read_74 : decode cX8_read 74 = .ok (.aload_n 0, 1) := by decide +kernel
theorem dX8_read_75 : decode cX8_read 75 = .ok (.getfield 25, 3) := by decide +kernel
theorem dX8_read_78 : decode cX8_read 78 = .ok (.invokevirtual 48, 3) := by decide +kernel
theorem dX8_read_81 : decode cX8_read 81 = .ok (.pop, 1) := by decide +kernel
theorem dX8_read_82 : decode cX8_read 82 = .ok (.goto 19, 3) := by decide +kernel
theorem dX8_read_85 : decode cX8_read 85 = .ok (.aload_n 0, 1) := by decide +kernel
theorem dX8_read_86 : decode cX8_read 86 = .ok (.dup, 1) := by decide +kernel
theorem dX8_read_87 : decode cX8_read 87 = .ok (.getfield 25, 3) := by decide +kernel
theorem dX8_read_90 : decode cX8_read 90 = .ok (.iconst 1, 1) := by decide +kernel
theorem dX8_read_91 : decode cX8_read 91 = .ok (.iadd, 1) := by decide +kernel
theorem dX8_read_92 : decode cX8_read 92 = .ok (.putfield 25, 3) := by decide +kernel
theorem dX8_read_95 : decode cX8_read 95 = .ok (.iinc 5 1, 3) := by decide +kernel
theorem dX8_read_98 : decode cX8_read 98 = .ok (.goto (-65), 3) := by decide +kernel
theorem dX8_read_101 : decode cX8_read 101 = .ok (.aload_n 0, 1) := by decide +kernel
theorem dX8_read_102 : decode cX8_read 102 = .ok (.getfield 31, 3) := by decide +kernel
theorem dX8_read_105 : decode cX8_read 105 = .ok (.ifCond .ne 21, 3) := by decide +kernel
theorem dX8_read_108 : decode cX8_read 108 = .ok (.aload_n 0, 1) := by decide +kernel
theorem dX8_read_109 : decode cX8_read 109 = .ok (.getfield 28, 3) := by decide +kernel
theorem dX8_read_112 : decode cX8_read 112 = .ok (.iload_n 3, 1) := by decide +kernel
theorem dX8_read_113 : decode cX8_read 113 = .ok (.if_icmp .ge 13, 3) := by decide +kernel
theorem dX8_read_116 : decode cX8_read 116 = .ok (.aload_n 0, 1) := by decide +kernel
theorem dX8_read_117 : decode cX8_read 117 = .ok (.iconst 1, 1) := by decide +kernel
theorem dX8_read_118 : decode cX8_read 118 = .ok (.aload_n 0, 1) := by decide +kernel
theorem dX8_read_119 : decode cX8_read 119 = .ok (.getfield 25, 3) := by decide +kernel
theorem dX8_read_122 : decode cX8_read 122 = .ok (.invokevirtual 48, 3) := by decide +kernel
theorem dX8_read_125 : decode cX8_read 125 = .ok (.pop, 1) := by decide +kernel
theorem dX8_read_126 : decode cX8_read 126 = .ok (.aload_n 0, 1) := by decide +kernel
theorem dX8_read_127 : decode cX8_read 127 = .ok (.getfield 31, 3) := by decide +kernel
theorem dX8_read_130 : decode cX8_read 130 = .ok (.ifCond .eq 10, 3) := by decide +kernel
theorem dX8_read_133 : decode cX8_read 133 = .ok (.aload_n 0, 1) := by decide +kernel
theorem dX8_read_134 : decode cX8_read 134 = .ok (.getfield 31, 3) := by decide +kernel
theorem dX8_read_137 : decode cX8_read 137 = .ok (.goto 7, 3) := by decide +kernel
theorem dX8_read_140 : decode cX8_read 140 = .ok (.aload_n 0, 1) := by decide +kernel
theorem dX8_read_141 : decode cX8_read 141 = .ok (.invokevirtual 52, 3) := by decide +kernel
theorem dX8_read_144 : decode cX8_read 144 = .ok (.ireturn, 1) := by decide +kernel
def md_X8_read : List (Nat × Nat) := [(7, 1), (7, 2), (7, 3), (7, 4), (7, 5), (111, 0)]
set_option maxRecDepth 100000 in
set_option maxHeartbeats 4000000 in
theorem c_X8_read {l : Launch} {D : q_D} (τ : q_T) (σ : q_V) (a0 : Nat) (a1 : Nat) (x2 : Int32) (x3 : Int32) (x4 : Int32) (hI : q_I τ σ) (tA0 : τ a0 = some (7, 1)) (tA1 : τ a1 = some (110, 260)) (rA2 : q_r x2 1 120) (rA3 : q_r x3 8 64) (rA4 : q_r x4 0 1) : q_Ci l D yX8_read cX8_read 6 (some .int) 3 72 τ σ [.ref a0, .ref a1, .int x2, .int x3, .int x4] (fun r σ1 => q_S md_X8_read τ σ σ1 ∧ (q_r r (-2147483648) 2147483647) ∧ ((r.toInt, fx_N σ1) = f_X8_read (fx_N σ) a0 a1 x2.toInt x3.toInt x4.toInt)) := by
  refine q_meti rfl (Nat.le_of_ble_eq_true rfl) (fun X hG hE => ?_)
  show q_O X 0 0 τ σ 0 [(0, .ref a0), (1, .ref a1), (2, .int x2), (3, .int x3), (4, .int x4)] []
  have hS0 : q_S md_X8_read τ σ σ := q_S.rf hI
  obtain ⟨Fv, hF⟩ : ∃ z, fx_eq z (f_X8_read (fx_N σ) a0 a1 x2.toInt x3.toInt x4.toInt) := ⟨_, fx_rf⟩
  have hF0 := hF
  unfold f_X8_read at hF
  refine q_aload_n (pc := 0) hG dX8_read_0 0 rfl ?_
  refine q_aload_n (pc := 1) hG dX8_read_1 1 rfl ?_
  refine q_putR (pc := 2) hG fl_X8_18 dX8_read_2 hS0 tA0 (q_va ff_7_1) rfl rfl rfl (fun s2 u2 w2 => ?_)
  replace hF := fx_PR hF u2 rfl
  have m2 : s2 a0 1 = .ref a1 := by rw [u2]; exact q_up_same
  refine q_aload_n (pc := 5) hG dX8_read_5 0 rfl ?_
  refine q_iload_n (pc := 6) hG dX8_read_6 2 rfl ?_
  refine q_aload_n (pc := 7) hG dX8_read_7 1 rfl ?_
  refine q_alen (pc := 8) (v := 260) hG dX8_read_8 tA1 (by decide) (by decide) ?_
  refine q_pS (pc := 9) [.int x2, .int 260] [.ref a0] hG (c_J9_min_7cf53 τ s2 x2 260 w2.1) my_J9_min_7cf53 w250 w249 dX8_read_9 rfl rfl (Nat.le_of_ble_eq_true rfl) (by decide) (fun v9 p9 => ?_)
  have fq9 := p9.2.1
  rewrite [tl_260] at fq9
  replace hF := fx_E hF fq9
  have r_1 := q_minN (lo := 1) (hi := 120) p9.2.2 rA2 rl_260 (by decide)
  refine q_putI (pc := 12) hG fl_X8_21 dX8_read_12 w2 tA0 ff_7_2 r_1 (by decide) rfl (fun s12 u12 w12 => ?_)
  replace hF := fx_P hF u12 rfl rfl
  have m12 : s12 a0 2 = .int v9 := by rw [u12]; exact q_up_same
  refine q_aload_n (pc := 15) hG dX8_read_15 0 rfl ?_
  refine q_iconst (pc := 16) hG dX8_read_16 ki_0 ?_
  refine q_putI (pc := 17) hG fl_X8_25 dX8_read_17 w12 tA0 ff_7_3 rl_0 (by decide) rfl (fun s17 u17 w17 => ?_)
  replace hF := fx_P hF u17 rfl tl_0
  have m17 : s17 a0 3 = .int 0 := by rw [u17]; exact q_up_same
  refine q_aload_n (pc := 20) hG dX8_read_20 0 rfl ?_
  refine q_iconst (pc := 21) hG dX8_read_21 ki_0 ?_
  refine q_putI (pc := 22) hG fl_X8_28 dX8_read_22 w17 tA0 ff_7_4 rl_0 (by decide) rfl (fun s22 u22 w22 => ?_)
  replace hF := fx_P hF u22 rfl tl_0
  have m22 : s22 a0 4 = .int 0 := by rw [u22]; exact q_up_same
  refine q_aload_n (pc := 25) hG dX8_read_25 0 rfl ?_
  refine q_iconst (pc := 26) hG dX8_read_26 ki_0 ?_
  refine q_putI (pc := 27) hG fl_X8_31 dX8_read_27 w22 tA0 ff_7_5 rl_0 (by decide) rfl (fun s27 u27 w27 => ?_)
  replace hF := fx_P hF u27 rfl tl_0
  have m27 : s27 a0 5 = .int 0 := by rw [u27]; exact q_up_same
  refine q_iconst (pc := 30) hG dX8_read_30 ki_0 ?_
  refine q_istore (pc := 31) [(5, .int 0), (0, .ref a0), (1, .ref a1), (2, .int x2), (3, .int x3), (4, .int x4)] hG dX8_read_31 (by decide) rfl ?_
  have J33 : ∀ (n33 : Nat) (p33_5 : Int32) (σ33 : q_V), (q_r p33_5 0 65) → (q_S md_X8_read τ σ σ33) → (σ33 a0 1 = .ref a1) → (fx_eq Fv (kL_X8_read_33 x3.toInt a0 x4.toInt n33 p33_5.toInt (fx_N σ33))) → ((65 - p33_5.toInt).toNat < n33) → q_O X 0 0 τ σ33 33 [(0, .ref a0), (3, .int x3), (4, .int x4), (5, .int p33_5)] [] := by
    intro n33
    induction n33 with
    | zero => intro p33_5 σ33 r33_5 hS33 it33 hF hm33; exact absurd hm33 (Nat.not_lt_zero _)
    | succ n33 ih33 =>
      intro p33_5 σ33 r33_5 hS33 it33 hF hm33
      replace hF := (show fx_eq Fv (kB_X8_read_33 (kL_X8_read_33 x3.toInt a0 x4.toInt n33) x3.toInt a0 x4.toInt p33_5.toInt (fx_N σ33)) from hF)
      unfold kB_X8_read_33 at hF
      refine q_iload (pc := 33) hG dX8_read_33 3 rfl ?_
      refine q_iload_n (pc := 35) hG dX8_read_35 1 rfl ?_
      have J101 : ∀ (σ101 : q_V), (q_S md_X8_read τ σ σ101) → (fx_eq Fv (kJ_X8_read_101 a0 x3.toInt (fx_N σ101))) → q_O X 0 0 τ σ101 101 [(0, .ref a0), (3, .int x3)] [] := by
        intro σ101 hS101 hF
        unfold kJ_X8_read_101 at hF
        refine q_aload_n (pc := 101) hG dX8_read_101 0 rfl ?_
        refine q_getI (pc := 102) hG fl_X8_31 dX8_read_102 hS101.1 tA0 ff_7_5 (fun v102 f102 g102 => ?_)
        replace hF := fx_I hF f102 rfl
        have J126 : ∀ (σ126 : q_V), (q_S md_X8_read τ σ σ126) → (fx_eq Fv (kJ_X8_read_126 a0 (fx_N σ126))) → q_O X 0 0 τ σ126 126 [(0, .ref a0)] [] := by
          intro σ126 hS126 hF
          unfold kJ_X8_read_126 at hF
          refine q_aload_n (pc := 126) hG dX8_read_126 0 rfl ?_
          refine q_getI (pc := 127) hG fl_X8_31 dX8_read_127 hS126.1 tA0 ff_7_5 (fun v127 f127 g127 => ?_)
          replace hF := fx_I hF f127 rfl
          refine q_if_eq (pc := 130) hG 140 dX8_read_130 rfl ?_ ?_
          · intro c130
            replace hF := fx_eq1 hF rfl rfl c130
            refine q_aload_n (pc := 140) hG dX8_read_140 0 rfl ?_
            refine q_pV (pc := 141) [] [] hG (c_X8_sumOfAmounts τ σ126 a0 hS126.1 tA0) my_X8_sumOfAmounts mv_X8_sumOfAmounts w267 dX8_read_141 tA0 (by decide) rfl rfl (Nat.le_of_ble_eq_true rfl) (by decide) (fun v141 p141 => ?_)
            replace hF := fx_E hF p141.2
            exact q_irt hG hE dX8_read_144 ⟨hS126, p141.1, (fx_end hF hF0)⟩
          intro c130
          replace hF := fx_eq2 hF rfl rfl c130
          refine q_aload_n (pc := 133) hG dX8_read_133 0 rfl ?_
          refine q_getV (pc := 134) (v := .int v127) hG fl_X8_31 dX8_read_134 tA0 f127 ?_
          refine q_goto (pc := 137) 144 hG dX8_read_137 rfl ?_
          exact q_irt hG hE dX8_read_144 ⟨hS126, g127, (fx_end hF hF0)⟩
        refine q_if_ne (pc := 105) hG 126 dX8_read_105 rfl ?_ ?_
        · intro c105
          replace hF := fx_eq2 hF rfl rfl c105
          refine q_lv [0] rfl ?_
          exact J126 σ101 hS101 hF
        intro c105
        replace hF := fx_eq1 hF rfl rfl c105
        refine q_aload_n (pc := 108) hG dX8_read_108 0 rfl ?_
        refine q_getI (pc := 109) hG fl_X8_28 dX8_read_109 hS101.1 tA0 ff_7_4 (fun v109 f109 g109 => ?_)
        replace hF := fx_I hF f109 rfl
        refine q_iload_n (pc := 112) hG dX8_read_112 1 rfl ?_
        refine q_icmp_ge (pc := 113) hG 126 dX8_read_113 rfl ?_ ?_
        · intro c113
          replace hF := fx_lt2 hF rfl rfl c113
          refine q_lv [0] rfl ?_
          exact J126 σ101 hS101 hF
        intro c113
        replace hF := fx_lt1 hF rfl rfl c113
        refine q_aload_n (pc := 116) hG dX8_read_116 0 rfl ?_
        refine q_iconst (pc := 117) hG dX8_read_117 ki_1 ?_
        refine q_aload_n (pc := 118) hG dX8_read_118 0 rfl ?_
        refine q_getI (pc := 119) hG fl_X8_25 dX8_read_119 hS101.1 tA0 ff_7_3 (fun v119 f119 g119 => ?_)
        replace hF := fx_I hF f119 rfl
        refine q_cVi (pc := 122) [.int 1, .int v119] [] hG (c_X8_fail τ σ101 a0 1 v119 hS101.1 tA0) my_X8_fail mv_X8_fail w264 dX8_read_122 tA0 (by decide) rfl rfl (Nat.le_of_ble_eq_true rfl) (by decide) (fun v122 s122 p122 => ?_)
        have w122 := hS101.trans p122.1 rfl
        have fq122 := p122.2.2
        rewrite [tl_1] at fq122
        replace hF := fx_C hF fq122
        refine q_pop (pc := 125) hG dX8_read_125 rfl ?_
        refine q_lv [0] rfl ?_
        exact J126 s122 w122 hF
      refine q_icmp_gt (pc := 36) hG 101 dX8_read_36 rfl ?_ ?_
      · intro c36
        replace hF := fx_lt1 hF rfl rfl c36
        refine q_lv [0, 1] rfl ?_
        exact J101 σ33 hS33 hF
      intro c36
      replace hF := fx_lt2 hF rfl rfl c36
      refine q_aload_n (pc := 39) hG dX8_read_39 0 rfl ?_
      refine q_iload_n (pc := 40) hG dX8_read_40 1 rfl ?_
      refine q_iload (pc := 41) hG dX8_read_41 2 rfl ?_
      refine q_cVi (pc := 43) [.int x3, .int x4] [] hG (c_X8_readValue τ σ33 a0 x3 x4 hS33.1 tA0 rA4 a1 it33 tA1) my_X8_readValue mv_X8_readValue w252 dX8_read_43 tA0 (by decide) rfl rfl (Nat.le_of_ble_eq_true rfl) (by decide) (fun v43 s43 p43 => ?_)
      have w43 := hS33.trans p43.1 rfl
      replace hF := fx_C hF p43.2.2
      refine q_if_eq (pc := 46) hG 101 dX8_read_46 rfl ?_ ?_
      · intro c46
        replace hF := fx_eq1 hF rfl rfl c46
        refine q_lv [0, 1] rfl ?_
        exact J101 s43 w43 hF
      intro c46
      replace hF := fx_eq2 hF rfl rfl c46
      refine q_aload_n (pc := 49) hG dX8_read_49 0 rfl ?_
      refine q_getI (pc := 50) hG fl_X8_25 dX8_read_50 w43.1 tA0 ff_7_3 (fun v50 f50 g50 => ?_)
      replace hF := fx_I hF f50 rfl
      refine q_aload_n (pc := 53) hG dX8_read_53 0 rfl ?_
      refine q_getI (pc := 54) hG fl_X8_21 dX8_read_54 w43.1 tA0 ff_7_2 (fun v54 f54 g54 => ?_)
      replace hF := fx_I hF f54 rfl
      refine q_icmp_lt (pc := 57) hG 63 dX8_read_57 rfl ?_ ?_
      · intro c57
        replace hF := fx_lt1 hF rfl rfl c57
        refine q_aload_n (pc := 63) hG dX8_read_63 0 rfl ?_
        refine q_pV (pc := 64) [] [] hG (c_X8_peek τ s43 a0 w43.1 tA0 a1 (p43.1.same tA0 rfl it33) tA1) my_X8_peek mv_X8_peek w255 dX8_read_64 tA0 (by decide) rfl rfl (Nat.le_of_ble_eq_true rfl) (by decide) (fun v64 p64 => ?_)
        replace hF := fx_E hF p64.2
        refine q_bipush (pc := 67) hG dX8_read_67 kb_44 ?_
        refine q_icmp_eq (pc := 69) hG 85 dX8_read_69 rfl ?_ ?_
        · intro c69
          replace hF := fx_eq1 hF rfl tl_44 c69
          refine q_aload_n (pc := 85) hG dX8_read_85 0 rfl ?_
          refine q_dup (pc := 86) hG dX8_read_86 rfl ?_
          refine q_getV (pc := 87) (v := .int v50) hG fl_X8_25 dX8_read_87 tA0 f50 ?_
          refine q_iconst (pc := 90) hG dX8_read_90 ki_1 ?_
          refine q_iadd (pc := 91) hG dX8_read_91 (fun v91 e91 => ?_)
          have r_2 := q_rlt g50 g54 c57 259 (by decide)
          replace hF := fx_add hF rfl tl_1 (q_addN (lo := (-2147483647)) (hi := 260) e91 r_2 rl_1 (by decide)).1
          have r_3 := (q_addN (lo := (-2147483647)) (hi := 260) e91 r_2 rl_1 (by decide)).2
          refine q_putI (pc := 92) hG fl_X8_25 dX8_read_92 w43 tA0 ff_7_3 r_3 (by decide) rfl (fun s92 u92 w92 => ?_)
          replace hF := fx_P hF u92 rfl rfl
          have m92 : s92 a0 3 = .int v91 := by rw [u92]; exact q_up_same
          obtain ⟨v95, e95⟩ : ∃ z : Int32, z = p33_5 + Int32.ofInt 1 := ⟨_, rfl⟩
          have r_4 := q_rle r33_5 rA3 c36
          have h95 := q_incN (lo := 1) (hi := 65) r_4 (by decide) (by decide) e95
          replace hF := fx_add hF rfl rfl h95.1
          refine q_iinc (pc := 95) [(5, .int v95), (0, .ref a0), (3, .int x3), (4, .int x4)] hG dX8_read_95 3 rfl e95 (by decide) rfl ?_
          refine q_goto (pc := 98) 33 hG dX8_read_98 rfl ?_
          refine q_lv [1, 2, 3, 0] rfl ?_
          exact ih33 v95 s92 (q_r.mono h95.2 (by decide)) w92 (by rw [u92]; exact (q_up_else (Or.inr (by decide))).trans (p43.1.same tA0 rfl it33)) hF (q_measU hm33 (by have o0 := c36; have o1 := h95.1; have o2 := r_4; have o3 := h95.2; have o4 := rA3; unfold q_r at o2 o3 o4; omega) (h95.2).2)
        intro c69
        replace hF := fx_eq2 hF rfl tl_44 c69
        refine q_aload_n (pc := 72) hG dX8_read_72 0 rfl ?_
        refine q_iconst (pc := 73) hG dX8_read_73 ki_1 ?_
        refine q_aload_n (pc := 74) hG dX8_read_74 0 rfl ?_
        refine q_getV (pc := 75) (v := .int v50) hG fl_X8_25 dX8_read_75 tA0 f50 ?_
        refine q_cVi (pc := 78) [.int 1, .int v50] [] hG (c_X8_fail τ s43 a0 1 v50 w43.1 tA0) my_X8_fail mv_X8_fail w264 dX8_read_78 tA0 (by decide) rfl rfl (Nat.le_of_ble_eq_true rfl) (by decide) (fun v78 s78 p78 => ?_)
        have w78 := w43.trans p78.1 rfl
        have fq78 := p78.2.2
        rewrite [tl_1] at fq78
        replace hF := fx_C hF fq78
        refine q_pop (pc := 81) hG dX8_read_81 rfl ?_
        refine q_goto (pc := 82) 101 hG dX8_read_82 rfl ?_
        refine q_lv [0, 1] rfl ?_
        exact J101 s78 w78 hF
      intro c57
      replace hF := fx_lt2 hF rfl rfl c57
      refine q_goto (pc := 60) 101 hG dX8_read_60 rfl ?_
      refine q_lv [0, 1] rfl ?_
      exact J101 s43 w43 hF
  refine q_lv [1, 4, 5, 0] rfl ?_
  exact J33 ((65 - (0 : Int32).toInt).toNat + 1) 0 s27 (q_r.mono rl_0 (by decide)) w27 (by rw [u27]; exact (q_up_else (Or.inr (by decide))).trans (by rw [u22]; exact (q_up_else (Or.inr (by decide))).trans (by rw [u17]; exact (q_up_else (Or.inr (by decide))).trans (by rw [u12]; exact (q_up_else (Or.inr (by decide))).trans m2)))) (by rw [tl_0]; exact hF) (Nat.lt_succ_self _)
