/-! laid by wip/p2/build.py -/
theorem dX10_mostBegunAt_0 : decode cX10_mostBegunAt 0 = .ok (.iload_n 2, 1) := by decide +kernel
theorem dX10_mostBegunAt_1 : decode cX10_mostBegunAt 1 = .ok (.iconst 1, 1) := by decide +kernel
theorem dX10_mostBegunAt_2 : decode cX10_mostBegunAt 2 = .ok (.if_icmp .lt 30, 3) := by decide +kernel
theorem dX10_mostBegunAt_5 : decode cX10_mostBegunAt 5 = .ok (.iload_n 3, 1) := by decide +kernel
theorem dX10_mostBegunAt_6 : decode cX10_mostBegunAt 6 = .ok (.iload 4, 2) := by decide +kernel
theorem dX10_mostBegunAt_8 : decode cX10_mostBegunAt 8 = .ok (.iadd, 1) := by decide +kernel
theorem dX10_mostBegunAt_9 : decode cX10_mostBegunAt 9 = .ok (.aload_n 1, 1) := by decide +kernel
theorem dX10_mostBegunAt_10 : decode cX10_mostBegunAt 10 = .ok (.getfield 20, 3) := by decide +kernel
theorem dX10_mostBegunAt_13 : decode cX10_mostBegunAt 13 = .ok (.if_icmp .gt 19, 3) := by decide +kernel
theorem dX10_mostBegunAt_16 : decode cX10_mostBegunAt 16 = .ok (.aload_n 0, 1) := by decide +kernel
theorem dX10_mostBegunAt_17 : decode cX10_mostBegunAt 17 = .ok (.getfield 11, 3) := by decide +kernel
theorem dX10_mostBegunAt_20 : decode cX10_mostBegunAt 20 = .ok (.iload_n 2, 1) := by decide +kernel
theorem dX10_mostBegunAt_21 : decode cX10_mostBegunAt 21 = .ok (.iconst 1, 1) := by decide +kernel
theorem dX10_mostBegunAt_22 : decode cX10_mostBegunAt 22 = .ok (.isub, 1) := by decide +kernel
theorem dX10_mostBegunAt_23 : decode cX10_mostBegunAt 23 = .ok (.aaload, 1) := by decide +kernel
theorem dX10_mostBegunAt_24 : decode cX10_mostBegunAt 24 = .ok (.iload_n 3, 1) := by decide +kernel
theorem dX10_mostBegunAt_25 : decode cX10_mostBegunAt 25 = .ok (.iload 4, 2) := by decide +kernel
theorem dX10_mostBegunAt_27 : decode cX10_mostBegunAt 27 = .ok (.iadd, 1) := by decide +kernel
theorem dX10_mostBegunAt_28 : decode cX10_mostBegunAt 28 = .ok (.iaload, 1) := by decide +kernel
theorem dX10_mostBegunAt_29 : decode cX10_mostBegunAt 29 = .ok (.ifCond .ge 5, 3) := by decide +kernel
theorem dX10_mostBegunAt_32 : decode cX10_mostBegunAt 32 = .ok (.iconst (-1), 1) := by decide +kernel
theorem dX10_mostBegunAt_33 : decode cX10_mostBegunAt 33 = .ok (.ireturn, 1) := by decide +kernel
theorem dX10_mostBegunAt_34 : decode cX10_mostBegunAt 34 = .ok (.aload_n 0, 1) := by decide +kernel
theorem dX10_mostBegunAt_35 : decode cX10_mostBegunAt 35 = .ok (.getfield 11, 3) := by decide +kernel
theorem dX10_mostBegunAt_38 : decode cX10_mostBegunAt 38 = .ok (.iload_n 2, 1) := by decide +kernel
theorem dX10_mostBegunAt_39 : decode cX10_mostBegunAt 39 = .ok (.iconst 1, 1) := by decide +kernel
theorem dX10_mostBegunAt_40 : decode cX10_mostBegunAt 40 = .ok (.isub, 1) := by decide +kernel
theorem dX10_mostBegunAt_41 : decode cX10_mostBegunAt 41 = .ok (.aaload, 1) := by decide +kernel
theorem dX10_mostBegunAt_42 : decode cX10_mostBegunAt 42 = .ok (.iload_n 3, 1) := by decide +kernel
theorem dX10_mostBegunAt_43 : decode cX10_mostBegunAt 43 = .ok (.iload 4, 2) := by decide +kernel
theorem dX10_mostBegunAt_45 : decode cX10_mostBegunAt 45 = .ok (.iadd, 1) := by decide +kernel
theorem dX10_mostBegunAt_46 : decode cX10_mostBegunAt 46 = .ok (.iaload, 1) := by decide +kernel
theorem dX10_mostBegunAt_47 : decode cX10_mostBegunAt 47 = .ok (.istore 5, 2) := by decide +kernel
theorem dX10_mostBegunAt_49 : decode cX10_mostBegunAt 49 = .ok (.iload_n 3, 1) := by decide +kernel
theorem dX10_mostBegunAt_50 : decode cX10_mostBegunAt 50 = .ok (.istore 6, 2) := by decide +kernel
theorem dX10_mostBegunAt_52 : decode cX10_mostBegunAt 52 = .ok (.iload 6, 2) := by decide +kernel
theorem dX10_mostBegunAt_54 : decode cX10_mostBegunAt 54 = .ok (.iload_n 3, 1) := by decide +kernel
theorem dX10_mostBegunAt_55 : decode cX10_mostBegunAt 55 = .ok (.iload 4, 2) := by decide +kernel
theorem dX10_mostBegunAt_57 : decode cX10_mostBegunAt 57 = .ok (.iadd, 1) := by decide +kernel
theorem dX10_mostBegunAt_58 : decode cX10_mostBegunAt 58 = .ok (.if_icmp .ge 21, 3) := by decide +kernel
theorem dX10_mostBegunAt_61 : decode cX10_mostBegunAt 61 = .ok (.iload 5, 2) := by decide +kernel
theorem dX10_mostBegunAt_63 : decode cX10_mostBegunAt 63 = .ok (.aload_n 1, 1) := by decide +kernel
theorem dX10_mostBegunAt_64 : decode cX10_mostBegunAt 64 = .ok (.getfield 39, 3) := by decide +kernel
theorem dX10_mostBegunAt_67 : decode cX10_mostBegunAt 67 = .ok (.iload 6, 2) := by decide +kernel
theorem dX10_mostBegunAt_69 : decode cX10_mostBegunAt 69 = .ok (.iaload, 1) := by decide +kernel
theorem dX10_mostBegunAt_70 : decode cX10_mostBegunAt 70 = .ok (.iadd, 1) := by decide +kernel
theorem dX10_mostBegunAt_71 : decode cX10_mostBegunAt 71 = .ok (.istore 5, 2) := by decide +kernel
theorem dX10_mostBegunAt_73 : decode cX10_mostBegunAt 73 = .ok (.iinc 6 1, 3) := by decide +kernel
theorem dX10_mostBegunAt_76 : decode cX10_mostBegunAt 76 = .ok (.goto (-24), 3) := by decide +kernel
theorem dX10_mostBegunAt_79 : decode cX10_mostBegunAt 79 = .ok (.iload 5, 2) := by decide +kernel
theorem dX10_mostBegunAt_81 : decode cX10_mostBegunAt 81 = .ok (.ireturn, 1) := by decide +kernel
set_option maxRecDepth 100000 in
set_option maxHeartbeats 4000000 in
theorem c_X10_mostBegunAt {l : Launch} {D : q_D} (τ : q_T) (σ : q_V) (a0 : Nat) (a1 : Nat) (x2 : Int32) (x3 : Int32) (x4 : Int32) (hI : q_I τ σ) (tA0 : τ a0 = some (8, 1)) (tA1 : τ a1 = some (6, 1)) (rA2 : q_r x2 0 4) (rA3 : q_r x3 0 64) (rA4 : q_r x4 1 16) : q_Cp l D yX10_mostBegunAt cX10_mostBegunAt 7 (some .int) 0 0 τ σ [.ref a0, .ref a1, .int x2, .int x3, .int x4] (fun r => q_r r (-2147483648) 2147483647) := by
  refine q_meti rfl (Nat.le_of_ble_eq_true rfl) (fun X hG hE => ?_)
  show q_O X 0 0 τ σ 0 [(0, .ref a0), (1, .ref a1), (2, .int x2), (3, .int x3), (4, .int x4)] []
  refine q_iload_n (pc := 0) hG dX10_mostBegunAt_0 2 rfl ?_
  refine q_iconst (pc := 1) hG dX10_mostBegunAt_1 ki_1 ?_
  refine q_icmp_lt (pc := 2) hG 32 dX10_mostBegunAt_2 rfl ?_ ?_
  · intro c2
    refine q_iconst (pc := 32) hG dX10_mostBegunAt_32 ki_m1 ?_
    exact q_irt hG hE dX10_mostBegunAt_33 ⟨rfl, (q_r.mono rl_m1 (by decide))⟩
  intro c2
  refine q_iload_n (pc := 5) hG dX10_mostBegunAt_5 3 rfl ?_
  refine q_iload (pc := 6) hG dX10_mostBegunAt_6 4 rfl ?_
  refine q_iadd (pc := 8) hG dX10_mostBegunAt_8 (fun v8 e8 => ?_)
  refine q_aload_n (pc := 9) hG dX10_mostBegunAt_9 1 rfl ?_
  refine q_getI (pc := 10) hG fl_X10_20 dX10_mostBegunAt_10 hI tA1 ff_6_0 (fun v10 f10 g10 => ?_)
  refine q_icmp_gt (pc := 13) hG 32 dX10_mostBegunAt_13 rfl ?_ ?_
  · intro c13
    have r_1 := (q_addN (lo := 1) (hi := 80) e8 rA3 rA4 (by decide)).2
    refine q_iconst (pc := 32) hG dX10_mostBegunAt_32 ki_m1 ?_
    exact q_irt hG hE dX10_mostBegunAt_33 ⟨rfl, (q_r.mono rl_m1 (by decide))⟩
  intro c13
  have r_2 := (q_addN (lo := 1) (hi := 80) e8 rA3 rA4 (by decide)).2
  refine q_aload_n (pc := 16) hG dX10_mostBegunAt_16 0 rfl ?_
  refine q_getR (pc := 17) (k2 := 400) (n2 := 5) hG fl_X10_11 dX10_mostBegunAt_17 hI tA0 ff_8_0 (fun b17 f17 T17 => ?_)
  refine q_iload_n (pc := 20) hG dX10_mostBegunAt_20 2 rfl ?_
  refine q_iconst (pc := 21) hG dX10_mostBegunAt_21 ki_1 ?_
  refine q_isub (pc := 22) hG dX10_mostBegunAt_22 (fun v22 e22 => ?_)
  have r_3 := q_rge rA2 rl_1 c2
  have r_4 := (q_subN (lo := 0) (hi := 3) e22 r_3 rl_1 (by decide)).2
  refine q_aald (pc := 23) hG dX10_mostBegunAt_23 hI T17 (q_ix r_4 (by decide)) (fun b23 e23 T23 => ?_)
  refine q_iload_n (pc := 24) hG dX10_mostBegunAt_24 3 rfl ?_
  refine q_iload (pc := 25) hG dX10_mostBegunAt_25 4 rfl ?_
  refine q_iadd (pc := 27) hG dX10_mostBegunAt_27 (fun v27 e27 => ?_)
  rw [e27.trans e8.symm]
  have r_5 := q_rle r_2 g10 c13
  refine q_iald (pc := 28) hG dX10_mostBegunAt_28 hI ai_140 T23 (q_ix r_5 (by decide)) (fun v28 f28 g28 => ?_)
  refine q_if_ge (pc := 29) hG 34 dX10_mostBegunAt_29 rfl ?_ ?_
  · intro c29
    refine q_aload_n (pc := 34) hG dX10_mostBegunAt_34 0 rfl ?_
    refine q_getV (pc := 35) (v := .ref b17) hG fl_X10_11 dX10_mostBegunAt_35 tA0 f17 ?_
    refine q_iload_n (pc := 38) hG dX10_mostBegunAt_38 2 rfl ?_
    refine q_iconst (pc := 39) hG dX10_mostBegunAt_39 ki_1 ?_
    refine q_isub (pc := 40) hG dX10_mostBegunAt_40 (fun v40 e40 => ?_)
    rw [e40.trans e22.symm]
    refine q_aald (pc := 41) hG dX10_mostBegunAt_41 hI T17 (q_ix r_4 (by decide)) (fun b41 e41 T41 => ?_)
    refine q_iload_n (pc := 42) hG dX10_mostBegunAt_42 3 rfl ?_
    refine q_iload (pc := 43) hG dX10_mostBegunAt_43 4 rfl ?_
    refine q_iadd (pc := 45) hG dX10_mostBegunAt_45 (fun v45 e45 => ?_)
    rw [e45.trans e8.symm]
    refine q_iald (pc := 46) hG dX10_mostBegunAt_46 hI ai_140 T41 (q_ix r_5 (by decide)) (fun v46 f46 g46 => ?_)
    refine q_istore (pc := 47) [(5, .int v46), (0, .ref a0), (1, .ref a1), (2, .int x2), (3, .int x3), (4, .int x4)] hG dX10_mostBegunAt_47 (by decide) rfl ?_
    refine q_iload_n (pc := 49) hG dX10_mostBegunAt_49 4 rfl ?_
    refine q_istore (pc := 50) [(6, .int x3), (5, .int v46), (0, .ref a0), (1, .ref a1), (2, .int x2), (3, .int x3), (4, .int x4)] hG dX10_mostBegunAt_50 (by decide) rfl ?_
    have J52 : ∀ (n52 : Nat) (p52_5 : Int32) (p52_6 : Int32), (q_r p52_6 0 64) → ((64 - p52_6.toInt).toNat < n52) → q_O X 0 0 τ σ 52 [(1, .ref a1), (3, .int x3), (4, .int x4), (5, .int p52_5), (6, .int p52_6)] [] := by
      intro n52
      induction n52 with
      | zero => intro p52_5 p52_6 r52_6 hm52; exact absurd hm52 (Nat.not_lt_zero _)
      | succ n52 ih52 =>
        intro p52_5 p52_6 r52_6 hm52
        refine q_iload (pc := 52) hG dX10_mostBegunAt_52 4 rfl ?_
        refine q_iload_n (pc := 54) hG dX10_mostBegunAt_54 1 rfl ?_
        refine q_iload (pc := 55) hG dX10_mostBegunAt_55 2 rfl ?_
        refine q_iadd (pc := 57) hG dX10_mostBegunAt_57 (fun v57 e57 => ?_)
        rw [e57.trans e8.symm]
        refine q_icmp_ge (pc := 58) hG 79 dX10_mostBegunAt_58 rfl ?_ ?_
        · intro c58
          refine q_iload (pc := 79) hG dX10_mostBegunAt_79 3 rfl ?_
          exact q_irt hG hE dX10_mostBegunAt_81 ⟨rfl, (q_r_any p52_5)⟩
        intro c58
        refine q_iload (pc := 61) hG dX10_mostBegunAt_61 3 rfl ?_
        refine q_aload_n (pc := 63) hG dX10_mostBegunAt_63 0 rfl ?_
        refine q_getR (pc := 64) (k2 := 118) (n2 := 64) hG fl_X10_39 dX10_mostBegunAt_64 hI tA1 ff_6_3 (fun b64 f64 T64 => ?_)
        refine q_iload (pc := 67) hG dX10_mostBegunAt_67 4 rfl ?_
        have r_6 := q_rlt r52_6 r_5 c58 63 (by decide)
        refine q_iald (pc := 69) hG dX10_mostBegunAt_69 hI ai_118 T64 (q_ix r_6 (by decide)) (fun v69 f69 g69 => ?_)
        refine q_iadd (pc := 70) hG dX10_mostBegunAt_70 (fun v70 e70 => ?_)
        refine q_istore (pc := 71) [(5, .int v70), (1, .ref a1), (3, .int x3), (4, .int x4), (6, .int p52_6)] hG dX10_mostBegunAt_71 (by decide) rfl ?_
        obtain ⟨v73, e73⟩ : ∃ z : Int32, z = p52_6 + Int32.ofInt 1 := ⟨_, rfl⟩
        have h73 := q_incN (lo := 1) (hi := 64) r_6 (by decide) (by decide) e73
        refine q_iinc (pc := 73) [(6, .int v73), (5, .int v70), (1, .ref a1), (3, .int x3), (4, .int x4)] hG dX10_mostBegunAt_73 4 rfl e73 (by decide) rfl ?_
        refine q_goto (pc := 76) 52 hG dX10_mostBegunAt_76 rfl ?_
        refine q_lv [2, 3, 4, 1, 0] rfl ?_
        exact ih52 v70 v73 (q_r.mono h73.2 (by decide)) (q_measU hm52 (by have o0 := c58; have o1 := h73.1; have o2 := (q_addN (lo := 1) (hi := 80) e8 rA3 rA4 (by decide)).1; have o3 := c13; have o4 := r_6; have o5 := g10; have o6 := h73.2; have o7 := r_5; have o8 := rA3; have o9 := rA4; unfold q_r at o4 o5 o6 o7 o8 o9; omega) (h73.2).2)
    refine q_lv [3, 5, 6, 1, 0] rfl ?_
    exact J52 _ v46 x3 rA3 (Nat.lt_succ_self _)
  intro c29
  refine q_iconst (pc := 32) hG dX10_mostBegunAt_32 ki_m1 ?_
  exact q_irt hG hE dX10_mostBegunAt_33 ⟨rfl, (q_r.mono rl_m1 (by decide))⟩
theorem dX10_mostFrom_0 : decode cX10_mostFrom 0 = .ok (.iload_n 3, 1) := by decide +kernel
theorem dX10_mostFrom_1 : decode cX10_mostFrom 1 = .ok (.aload_n 1, 1) := by decide +kernel
theorem dX10_mostFrom_2 : decode cX10_mostFrom 2 = .ok (.getfield 20, 3) := by decide +kernel
theorem dX10_mostFrom_5 : decode cX10_mostFrom 5 = .ok (.if_icmp .ge 16, 3) := by decide +kernel
theorem dX10_mostFrom_8 : decode cX10_mostFrom 8 = .ok (.aload_n 0, 1) := by decide +kernel
theorem dX10_mostFrom_9 : decode cX10_mostFrom 9 = .ok (.getfield 11, 3) := by decide +kernel
theorem dX10_mostFrom_12 : decode cX10_mostFrom 12 = .ok (.iload_n 2, 1) := by decide +kernel
theorem dX10_mostFrom_13 : decode cX10_mostFrom 13 = .ok (.aaload, 1) := by decide +kernel
theorem dX10_mostFrom_14 : decode cX10_mostFrom 14 = .ok (.iload_n 3, 1) := by decide +kernel
theorem dX10_mostFrom_15 : decode cX10_mostFrom 15 = .ok (.iconst 1, 1) := by decide +kernel
theorem dX10_mostFrom_16 : decode cX10_mostFrom 16 = .ok (.iadd, 1) := by decide +kernel
theorem dX10_mostFrom_17 : decode cX10_mostFrom 17 = .ok (.iaload, 1) := by decide +kernel
theorem dX10_mostFrom_18 : decode cX10_mostFrom 18 = .ok (.goto 4, 3) := by decide +kernel
theorem dX10_mostFrom_21 : decode cX10_mostFrom 21 = .ok (.iconst (-1), 1) := by decide +kernel
theorem dX10_mostFrom_22 : decode cX10_mostFrom 22 = .ok (.istore 5, 2) := by decide +kernel
theorem dX10_mostFrom_24 : decode cX10_mostFrom 24 = .ok (.iload 5, 2) := by decide +kernel
theorem dX10_mostFrom_26 : decode cX10_mostFrom 26 = .ok (.aload_n 0, 1) := by decide +kernel
theorem dX10_mostFrom_27 : decode cX10_mostFrom 27 = .ok (.aload_n 1, 1) := by decide +kernel
theorem dX10_mostFrom_28 : decode cX10_mostFrom 28 = .ok (.iload_n 2, 1) := by decide +kernel
theorem dX10_mostFrom_29 : decode cX10_mostFrom 29 = .ok (.iload_n 3, 1) := by decide +kernel
theorem dX10_mostFrom_30 : decode cX10_mostFrom 30 = .ok (.iload 4, 2) := by decide +kernel
theorem dX10_mostFrom_32 : decode cX10_mostFrom 32 = .ok (.invokevirtual 30, 3) := by decide +kernel
theorem dX10_mostFrom_35 : decode cX10_mostFrom 35 = .ok (.invokestatic 33, 3) := by decide +kernel
theorem dX10_mostFrom_38 : decode cX10_mostFrom 38 = .ok (.ireturn, 1) := by decide +kernel
set_option maxRecDepth 100000 in
set_option maxHeartbeats 4000000 in
theorem c_X10_mostFrom {l : Launch} {D : q_D} (τ : q_T) (σ : q_V) (a0 : Nat) (a1 : Nat) (x2 : Int32) (x3 : Int32) (x4 : Int32) (hI : q_I τ σ) (tA0 : τ a0 = some (8, 1)) (tA1 : τ a1 = some (6, 1)) (rA2 : q_r x2 1 4) (rA3 : q_r x3 0 64) (rA4 : q_r x4 1 16) : q_Cp l D yX10_mostFrom cX10_mostFrom 6 (some .int) 1 26 τ σ [.ref a0, .ref a1, .int x2, .int x3, .int x4] (fun r => q_r r (-2147483648) 2147483647) := by
  refine q_meti rfl (Nat.le_of_ble_eq_true rfl) (fun X hG hE => ?_)
  show q_O X 0 0 τ σ 0 [(0, .ref a0), (1, .ref a1), (2, .int x2), (3, .int x3), (4, .int x4)] []
  refine q_iload_n (pc := 0) hG dX10_mostFrom_0 3 rfl ?_
  refine q_aload_n (pc := 1) hG dX10_mostFrom_1 1 rfl ?_
  refine q_getI (pc := 2) hG fl_X10_20 dX10_mostFrom_2 hI tA1 ff_6_0 (fun v2 f2 g2 => ?_)
  have J22 : ∀ (p22_s0 : Int32), q_O X 0 0 τ σ 22 [(0, .ref a0), (1, .ref a1), (2, .int x2), (3, .int x3), (4, .int x4)] [.int p22_s0] := by
    intro p22_s0
    refine q_istore (pc := 22) [(5, .int p22_s0), (0, .ref a0), (1, .ref a1), (2, .int x2), (3, .int x3), (4, .int x4)] hG dX10_mostFrom_22 (by decide) rfl ?_
    refine q_iload (pc := 24) hG dX10_mostFrom_24 0 rfl ?_
    refine q_aload_n (pc := 26) hG dX10_mostFrom_26 1 rfl ?_
    refine q_aload_n (pc := 27) hG dX10_mostFrom_27 2 rfl ?_
    refine q_iload_n (pc := 28) hG dX10_mostFrom_28 3 rfl ?_
    refine q_iload_n (pc := 29) hG dX10_mostFrom_29 4 rfl ?_
    refine q_iload (pc := 30) hG dX10_mostFrom_30 5 rfl ?_
    refine q_pV (pc := 32) [.ref a1, .int x2, .int x3, .int x4] [.int p22_s0] hG (c_X10_mostBegunAt τ σ a0 a1 x2 x3 x4 hI tA0 tA1 (q_r.mono rA2 (by decide)) rA3 rA4) my_X10_mostBegunAt mv_X10_mostBegunAt w716 dX10_mostFrom_32 tA0 (by decide) rfl rfl (Nat.le_of_ble_eq_true rfl) (by decide) (fun v32 p32 => ?_)
    refine q_pS (pc := 35) [.int p22_s0, .int v32] [] hG (c_J9_max_7cf53 τ σ p22_s0 v32 hI) my_J9_max_7cf53 w262 w719 dX10_mostFrom_35 rfl rfl (Nat.le_of_ble_eq_true rfl) (by decide) (fun v35 p35 => ?_)
    have r_1 := q_maxN (lo := (-2147483648)) (hi := 2147483647) p35.2.2 (q_r_any p22_s0) p32 (by decide)
    exact q_irt hG hE dX10_mostFrom_38 ⟨rfl, r_1⟩
  refine q_icmp_ge (pc := 5) hG 21 dX10_mostFrom_5 rfl ?_ ?_
  · intro c5
    refine q_iconst (pc := 21) hG dX10_mostFrom_21 ki_m1 ?_
    refine q_lv [0, 1, 2, 3, 4] rfl ?_
    exact J22 (-1)
  intro c5
  refine q_aload_n (pc := 8) hG dX10_mostFrom_8 0 rfl ?_
  refine q_getR (pc := 9) (k2 := 400) (n2 := 5) hG fl_X10_11 dX10_mostFrom_9 hI tA0 ff_8_0 (fun b9 f9 T9 => ?_)
  refine q_iload_n (pc := 12) hG dX10_mostFrom_12 2 rfl ?_
  refine q_aald (pc := 13) hG dX10_mostFrom_13 hI T9 (q_ix rA2 (by decide)) (fun b13 e13 T13 => ?_)
  refine q_iload_n (pc := 14) hG dX10_mostFrom_14 3 rfl ?_
  refine q_iconst (pc := 15) hG dX10_mostFrom_15 ki_1 ?_
  refine q_iadd (pc := 16) hG dX10_mostFrom_16 (fun v16 e16 => ?_)
  have r_2 := q_rlt rA3 g2 c5 63 (by decide)
  have r_3 := (q_addN (lo := 1) (hi := 64) e16 r_2 rl_1 (by decide)).2
  refine q_iald (pc := 17) hG dX10_mostFrom_17 hI ai_140 T13 (q_ix r_3 (by decide)) (fun v17 f17 g17 => ?_)
  refine q_goto (pc := 18) 22 hG dX10_mostFrom_18 rfl ?_
  refine q_lv [0, 1, 2, 3, 4] rfl ?_
  exact J22 v17
theorem dX10_choose_0 : decode cX10_choose 0 = .ok (.iconst 0, 1) := by decide +kernel
theorem dX10_choose_1 : decode cX10_choose 1 = .ok (.istore 4, 2) := by decide +kernel
theorem dX10_choose_3 : decode cX10_choose 3 = .ok (.iload 4, 2) := by decide +kernel
theorem dX10_choose_5 : decode cX10_choose 5 = .ok (.iload_n 2, 1) := by decide +kernel
theorem dX10_choose_6 : decode cX10_choose 6 = .ok (.if_icmp .gt 61, 3) := by decide +kernel
theorem dX10_choose_9 : decode cX10_choose 9 = .ok (.iload 4, 2) := by decide +kernel
theorem dX10_choose_11 : decode cX10_choose 11 = .ok (.iconst 4, 1) := by decide +kernel
theorem dX10_choose_12 : decode cX10_choose 12 = .ok (.if_icmp .gt 55, 3) := by decide +kernel
theorem dX10_choose_15 : decode cX10_choose 15 = .ok (.aload_n 1, 1) := by decide +kernel
theorem dX10_choose_16 : decode cX10_choose 16 = .ok (.getfield 20, 3) := by decide +kernel
theorem dX10_choose_19 : decode cX10_choose 19 = .ok (.istore 5, 2) := by decide +kernel
theorem dX10_choose_21 : decode cX10_choose 21 = .ok (.iload 5, 2) := by decide +kernel
theorem dX10_choose_23 : decode cX10_choose 23 = .ok (.ifCond .lt 38, 3) := by decide +kernel
theorem dX10_choose_26 : decode cX10_choose 26 = .ok (.aload_n 0, 1) := by decide +kernel
theorem dX10_choose_27 : decode cX10_choose 27 = .ok (.getfield 11, 3) := by decide +kernel
theorem dX10_choose_30 : decode cX10_choose 30 = .ok (.iload 4, 2) := by decide +kernel
theorem dX10_choose_32 : decode cX10_choose 32 = .ok (.aaload, 1) := by decide +kernel
theorem dX10_choose_33 : decode cX10_choose 33 = .ok (.iload 5, 2) := by decide +kernel
theorem dX10_choose_35 : decode cX10_choose 35 = .ok (.iload 4, 2) := by decide +kernel
theorem dX10_choose_37 : decode cX10_choose 37 = .ok (.ifCond .ne 7, 3) := by decide +kernel
theorem dX10_choose_40 : decode cX10_choose 40 = .ok (.iconst 0, 1) := by decide +kernel
theorem dX10_choose_41 : decode cX10_choose 41 = .ok (.goto 13, 3) := by decide +kernel
theorem dX10_choose_44 : decode cX10_choose 44 = .ok (.aload_n 0, 1) := by decide +kernel
theorem dX10_choose_45 : decode cX10_choose 45 = .ok (.aload_n 1, 1) := by decide +kernel
theorem dX10_choose_46 : decode cX10_choose 46 = .ok (.iload 4, 2) := by decide +kernel
theorem dX10_choose_48 : decode cX10_choose 48 = .ok (.iload 5, 2) := by decide +kernel
theorem dX10_choose_50 : decode cX10_choose 50 = .ok (.iload_n 3, 1) := by decide +kernel
theorem dX10_choose_51 : decode cX10_choose 51 = .ok (.invokevirtual 26, 3) := by decide +kernel
theorem dX10_choose_54 : decode cX10_choose 54 = .ok (.iastore, 1) := by decide +kernel
theorem dX10_choose_55 : decode cX10_choose 55 = .ok (.iinc 5 (-1), 3) := by decide +kernel
theorem dX10_choose_58 : decode cX10_choose 58 = .ok (.goto (-37), 3) := by decide +kernel
theorem dX10_choose_61 : decode cX10_choose 61 = .ok (.iinc 4 1, 3) := by decide +kernel
theorem dX10_choose_64 : decode cX10_choose 64 = .ok (.goto (-61), 3) := by decide +kernel
theorem dX10_choose_67 : decode cX10_choose 67 = .ok (.iload_n 2, 1) := by decide +kernel
theorem dX10_choose_68 : decode cX10_choose 68 = .ok (.istore 4, 2) := by decide +kernel
theorem dX10_choose_70 : decode cX10_choose 70 = .ok (.iconst 0, 1) := by decide +kernel
theorem dX10_choose_71 : decode cX10_choose 71 = .ok (.istore 5, 2) := by decide +kernel
theorem dX10_choose_73 : decode cX10_choose 73 = .ok (.iconst 0, 1) := by decide +kernel
theorem dX10_choose_74 : decode cX10_choose 74 = .ok (.istore 6, 2) := by decide +kernel
theorem dX10_choose_76 : decode cX10_choose 76 = .ok (.iload 6, 2) := by decide +kernel
theorem dX10_choose_78 : decode cX10_choose 78 = .ok (.aload_n 1, 1) := by decide +kernel
theorem dX10_choose_79 : decode cX10_choose 79 = .ok (.getfield 20, 3) := by decide +kernel
theorem dX10_choose_82 : decode cX10_choose 82 = .ok (.if_icmp .ge 81, 3) := by decide +kernel
theorem dX10_choose_85 : decode cX10_choose 85 = .ok (.iload 4, 2) := by decide +kernel
theorem dX10_choose_87 : decode cX10_choose 87 = .ok (.ifCond .le 76, 3) := by decide +kernel
theorem dX10_choose_90 : decode cX10_choose 90 = .ok (.iload 5, 2) := by decide +kernel
theorem dX10_choose_92 : decode cX10_choose 92 = .ok (.aload_n 1, 1) := by decide +kernel
theorem dX10_choose_93 : decode cX10_choose 93 = .ok (.getfield 20, 3) := by decide +kernel
theorem dX10_choose_96 : decode cX10_choose 96 = .ok (.if_icmp .ge 67, 3) := by decide +kernel
theorem dX10_choose_99 : decode cX10_choose 99 = .ok (.aload_n 0, 1) := by decide +kernel
theorem dX10_choose_100 : decode cX10_choose 100 = .ok (.aload_n 1, 1) := by decide +kernel
theorem dX10_choose_101 : decode cX10_choose 101 = .ok (.iload 4, 2) := by decide +kernel
theorem dX10_choose_103 : decode cX10_choose 103 = .ok (.iload 5, 2) := by decide +kernel
theorem dX10_choose_105 : decode cX10_choose 105 = .ok (.iload_n 3, 1) := by decide +kernel
theorem dX10_choose_106 : decode cX10_choose 106 = .ok (.invokevirtual 30, 3) := by decide +kernel
theorem dX10_choose_109 : decode cX10_choose 109 = .ok (.istore 7, 2) := by decide +kernel
theorem dX10_choose_111 : decode cX10_choose 111 = .ok (.iload 7, 2) := by decide +kernel
theorem dX10_choose_113 : decode cX10_choose 113 = .ok (.ifCond .lt 41, 3) := by decide +kernel
theorem dX10_choose_116 : decode cX10_choose 116 = .ok (.iload 7, 2) := by decide +kernel
theorem dX10_choose_118 : decode cX10_choose 118 = .ok (.aload_n 0, 1) := by decide +kernel
theorem dX10_choose_119 : decode cX10_choose 119 = .ok (.getfield 11, 3) := by decide +kernel
theorem dX10_choose_122 : decode cX10_choose 122 = .ok (.iload 4, 2) := by decide +kernel
theorem dX10_choose_124 : decode cX10_choose 124 = .ok (.aaload, 1) := by decide +kernel
theorem dX10_choose_125 : decode cX10_choose 125 = .ok (.iload 5, 2) := by decide +kernel
theorem dX10_choose_127 : decode cX10_choose 127 = .ok (.iaload, 1) := by decide +kernel
theorem dX10_choose_128 : decode cX10_choose 128 = .ok (.if_icmp .ne 26, 3) := by decide +kernel
theorem dX10_choose_131 : decode cX10_choose 131 = .ok (.aload_n 0, 1) := by decide +kernel
theorem dX10_choose_132 : decode cX10_choose 132 = .ok (.getfield 16, 3) := by decide +kernel
theorem dX10_choose_135 : decode cX10_choose 135 = .ok (.iload_n 2, 1) := by decide +kernel
theorem dX10_choose_136 : decode cX10_choose 136 = .ok (.iload 4, 2) := by decide +kernel
theorem dX10_choose_138 : decode cX10_choose 138 = .ok (.isub, 1) := by decide +kernel
theorem dX10_choose_139 : decode cX10_choose 139 = .ok (.iload 5, 2) := by decide +kernel
theorem dX10_choose_141 : decode cX10_choose 141 = .ok (.iastore, 1) := by decide +kernel
theorem dX10_choose_142 : decode cX10_choose 142 = .ok (.iinc 4 (-1), 3) := by decide +kernel
theorem dX10_choose_145 : decode cX10_choose 145 = .ok (.iload 5, 2) := by decide +kernel
theorem dX10_choose_147 : decode cX10_choose 147 = .ok (.iload_n 3, 1) := by decide +kernel
theorem dX10_choose_148 : decode cX10_choose 148 = .ok (.iadd, 1) := by decide +kernel
theorem dX10_choose_149 : decode cX10_choose 149 = .ok (.istore 5, 2) := by decide +kernel
theorem dX10_choose_151 : decode cX10_choose 151 = .ok (.goto 6, 3) := by decide +kernel
theorem dX10_choose_154 : decode cX10_choose 154 = .ok (.iinc 5 1, 3) := by decide +kernel
theorem dX10_choose_157 : decode cX10_choose 157 = .ok (.iinc 6 1, 3) := by decide +kernel
theorem dX10_choose_160 : decode cX10_choose 160 = .ok (.goto (-84), 3) := by decide +kernel
theorem dX10_choose_163 : decode cX10_choose 163 = .ok (.aload_n 0, 1) := by decide +kernel
theorem dX10_choose_164 : decode cX10_choose 164 = .ok (.getfield 11, 3) := by decide +kernel
theorem dX10_choose_167 : decode cX10_choose 167 = .ok (.iload_n 2, 1) := by decide +kernel
theorem dX10_choose_168 : decode cX10_choose 168 = .ok (.aaload, 1) := by decide +kernel
theorem dX10_choose_169 : decode cX10_choose 169 = .ok (.iconst 0, 1) := by decide +kernel
theorem dX10_choose_170 : decode cX10_choose 170 = .ok (.iaload, 1) := by decide +kernel
theorem dX10_choose_171 : decode cX10_choose 171 = .ok (.ireturn, 1) := by decide +kernel
def md_X10_choose : List (Nat × Nat) := [(140, 0), (141, 0)]
set_option maxRecDepth 100000 in
set_option maxHeartbeats 4000000 in
theorem c_X10_choose {l : Launch} {D : q_D} (τ : q_T) (σ : q_V) (a0 : Nat) (a1 : Nat) (x2 : Int32) (x3 : Int32) (hI : q_I τ σ) (tA0 : τ a0 = some (8, 1)) (tA1 : τ a1 = some (6, 1)) (rA2 : q_r x2 1 4) (rA3 : q_r x3 1 16) : q_Ci l D yX10_choose cX10_choose 8 (some .int) 2 51 τ σ [.ref a0, .ref a1, .int x2, .int x3] (fun r σ1 => q_S md_X10_choose τ σ σ1 ∧ (q_r r (-2147483648) 2147483647)) := by
  refine q_meti rfl (Nat.le_of_ble_eq_true rfl) (fun X hG hE => ?_)
  show q_O X 0 0 τ σ 0 [(0, .ref a0), (1, .ref a1), (2, .int x2), (3, .int x3)] []
  have hS0 : q_S md_X10_choose τ σ σ := q_S.rf hI
  by_cases hz0 : x2.toInt = 1
  · have rA2 : q_r x2 1 1 := q_lit hz0
    refine q_iconst (pc := 0) hG dX10_choose_0 ki_0 ?_
    refine q_istore (pc := 1) [(4, .int 0), (0, .ref a0), (1, .ref a1), (2, .int x2), (3, .int x3)] hG dX10_choose_1 (by decide) rfl ?_
    have J3 : ∀ (n3 : Nat) (p3_4 : Int32) (σ3 : q_V), (q_r p3_4 0 2) → (q_S md_X10_choose τ σ σ3) → ((2 - p3_4.toInt).toNat < n3) → q_O X 0 0 τ σ3 3 [(0, .ref a0), (1, .ref a1), (2, .int x2), (3, .int x3), (4, .int p3_4)] [] := by
      intro n3
      induction n3 with
      | zero => intro p3_4 σ3 r3_4 hS3 hm3; exact absurd hm3 (Nat.not_lt_zero _)
      | succ n3 ih3 =>
        intro p3_4 σ3 r3_4 hS3 hm3
        refine q_iload (pc := 3) hG dX10_choose_3 4 rfl ?_
        refine q_iload_n (pc := 5) hG dX10_choose_5 2 rfl ?_
        have J67 : q_O X 0 0 τ σ3 67 [(0, .ref a0), (1, .ref a1), (2, .int x2), (3, .int x3)] [] := by
          refine q_iload_n (pc := 67) hG dX10_choose_67 2 rfl ?_
          refine q_istore (pc := 68) [(4, .int x2), (0, .ref a0), (1, .ref a1), (2, .int x2), (3, .int x3)] hG dX10_choose_68 (by decide) rfl ?_
          refine q_iconst (pc := 70) hG dX10_choose_70 ki_0 ?_
          refine q_istore (pc := 71) [(5, .int 0), (4, .int x2), (0, .ref a0), (1, .ref a1), (2, .int x2), (3, .int x3)] hG dX10_choose_71 (by decide) rfl ?_
          refine q_iconst (pc := 73) hG dX10_choose_73 ki_0 ?_
          refine q_istore (pc := 74) [(6, .int 0), (5, .int 0), (4, .int x2), (0, .ref a0), (1, .ref a1), (2, .int x2), (3, .int x3)] hG dX10_choose_74 (by decide) rfl ?_
          have J76 : ∀ (n76 : Nat) (p76_4 : Int32) (p76_5 : Int32) (p76_6 : Int32) (σ76 : q_V), (q_r p76_4 0 1) → (q_r p76_5 0 79) → (q_r p76_6 0 64) → (q_S md_X10_choose τ σ σ76) → ((64 - p76_6.toInt).toNat < n76) → q_O X 0 0 τ σ76 76 [(0, .ref a0), (1, .ref a1), (2, .int x2), (3, .int x3), (4, .int p76_4), (5, .int p76_5), (6, .int p76_6)] [] := by
            intro n76
            induction n76 with
            | zero => intro p76_4 p76_5 p76_6 σ76 r76_4 r76_5 r76_6 hS76 hm76; exact absurd hm76 (Nat.not_lt_zero _)
            | succ n76 ih76 =>
              intro p76_4 p76_5 p76_6 σ76 r76_4 r76_5 r76_6 hS76 hm76
              refine q_iload (pc := 76) hG dX10_choose_76 6 rfl ?_
              refine q_aload_n (pc := 78) hG dX10_choose_78 1 rfl ?_
              refine q_getI (pc := 79) hG fl_X10_20 dX10_choose_79 hS76.1 tA1 ff_6_0 (fun v79 f79 g79 => ?_)
              have f_1 := (hS76.2 _ _ _ _ tA1 rfl).symm.trans f79
              have J163 : q_O X 0 0 τ σ76 163 [(0, .ref a0), (2, .int x2)] [] := by
                refine q_aload_n (pc := 163) hG dX10_choose_163 0 rfl ?_
                refine q_getR (pc := 164) (k2 := 400) (n2 := 5) hG fl_X10_11 dX10_choose_164 hS76.1 tA0 ff_8_0 (fun b164 f164 T164 => ?_)
                have f_2 := (hS76.2 _ _ _ _ tA0 rfl).symm.trans f164
                refine q_iload_n (pc := 167) hG dX10_choose_167 1 rfl ?_
                refine q_aald (pc := 168) hG dX10_choose_168 hS76.1 T164 (q_ix rA2 (by decide)) (fun b168 e168 T168 => ?_)
                refine q_iconst (pc := 169) hG dX10_choose_169 ki_0 ?_
                refine q_iald (pc := 170) hG dX10_choose_170 hS76.1 ai_140 T168 (q_ix rl_0 (by decide)) (fun v170 f170 g170 => ?_)
                exact q_irt hG hE dX10_choose_171 ⟨hS76, g170⟩
              refine q_icmp_ge (pc := 82) hG 163 dX10_choose_82 rfl ?_ ?_
              · intro c82
                refine q_lv [0, 2] rfl ?_
                exact J163 
              intro c82
              refine q_iload (pc := 85) hG dX10_choose_85 4 rfl ?_
              refine q_if_le (pc := 87) hG 163 dX10_choose_87 rfl ?_ ?_
              · intro c87
                refine q_lv [0, 2] rfl ?_
                exact J163 
              intro c87
              refine q_iload (pc := 90) hG dX10_choose_90 5 rfl ?_
              refine q_aload_n (pc := 92) hG dX10_choose_92 1 rfl ?_
              refine q_getV (pc := 93) (v := .int v79) hG fl_X10_20 dX10_choose_93 tA1 (hS76.same tA1 rfl f_1) ?_
              refine q_icmp_ge (pc := 96) hG 163 dX10_choose_96 rfl ?_ ?_
              · intro c96
                refine q_lv [0, 2] rfl ?_
                exact J163 
              intro c96
              refine q_aload_n (pc := 99) hG dX10_choose_99 0 rfl ?_
              refine q_aload_n (pc := 100) hG dX10_choose_100 1 rfl ?_
              refine q_iload (pc := 101) hG dX10_choose_101 4 rfl ?_
              refine q_iload (pc := 103) hG dX10_choose_103 5 rfl ?_
              refine q_iload_n (pc := 105) hG dX10_choose_105 3 rfl ?_
              have r_3 := q_zgt r76_4 c87
              have r_4 := q_rlt r76_5 g79 c96 63 (by decide)
              refine q_pV (pc := 106) [.ref a1, .int p76_4, .int p76_5, .int x3] [] hG (c_X10_mostBegunAt τ σ76 a0 a1 p76_4 p76_5 x3 hS76.1 tA0 tA1 (q_r.mono r_3 (by decide)) (q_r.mono r_4 (by decide)) rA3) my_X10_mostBegunAt mv_X10_mostBegunAt w716 dX10_choose_106 tA0 (by decide) rfl rfl (Nat.le_of_ble_eq_true rfl) (by decide) (fun v106 p106 => ?_)
              refine q_istore (pc := 109) [(7, .int v106), (0, .ref a0), (1, .ref a1), (2, .int x2), (3, .int x3), (4, .int p76_4), (5, .int p76_5), (6, .int p76_6)] hG dX10_choose_109 (by decide) rfl ?_
              refine q_iload (pc := 111) hG dX10_choose_111 0 rfl ?_
              have J157 : ∀ (p157_4 : Int32) (p157_5 : Int32) (σ157 : q_V), (q_r p157_4 0 1) → (q_r p157_5 1 79) → (q_S md_X10_choose τ σ σ157) → q_O X 0 0 τ σ157 157 [(0, .ref a0), (1, .ref a1), (2, .int x2), (3, .int x3), (4, .int p157_4), (5, .int p157_5), (6, .int p76_6)] [] := by
                intro p157_4 p157_5 σ157 r157_4 r157_5 hS157
                obtain ⟨v157, e157⟩ : ∃ z : Int32, z = p76_6 + Int32.ofInt 1 := ⟨_, rfl⟩
                have r_5 := q_rlt r76_6 g79 c82 63 (by decide)
                have h157 := q_incN (lo := 1) (hi := 64) r_5 (by decide) (by decide) e157
                refine q_iinc (pc := 157) [(6, .int v157), (0, .ref a0), (1, .ref a1), (2, .int x2), (3, .int x3), (4, .int p157_4), (5, .int p157_5)] hG dX10_choose_157 6 rfl e157 (by decide) rfl ?_
                refine q_goto (pc := 160) 76 hG dX10_choose_160 rfl ?_
                refine q_lv [1, 2, 3, 4, 5, 6, 0] rfl ?_
                exact ih76 p157_4 p157_5 v157 σ157 r157_4 (q_r.mono r157_5 (by decide)) (q_r.mono h157.2 (by decide)) hS157 (q_measU hm76 (by have o0 := c82; have o1 := c96; have o2 := h157.1; have o3 := r_4; have o4 := r_5; have o5 := h157.2; have o6 := g79; unfold q_r at o3 o4 o5 o6; omega) (h157.2).2)
              have J154 : q_O X 0 0 τ σ76 154 [(0, .ref a0), (1, .ref a1), (2, .int x2), (3, .int x3), (4, .int p76_4), (5, .int p76_5), (6, .int p76_6)] [] := by
                obtain ⟨v154, e154⟩ : ∃ z : Int32, z = p76_5 + Int32.ofInt 1 := ⟨_, rfl⟩
                have h154 := q_incN (lo := 1) (hi := 64) r_4 (by decide) (by decide) e154
                refine q_iinc (pc := 154) [(5, .int v154), (0, .ref a0), (1, .ref a1), (2, .int x2), (3, .int x3), (4, .int p76_4), (6, .int p76_6)] hG dX10_choose_154 5 rfl e154 (by decide) rfl ?_
                refine q_lv [1, 2, 3, 4, 5, 0, 6] rfl ?_
                exact J157 p76_4 v154 σ76 (q_r.mono r_3 (by decide)) (q_r.mono h154.2 (by decide)) hS76
              refine q_if_lt (pc := 113) hG 154 dX10_choose_113 rfl ?_ ?_
              · intro c113
                refine q_lv [1, 2, 3, 4, 5, 6, 7] rfl ?_
                exact J154 
              intro c113
              refine q_iload (pc := 116) hG dX10_choose_116 0 rfl ?_
              refine q_aload_n (pc := 118) hG dX10_choose_118 1 rfl ?_
              refine q_getR (pc := 119) (k2 := 400) (n2 := 5) hG fl_X10_11 dX10_choose_119 hS76.1 tA0 ff_8_0 (fun b119 f119 T119 => ?_)
              have f_6 := (hS76.2 _ _ _ _ tA0 rfl).symm.trans f119
              refine q_iload (pc := 122) hG dX10_choose_122 5 rfl ?_
              refine q_aald (pc := 124) hG dX10_choose_124 hS76.1 T119 (q_ix r_3 (by decide)) (fun b124 e124 T124 => ?_)
              refine q_iload (pc := 125) hG dX10_choose_125 6 rfl ?_
              refine q_iald (pc := 127) hG dX10_choose_127 hS76.1 ai_140 T124 (q_ix r_4 (by decide)) (fun v127 f127 g127 => ?_)
              refine q_icmp_ne (pc := 128) hG 154 dX10_choose_128 rfl ?_ ?_
              · intro c128
                have r_7 := q_zge p106 c113
                refine q_lv [1, 2, 3, 4, 5, 6, 7] rfl ?_
                exact J154 
              intro c128
              have r_8 := q_zge p106 c113
              refine q_aload_n (pc := 131) hG dX10_choose_131 1 rfl ?_
              refine q_getR (pc := 132) (k2 := 141) (n2 := 4) hG fl_X10_16 dX10_choose_132 hS76.1 tA0 ff_8_1 (fun b132 f132 T132 => ?_)
              have f_9 := (hS76.2 _ _ _ _ tA0 rfl).symm.trans f132
              refine q_iload_n (pc := 135) hG dX10_choose_135 3 rfl ?_
              refine q_iload (pc := 136) hG dX10_choose_136 5 rfl ?_
              refine q_isub (pc := 138) hG dX10_choose_138 (fun v138 e138 => ?_)
              refine q_iload (pc := 139) hG dX10_choose_139 6 rfl ?_
              have r_10 := (q_subN (lo := 0) (hi := 0) e138 rA2 r_3 (by decide)).2
              refine q_iast (pc := 141) hG dX10_choose_141 hS76 ai_141 T132 (q_ix r_10 (by decide)) r_4 (by decide) rfl (fun s141 u141 w141 => ?_)
              have m141 : s141 b132 v138.toInt.toNat = .int p76_5 := by rw [u141]; exact q_up_same
              obtain ⟨v142, e142⟩ : ∃ z : Int32, z = p76_4 + Int32.ofInt (-1) := ⟨_, rfl⟩
              have h142 := q_incN (lo := 0) (hi := 0) r_3 (by decide) (by decide) e142
              refine q_iinc (pc := 142) [(4, .int v142), (7, .int v106), (0, .ref a0), (1, .ref a1), (2, .int x2), (3, .int x3), (5, .int p76_5), (6, .int p76_6)] hG dX10_choose_142 5 rfl e142 (by decide) rfl ?_
              refine q_iload (pc := 145) hG dX10_choose_145 6 rfl ?_
              refine q_iload_n (pc := 147) hG dX10_choose_147 5 rfl ?_
              refine q_iadd (pc := 148) hG dX10_choose_148 (fun v148 e148 => ?_)
              refine q_istore (pc := 149) [(5, .int v148), (4, .int v142), (7, .int v106), (0, .ref a0), (1, .ref a1), (2, .int x2), (3, .int x3), (6, .int p76_6)] hG dX10_choose_149 (by decide) rfl ?_
              refine q_goto (pc := 151) 157 hG dX10_choose_151 rfl ?_
              refine q_lv [3, 4, 5, 6, 1, 0, 7] rfl ?_
              have r_11 := (q_addN (lo := 1) (hi := 79) e148 r_4 rA3 (by decide)).2
              exact J157 v142 v148 s141 (q_r.mono h142.2 (by decide)) r_11 w141
          refine q_lv [3, 4, 5, 6, 2, 1, 0] rfl ?_
          exact J76 _ x2 0 0 σ3 (q_r.mono rA2 (by decide)) (q_r.mono rl_0 (by decide)) (q_r.mono rl_0 (by decide)) hS3 (Nat.lt_succ_self _)
        refine q_icmp_gt (pc := 6) hG 67 dX10_choose_6 rfl ?_ ?_
        · intro c6
          refine q_lv [0, 1, 2, 3] rfl ?_
          exact J67 
        intro c6
        refine q_iload (pc := 9) hG dX10_choose_9 4 rfl ?_
        refine q_iconst (pc := 11) hG dX10_choose_11 ki_4 ?_
        refine q_icmp_gt (pc := 12) hG 67 dX10_choose_12 rfl ?_ ?_
        · intro c12
          have r_12 := q_rle r3_4 rA2 c6
          exact absurd c12 (by have l0 := tl_4; have q0 := r_12; unfold q_r at q0; omega)
        intro c12
        have r_13 := q_rle r3_4 rA2 c6
        refine q_aload_n (pc := 15) hG dX10_choose_15 1 rfl ?_
        refine q_getI (pc := 16) hG fl_X10_20 dX10_choose_16 hS3.1 tA1 ff_6_0 (fun v16 f16 g16 => ?_)
        have f_14 := (hS3.2 _ _ _ _ tA1 rfl).symm.trans f16
        refine q_istore (pc := 19) [(5, .int v16), (0, .ref a0), (1, .ref a1), (2, .int x2), (3, .int x3), (4, .int p3_4)] hG dX10_choose_19 (by decide) rfl ?_
        have J21 : ∀ (n21 : Nat) (p21_5 : Int32) (σ21 : q_V), (q_r p21_5 (-1) 64) → (q_S md_X10_choose τ σ σ21) → ((p21_5.toInt - (-1)).toNat < n21) → q_O X 0 0 τ σ21 21 [(0, .ref a0), (1, .ref a1), (2, .int x2), (3, .int x3), (4, .int p3_4), (5, .int p21_5)] [] := by
          intro n21
          induction n21 with
          | zero => intro p21_5 σ21 r21_5 hS21 hm21; exact absurd hm21 (Nat.not_lt_zero _)
          | succ n21 ih21 =>
            intro p21_5 σ21 r21_5 hS21 hm21
            refine q_iload (pc := 21) hG dX10_choose_21 5 rfl ?_
            refine q_if_lt (pc := 23) hG 61 dX10_choose_23 rfl ?_ ?_
            · intro c23
              obtain ⟨v61, e61⟩ : ∃ z : Int32, z = p3_4 + Int32.ofInt 1 := ⟨_, rfl⟩
              have h61 := q_incN (lo := 1) (hi := 2) r_13 (by decide) (by decide) e61
              refine q_iinc (pc := 61) [(4, .int v61), (0, .ref a0), (1, .ref a1), (2, .int x2), (3, .int x3), (5, .int p21_5)] hG dX10_choose_61 4 rfl e61 (by decide) rfl ?_
              refine q_goto (pc := 64) 3 hG dX10_choose_64 rfl ?_
              refine q_lv [1, 2, 3, 4, 0] rfl ?_
              exact ih3 v61 σ21 (q_r.mono h61.2 (by decide)) hS21 (q_measU hm3 (by have o0 := c6; have o1 := c12; have o2 := h61.1; have o3 := r_13; have o4 := h61.2; have o5 := rA2; have l6 := tl_4; unfold q_r at o3 o4 o5; omega) (h61.2).2)
            intro c23
            refine q_aload_n (pc := 26) hG dX10_choose_26 0 rfl ?_
            refine q_getR (pc := 27) (k2 := 400) (n2 := 5) hG fl_X10_11 dX10_choose_27 hS21.1 tA0 ff_8_0 (fun b27 f27 T27 => ?_)
            have f_15 := (hS21.2 _ _ _ _ tA0 rfl).symm.trans f27
            refine q_iload (pc := 30) hG dX10_choose_30 4 rfl ?_
            refine q_aald (pc := 32) hG dX10_choose_32 hS21.1 T27 (q_ix r_13 (by decide)) (fun b32 e32 T32 => ?_)
            refine q_iload (pc := 33) hG dX10_choose_33 5 rfl ?_
            refine q_iload (pc := 35) hG dX10_choose_35 4 rfl ?_
            have J54 : ∀ (p54_s0 : Int32), q_O X 0 0 τ σ21 54 [(0, .ref a0), (1, .ref a1), (2, .int x2), (3, .int x3), (4, .int p3_4), (5, .int p21_5)] [.int p54_s0, .int p21_5, .ref b32] := by
              intro p54_s0
              have r_16 := q_zge r21_5 c23
              refine q_iast (pc := 54) hG dX10_choose_54 hS21 ai_140 T32 (q_ix r_16 (by decide)) (q_r_any p54_s0) (by decide) rfl (fun s54 u54 w54 => ?_)
              have m54 : s54 b32 p21_5.toInt.toNat = .int p54_s0 := by rw [u54]; exact q_up_same
              obtain ⟨v55, e55⟩ : ∃ z : Int32, z = p21_5 + Int32.ofInt (-1) := ⟨_, rfl⟩
              have h55 := q_incN (lo := (-1)) (hi := 63) r_16 (by decide) (by decide) e55
              refine q_iinc (pc := 55) [(5, .int v55), (0, .ref a0), (1, .ref a1), (2, .int x2), (3, .int x3), (4, .int p3_4)] hG dX10_choose_55 5 rfl e55 (by decide) rfl ?_
              refine q_goto (pc := 58) 21 hG dX10_choose_58 rfl ?_
              refine q_lv [1, 2, 3, 4, 5, 0] rfl ?_
              exact ih21 v55 s54 (q_r.mono h55.2 (by decide)) w54 (q_measD hm21 (by have o0 := c23; have o1 := h55.1; have o2 := r_16; have o3 := h55.2; unfold q_r at o2 o3; omega) (h55.2).1)
            refine q_if_ne (pc := 37) hG 44 dX10_choose_37 rfl ?_ ?_
            · intro c37
              refine q_aload_n (pc := 44) hG dX10_choose_44 0 rfl ?_
              refine q_aload_n (pc := 45) hG dX10_choose_45 1 rfl ?_
              refine q_iload (pc := 46) hG dX10_choose_46 4 rfl ?_
              refine q_iload (pc := 48) hG dX10_choose_48 5 rfl ?_
              refine q_iload_n (pc := 50) hG dX10_choose_50 3 rfl ?_
              have r_17 := q_neL (c := 1) r_13 c37 (by decide)
              have r_18 := q_zge r21_5 c23
              refine q_pV (pc := 51) [.ref a1, .int p3_4, .int p21_5, .int x3] [.int p21_5, .ref b32] hG (c_X10_mostFrom τ σ21 a0 a1 p3_4 p21_5 x3 hS21.1 tA0 tA1 (q_r.mono r_17 (by decide)) r_18 rA3) my_X10_mostFrom mv_X10_mostFrom w713 dX10_choose_51 tA0 (by decide) rfl rfl (Nat.le_of_ble_eq_true rfl) (by decide) (fun v51 p51 => ?_)
              refine q_lv [0, 1, 2, 3, 4, 5] rfl ?_
              exact J54 v51
            intro c37
            refine q_iconst (pc := 40) hG dX10_choose_40 ki_0 ?_
            refine q_goto (pc := 41) 54 hG dX10_choose_41 rfl ?_
            refine q_lv [0, 1, 2, 3, 4, 5] rfl ?_
            exact J54 0
        refine q_lv [1, 2, 3, 4, 5, 0] rfl ?_
        exact J21 _ v16 σ3 (q_r.mono g16 (by decide)) hS3 (Nat.lt_succ_self _)
    refine q_lv [1, 2, 3, 4, 0] rfl ?_
    exact J3 _ 0 σ (q_r.mono rl_0 (by decide)) hS0 (Nat.lt_succ_self _)
  by_cases hz1 : x2.toInt = 2
  · have rA2 : q_r x2 2 2 := q_lit hz1
    refine q_iconst (pc := 0) hG dX10_choose_0 ki_0 ?_
    refine q_istore (pc := 1) [(4, .int 0), (0, .ref a0), (1, .ref a1), (2, .int x2), (3, .int x3)] hG dX10_choose_1 (by decide) rfl ?_
    have J3 : ∀ (n3 : Nat) (p3_4 : Int32) (σ3 : q_V), (q_r p3_4 0 3) → (q_S md_X10_choose τ σ σ3) → ((3 - p3_4.toInt).toNat < n3) → q_O X 0 0 τ σ3 3 [(0, .ref a0), (1, .ref a1), (2, .int x2), (3, .int x3), (4, .int p3_4)] [] := by
      intro n3
      induction n3 with
      | zero => intro p3_4 σ3 r3_4 hS3 hm3; exact absurd hm3 (Nat.not_lt_zero _)
      | succ n3 ih3 =>
        intro p3_4 σ3 r3_4 hS3 hm3
        refine q_iload (pc := 3) hG dX10_choose_3 4 rfl ?_
        refine q_iload_n (pc := 5) hG dX10_choose_5 2 rfl ?_
        have J67 : q_O X 0 0 τ σ3 67 [(0, .ref a0), (1, .ref a1), (2, .int x2), (3, .int x3)] [] := by
          refine q_iload_n (pc := 67) hG dX10_choose_67 2 rfl ?_
          refine q_istore (pc := 68) [(4, .int x2), (0, .ref a0), (1, .ref a1), (2, .int x2), (3, .int x3)] hG dX10_choose_68 (by decide) rfl ?_
          refine q_iconst (pc := 70) hG dX10_choose_70 ki_0 ?_
          refine q_istore (pc := 71) [(5, .int 0), (4, .int x2), (0, .ref a0), (1, .ref a1), (2, .int x2), (3, .int x3)] hG dX10_choose_71 (by decide) rfl ?_
          refine q_iconst (pc := 73) hG dX10_choose_73 ki_0 ?_
          refine q_istore (pc := 74) [(6, .int 0), (5, .int 0), (4, .int x2), (0, .ref a0), (1, .ref a1), (2, .int x2), (3, .int x3)] hG dX10_choose_74 (by decide) rfl ?_
          have J76 : ∀ (n76 : Nat) (p76_4 : Int32) (p76_5 : Int32) (p76_6 : Int32) (σ76 : q_V), (q_r p76_4 0 2) → (q_r p76_5 0 79) → (q_r p76_6 0 64) → (q_S md_X10_choose τ σ σ76) → ((64 - p76_6.toInt).toNat < n76) → q_O X 0 0 τ σ76 76 [(0, .ref a0), (1, .ref a1), (2, .int x2), (3, .int x3), (4, .int p76_4), (5, .int p76_5), (6, .int p76_6)] [] := by
            intro n76
            induction n76 with
            | zero => intro p76_4 p76_5 p76_6 σ76 r76_4 r76_5 r76_6 hS76 hm76; exact absurd hm76 (Nat.not_lt_zero _)
            | succ n76 ih76 =>
              intro p76_4 p76_5 p76_6 σ76 r76_4 r76_5 r76_6 hS76 hm76
              refine q_iload (pc := 76) hG dX10_choose_76 6 rfl ?_
              refine q_aload_n (pc := 78) hG dX10_choose_78 1 rfl ?_
              refine q_getI (pc := 79) hG fl_X10_20 dX10_choose_79 hS76.1 tA1 ff_6_0 (fun v79 f79 g79 => ?_)
              have f_1 := (hS76.2 _ _ _ _ tA1 rfl).symm.trans f79
              have J163 : q_O X 0 0 τ σ76 163 [(0, .ref a0), (2, .int x2)] [] := by
                refine q_aload_n (pc := 163) hG dX10_choose_163 0 rfl ?_
                refine q_getR (pc := 164) (k2 := 400) (n2 := 5) hG fl_X10_11 dX10_choose_164 hS76.1 tA0 ff_8_0 (fun b164 f164 T164 => ?_)
                have f_2 := (hS76.2 _ _ _ _ tA0 rfl).symm.trans f164
                refine q_iload_n (pc := 167) hG dX10_choose_167 1 rfl ?_
                refine q_aald (pc := 168) hG dX10_choose_168 hS76.1 T164 (q_ix rA2 (by decide)) (fun b168 e168 T168 => ?_)
                refine q_iconst (pc := 169) hG dX10_choose_169 ki_0 ?_
                refine q_iald (pc := 170) hG dX10_choose_170 hS76.1 ai_140 T168 (q_ix rl_0 (by decide)) (fun v170 f170 g170 => ?_)
                exact q_irt hG hE dX10_choose_171 ⟨hS76, g170⟩
              refine q_icmp_ge (pc := 82) hG 163 dX10_choose_82 rfl ?_ ?_
              · intro c82
                refine q_lv [0, 2] rfl ?_
                exact J163 
              intro c82
              refine q_iload (pc := 85) hG dX10_choose_85 4 rfl ?_
              refine q_if_le (pc := 87) hG 163 dX10_choose_87 rfl ?_ ?_
              · intro c87
                refine q_lv [0, 2] rfl ?_
                exact J163 
              intro c87
              refine q_iload (pc := 90) hG dX10_choose_90 5 rfl ?_
              refine q_aload_n (pc := 92) hG dX10_choose_92 1 rfl ?_
              refine q_getV (pc := 93) (v := .int v79) hG fl_X10_20 dX10_choose_93 tA1 (hS76.same tA1 rfl f_1) ?_
              refine q_icmp_ge (pc := 96) hG 163 dX10_choose_96 rfl ?_ ?_
              · intro c96
                refine q_lv [0, 2] rfl ?_
                exact J163 
              intro c96
              refine q_aload_n (pc := 99) hG dX10_choose_99 0 rfl ?_
              refine q_aload_n (pc := 100) hG dX10_choose_100 1 rfl ?_
              refine q_iload (pc := 101) hG dX10_choose_101 4 rfl ?_
              refine q_iload (pc := 103) hG dX10_choose_103 5 rfl ?_
              refine q_iload_n (pc := 105) hG dX10_choose_105 3 rfl ?_
              have r_3 := q_zgt r76_4 c87
              have r_4 := q_rlt r76_5 g79 c96 63 (by decide)
              refine q_pV (pc := 106) [.ref a1, .int p76_4, .int p76_5, .int x3] [] hG (c_X10_mostBegunAt τ σ76 a0 a1 p76_4 p76_5 x3 hS76.1 tA0 tA1 (q_r.mono r_3 (by decide)) (q_r.mono r_4 (by decide)) rA3) my_X10_mostBegunAt mv_X10_mostBegunAt w716 dX10_choose_106 tA0 (by decide) rfl rfl (Nat.le_of_ble_eq_true rfl) (by decide) (fun v106 p106 => ?_)
              refine q_istore (pc := 109) [(7, .int v106), (0, .ref a0), (1, .ref a1), (2, .int x2), (3, .int x3), (4, .int p76_4), (5, .int p76_5), (6, .int p76_6)] hG dX10_choose_109 (by decide) rfl ?_
              refine q_iload (pc := 111) hG dX10_choose_111 0 rfl ?_
              have J157 : ∀ (p157_4 : Int32) (p157_5 : Int32) (σ157 : q_V), (q_r p157_4 0 2) → (q_r p157_5 1 79) → (q_S md_X10_choose τ σ σ157) → q_O X 0 0 τ σ157 157 [(0, .ref a0), (1, .ref a1), (2, .int x2), (3, .int x3), (4, .int p157_4), (5, .int p157_5), (6, .int p76_6)] [] := by
                intro p157_4 p157_5 σ157 r157_4 r157_5 hS157
                obtain ⟨v157, e157⟩ : ∃ z : Int32, z = p76_6 + Int32.ofInt 1 := ⟨_, rfl⟩
                have r_5 := q_rlt r76_6 g79 c82 63 (by decide)
                have h157 := q_incN (lo := 1) (hi := 64) r_5 (by decide) (by decide) e157
                refine q_iinc (pc := 157) [(6, .int v157), (0, .ref a0), (1, .ref a1), (2, .int x2), (3, .int x3), (4, .int p157_4), (5, .int p157_5)] hG dX10_choose_157 6 rfl e157 (by decide) rfl ?_
                refine q_goto (pc := 160) 76 hG dX10_choose_160 rfl ?_
                refine q_lv [1, 2, 3, 4, 5, 6, 0] rfl ?_
                exact ih76 p157_4 p157_5 v157 σ157 r157_4 (q_r.mono r157_5 (by decide)) (q_r.mono h157.2 (by decide)) hS157 (q_measU hm76 (by have o0 := c82; have o1 := c96; have o2 := h157.1; have o3 := r_4; have o4 := r_5; have o5 := h157.2; have o6 := g79; unfold q_r at o3 o4 o5 o6; omega) (h157.2).2)
              have J154 : q_O X 0 0 τ σ76 154 [(0, .ref a0), (1, .ref a1), (2, .int x2), (3, .int x3), (4, .int p76_4), (5, .int p76_5), (6, .int p76_6)] [] := by
                obtain ⟨v154, e154⟩ : ∃ z : Int32, z = p76_5 + Int32.ofInt 1 := ⟨_, rfl⟩
                have h154 := q_incN (lo := 1) (hi := 64) r_4 (by decide) (by decide) e154
                refine q_iinc (pc := 154) [(5, .int v154), (0, .ref a0), (1, .ref a1), (2, .int x2), (3, .int x3), (4, .int p76_4), (6, .int p76_6)] hG dX10_choose_154 5 rfl e154 (by decide) rfl ?_
                refine q_lv [1, 2, 3, 4, 5, 0, 6] rfl ?_
                exact J157 p76_4 v154 σ76 (q_r.mono r_3 (by decide)) (q_r.mono h154.2 (by decide)) hS76
              refine q_if_lt (pc := 113) hG 154 dX10_choose_113 rfl ?_ ?_
              · intro c113
                refine q_lv [1, 2, 3, 4, 5, 6, 7] rfl ?_
                exact J154 
              intro c113
              refine q_iload (pc := 116) hG dX10_choose_116 0 rfl ?_
              refine q_aload_n (pc := 118) hG dX10_choose_118 1 rfl ?_
              refine q_getR (pc := 119) (k2 := 400) (n2 := 5) hG fl_X10_11 dX10_choose_119 hS76.1 tA0 ff_8_0 (fun b119 f119 T119 => ?_)
              have f_6 := (hS76.2 _ _ _ _ tA0 rfl).symm.trans f119
              refine q_iload (pc := 122) hG dX10_choose_122 5 rfl ?_
              refine q_aald (pc := 124) hG dX10_choose_124 hS76.1 T119 (q_ix r_3 (by decide)) (fun b124 e124 T124 => ?_)
              refine q_iload (pc := 125) hG dX10_choose_125 6 rfl ?_
              refine q_iald (pc := 127) hG dX10_choose_127 hS76.1 ai_140 T124 (q_ix r_4 (by decide)) (fun v127 f127 g127 => ?_)
              refine q_icmp_ne (pc := 128) hG 154 dX10_choose_128 rfl ?_ ?_
              · intro c128
                have r_7 := q_zge p106 c113
                refine q_lv [1, 2, 3, 4, 5, 6, 7] rfl ?_
                exact J154 
              intro c128
              have r_8 := q_zge p106 c113
              refine q_aload_n (pc := 131) hG dX10_choose_131 1 rfl ?_
              refine q_getR (pc := 132) (k2 := 141) (n2 := 4) hG fl_X10_16 dX10_choose_132 hS76.1 tA0 ff_8_1 (fun b132 f132 T132 => ?_)
              have f_9 := (hS76.2 _ _ _ _ tA0 rfl).symm.trans f132
              refine q_iload_n (pc := 135) hG dX10_choose_135 3 rfl ?_
              refine q_iload (pc := 136) hG dX10_choose_136 5 rfl ?_
              refine q_isub (pc := 138) hG dX10_choose_138 (fun v138 e138 => ?_)
              refine q_iload (pc := 139) hG dX10_choose_139 6 rfl ?_
              have r_10 := (q_subN (lo := 0) (hi := 1) e138 rA2 r_3 (by decide)).2
              refine q_iast (pc := 141) hG dX10_choose_141 hS76 ai_141 T132 (q_ix r_10 (by decide)) r_4 (by decide) rfl (fun s141 u141 w141 => ?_)
              have m141 : s141 b132 v138.toInt.toNat = .int p76_5 := by rw [u141]; exact q_up_same
              obtain ⟨v142, e142⟩ : ∃ z : Int32, z = p76_4 + Int32.ofInt (-1) := ⟨_, rfl⟩
              have h142 := q_incN (lo := 0) (hi := 1) r_3 (by decide) (by decide) e142
              refine q_iinc (pc := 142) [(4, .int v142), (7, .int v106), (0, .ref a0), (1, .ref a1), (2, .int x2), (3, .int x3), (5, .int p76_5), (6, .int p76_6)] hG dX10_choose_142 5 rfl e142 (by decide) rfl ?_
              refine q_iload (pc := 145) hG dX10_choose_145 6 rfl ?_
              refine q_iload_n (pc := 147) hG dX10_choose_147 5 rfl ?_
              refine q_iadd (pc := 148) hG dX10_choose_148 (fun v148 e148 => ?_)
              refine q_istore (pc := 149) [(5, .int v148), (4, .int v142), (7, .int v106), (0, .ref a0), (1, .ref a1), (2, .int x2), (3, .int x3), (6, .int p76_6)] hG dX10_choose_149 (by decide) rfl ?_
              refine q_goto (pc := 151) 157 hG dX10_choose_151 rfl ?_
              refine q_lv [3, 4, 5, 6, 1, 0, 7] rfl ?_
              have r_11 := (q_addN (lo := 1) (hi := 79) e148 r_4 rA3 (by decide)).2
              exact J157 v142 v148 s141 (q_r.mono h142.2 (by decide)) r_11 w141
          refine q_lv [3, 4, 5, 6, 2, 1, 0] rfl ?_
          exact J76 _ x2 0 0 σ3 (q_r.mono rA2 (by decide)) (q_r.mono rl_0 (by decide)) (q_r.mono rl_0 (by decide)) hS3 (Nat.lt_succ_self _)
        refine q_icmp_gt (pc := 6) hG 67 dX10_choose_6 rfl ?_ ?_
        · intro c6
          refine q_lv [0, 1, 2, 3] rfl ?_
          exact J67 
        intro c6
        refine q_iload (pc := 9) hG dX10_choose_9 4 rfl ?_
        refine q_iconst (pc := 11) hG dX10_choose_11 ki_4 ?_
        refine q_icmp_gt (pc := 12) hG 67 dX10_choose_12 rfl ?_ ?_
        · intro c12
          have r_12 := q_rle r3_4 rA2 c6
          exact absurd c12 (by have l0 := tl_4; have q0 := r_12; unfold q_r at q0; omega)
        intro c12
        have r_13 := q_rle r3_4 rA2 c6
        refine q_aload_n (pc := 15) hG dX10_choose_15 1 rfl ?_
        refine q_getI (pc := 16) hG fl_X10_20 dX10_choose_16 hS3.1 tA1 ff_6_0 (fun v16 f16 g16 => ?_)
        have f_14 := (hS3.2 _ _ _ _ tA1 rfl).symm.trans f16
        refine q_istore (pc := 19) [(5, .int v16), (0, .ref a0), (1, .ref a1), (2, .int x2), (3, .int x3), (4, .int p3_4)] hG dX10_choose_19 (by decide) rfl ?_
        have J21 : ∀ (n21 : Nat) (p21_5 : Int32) (σ21 : q_V), (q_r p21_5 (-1) 64) → (q_S md_X10_choose τ σ σ21) → ((p21_5.toInt - (-1)).toNat < n21) → q_O X 0 0 τ σ21 21 [(0, .ref a0), (1, .ref a1), (2, .int x2), (3, .int x3), (4, .int p3_4), (5, .int p21_5)] [] := by
          intro n21
          induction n21 with
          | zero => intro p21_5 σ21 r21_5 hS21 hm21; exact absurd hm21 (Nat.not_lt_zero _)
          | succ n21 ih21 =>
            intro p21_5 σ21 r21_5 hS21 hm21
            refine q_iload (pc := 21) hG dX10_choose_21 5 rfl ?_
            refine q_if_lt (pc := 23) hG 61 dX10_choose_23 rfl ?_ ?_
            · intro c23
              obtain ⟨v61, e61⟩ : ∃ z : Int32, z = p3_4 + Int32.ofInt 1 := ⟨_, rfl⟩
              have h61 := q_incN (lo := 1) (hi := 3) r_13 (by decide) (by decide) e61
              refine q_iinc (pc := 61) [(4, .int v61), (0, .ref a0), (1, .ref a1), (2, .int x2), (3, .int x3), (5, .int p21_5)] hG dX10_choose_61 4 rfl e61 (by decide) rfl ?_
              refine q_goto (pc := 64) 3 hG dX10_choose_64 rfl ?_
              refine q_lv [1, 2, 3, 4, 0] rfl ?_
              exact ih3 v61 σ21 (q_r.mono h61.2 (by decide)) hS21 (q_measU hm3 (by have o0 := c6; have o1 := c12; have o2 := h61.1; have o3 := r_13; have o4 := h61.2; have o5 := rA2; have l6 := tl_4; unfold q_r at o3 o4 o5; omega) (h61.2).2)
            intro c23
            refine q_aload_n (pc := 26) hG dX10_choose_26 0 rfl ?_
            refine q_getR (pc := 27) (k2 := 400) (n2 := 5) hG fl_X10_11 dX10_choose_27 hS21.1 tA0 ff_8_0 (fun b27 f27 T27 => ?_)
            have f_15 := (hS21.2 _ _ _ _ tA0 rfl).symm.trans f27
            refine q_iload (pc := 30) hG dX10_choose_30 4 rfl ?_
            refine q_aald (pc := 32) hG dX10_choose_32 hS21.1 T27 (q_ix r_13 (by decide)) (fun b32 e32 T32 => ?_)
            refine q_iload (pc := 33) hG dX10_choose_33 5 rfl ?_
            refine q_iload (pc := 35) hG dX10_choose_35 4 rfl ?_
            have J54 : ∀ (p54_s0 : Int32), q_O X 0 0 τ σ21 54 [(0, .ref a0), (1, .ref a1), (2, .int x2), (3, .int x3), (4, .int p3_4), (5, .int p21_5)] [.int p54_s0, .int p21_5, .ref b32] := by
              intro p54_s0
              have r_16 := q_zge r21_5 c23
              refine q_iast (pc := 54) hG dX10_choose_54 hS21 ai_140 T32 (q_ix r_16 (by decide)) (q_r_any p54_s0) (by decide) rfl (fun s54 u54 w54 => ?_)
              have m54 : s54 b32 p21_5.toInt.toNat = .int p54_s0 := by rw [u54]; exact q_up_same
              obtain ⟨v55, e55⟩ : ∃ z : Int32, z = p21_5 + Int32.ofInt (-1) := ⟨_, rfl⟩
              have h55 := q_incN (lo := (-1)) (hi := 63) r_16 (by decide) (by decide) e55
              refine q_iinc (pc := 55) [(5, .int v55), (0, .ref a0), (1, .ref a1), (2, .int x2), (3, .int x3), (4, .int p3_4)] hG dX10_choose_55 5 rfl e55 (by decide) rfl ?_
              refine q_goto (pc := 58) 21 hG dX10_choose_58 rfl ?_
              refine q_lv [1, 2, 3, 4, 5, 0] rfl ?_
              exact ih21 v55 s54 (q_r.mono h55.2 (by decide)) w54 (q_measD hm21 (by have o0 := c23; have o1 := h55.1; have o2 := r_16; have o3 := h55.2; unfold q_r at o2 o3; omega) (h55.2).1)
            refine q_if_ne (pc := 37) hG 44 dX10_choose_37 rfl ?_ ?_
            · intro c37
              refine q_aload_n (pc := 44) hG dX10_choose_44 0 rfl ?_
              refine q_aload_n (pc := 45) hG dX10_choose_45 1 rfl ?_
              refine q_iload (pc := 46) hG dX10_choose_46 4 rfl ?_
              refine q_iload (pc := 48) hG dX10_choose_48 5 rfl ?_
              refine q_iload_n (pc := 50) hG dX10_choose_50 3 rfl ?_
              have r_17 := q_neL (c := 1) r_13 c37 (by decide)
              have r_18 := q_zge r21_5 c23
              refine q_pV (pc := 51) [.ref a1, .int p3_4, .int p21_5, .int x3] [.int p21_5, .ref b32] hG (c_X10_mostFrom τ σ21 a0 a1 p3_4 p21_5 x3 hS21.1 tA0 tA1 (q_r.mono r_17 (by decide)) r_18 rA3) my_X10_mostFrom mv_X10_mostFrom w713 dX10_choose_51 tA0 (by decide) rfl rfl (Nat.le_of_ble_eq_true rfl) (by decide) (fun v51 p51 => ?_)
              refine q_lv [0, 1, 2, 3, 4, 5] rfl ?_
              exact J54 v51
            intro c37
            refine q_iconst (pc := 40) hG dX10_choose_40 ki_0 ?_
            refine q_goto (pc := 41) 54 hG dX10_choose_41 rfl ?_
            refine q_lv [0, 1, 2, 3, 4, 5] rfl ?_
            exact J54 0
        refine q_lv [1, 2, 3, 4, 5, 0] rfl ?_
        exact J21 _ v16 σ3 (q_r.mono g16 (by decide)) hS3 (Nat.lt_succ_self _)
    refine q_lv [1, 2, 3, 4, 0] rfl ?_
    exact J3 _ 0 σ (q_r.mono rl_0 (by decide)) hS0 (Nat.lt_succ_self _)
  by_cases hz2 : x2.toInt = 3
  · have rA2 : q_r x2 3 3 := q_lit hz2
    refine q_iconst (pc := 0) hG dX10_choose_0 ki_0 ?_
    refine q_istore (pc := 1) [(4, .int 0), (0, .ref a0), (1, .ref a1), (2, .int x2), (3, .int x3)] hG dX10_choose_1 (by decide) rfl ?_
    have J3 : ∀ (n3 : Nat) (p3_4 : Int32) (σ3 : q_V), (q_r p3_4 0 4) → (q_S md_X10_choose τ σ σ3) → ((4 - p3_4.toInt).toNat < n3) → q_O X 0 0 τ σ3 3 [(0, .ref a0), (1, .ref a1), (2, .int x2), (3, .int x3), (4, .int p3_4)] [] := by
      intro n3
      induction n3 with
      | zero => intro p3_4 σ3 r3_4 hS3 hm3; exact absurd hm3 (Nat.not_lt_zero _)
      | succ n3 ih3 =>
        intro p3_4 σ3 r3_4 hS3 hm3
        refine q_iload (pc := 3) hG dX10_choose_3 4 rfl ?_
        refine q_iload_n (pc := 5) hG dX10_choose_5 2 rfl ?_
        have J67 : q_O X 0 0 τ σ3 67 [(0, .ref a0), (1, .ref a1), (2, .int x2), (3, .int x3)] [] := by
          refine q_iload_n (pc := 67) hG dX10_choose_67 2 rfl ?_
          refine q_istore (pc := 68) [(4, .int x2), (0, .ref a0), (1, .ref a1), (2, .int x2), (3, .int x3)] hG dX10_choose_68 (by decide) rfl ?_
          refine q_iconst (pc := 70) hG dX10_choose_70 ki_0 ?_
          refine q_istore (pc := 71) [(5, .int 0), (4, .int x2), (0, .ref a0), (1, .ref a1), (2, .int x2), (3, .int x3)] hG dX10_choose_71 (by decide) rfl ?_
          refine q_iconst (pc := 73) hG dX10_choose_73 ki_0 ?_
          refine q_istore (pc := 74) [(6, .int 0), (5, .int 0), (4, .int x2), (0, .ref a0), (1, .ref a1), (2, .int x2), (3, .int x3)] hG dX10_choose_74 (by decide) rfl ?_
          have J76 : ∀ (n76 : Nat) (p76_4 : Int32) (p76_5 : Int32) (p76_6 : Int32) (σ76 : q_V), (q_r p76_4 0 3) → (q_r p76_5 0 79) → (q_r p76_6 0 64) → (q_S md_X10_choose τ σ σ76) → ((64 - p76_6.toInt).toNat < n76) → q_O X 0 0 τ σ76 76 [(0, .ref a0), (1, .ref a1), (2, .int x2), (3, .int x3), (4, .int p76_4), (5, .int p76_5), (6, .int p76_6)] [] := by
            intro n76
            induction n76 with
            | zero => intro p76_4 p76_5 p76_6 σ76 r76_4 r76_5 r76_6 hS76 hm76; exact absurd hm76 (Nat.not_lt_zero _)
            | succ n76 ih76 =>
              intro p76_4 p76_5 p76_6 σ76 r76_4 r76_5 r76_6 hS76 hm76
              refine q_iload (pc := 76) hG dX10_choose_76 6 rfl ?_
              refine q_aload_n (pc := 78) hG dX10_choose_78 1 rfl ?_
              refine q_getI (pc := 79) hG fl_X10_20 dX10_choose_79 hS76.1 tA1 ff_6_0 (fun v79 f79 g79 => ?_)
              have f_1 := (hS76.2 _ _ _ _ tA1 rfl).symm.trans f79
              have J163 : q_O X 0 0 τ σ76 163 [(0, .ref a0), (2, .int x2)] [] := by
                refine q_aload_n (pc := 163) hG dX10_choose_163 0 rfl ?_
                refine q_getR (pc := 164) (k2 := 400) (n2 := 5) hG fl_X10_11 dX10_choose_164 hS76.1 tA0 ff_8_0 (fun b164 f164 T164 => ?_)
                have f_2 := (hS76.2 _ _ _ _ tA0 rfl).symm.trans f164
                refine q_iload_n (pc := 167) hG dX10_choose_167 1 rfl ?_
                refine q_aald (pc := 168) hG dX10_choose_168 hS76.1 T164 (q_ix rA2 (by decide)) (fun b168 e168 T168 => ?_)
                refine q_iconst (pc := 169) hG dX10_choose_169 ki_0 ?_
                refine q_iald (pc := 170) hG dX10_choose_170 hS76.1 ai_140 T168 (q_ix rl_0 (by decide)) (fun v170 f170 g170 => ?_)
                exact q_irt hG hE dX10_choose_171 ⟨hS76, g170⟩
              refine q_icmp_ge (pc := 82) hG 163 dX10_choose_82 rfl ?_ ?_
              · intro c82
                refine q_lv [0, 2] rfl ?_
                exact J163 
              intro c82
              refine q_iload (pc := 85) hG dX10_choose_85 4 rfl ?_
              refine q_if_le (pc := 87) hG 163 dX10_choose_87 rfl ?_ ?_
              · intro c87
                refine q_lv [0, 2] rfl ?_
                exact J163 
              intro c87
              refine q_iload (pc := 90) hG dX10_choose_90 5 rfl ?_
              refine q_aload_n (pc := 92) hG dX10_choose_92 1 rfl ?_
              refine q_getV (pc := 93) (v := .int v79) hG fl_X10_20 dX10_choose_93 tA1 (hS76.same tA1 rfl f_1) ?_
              refine q_icmp_ge (pc := 96) hG 163 dX10_choose_96 rfl ?_ ?_
              · intro c96
                refine q_lv [0, 2] rfl ?_
                exact J163 
              intro c96
              refine q_aload_n (pc := 99) hG dX10_choose_99 0 rfl ?_
              refine q_aload_n (pc := 100) hG dX10_choose_100 1 rfl ?_
              refine q_iload (pc := 101) hG dX10_choose_101 4 rfl ?_
              refine q_iload (pc := 103) hG dX10_choose_103 5 rfl ?_
              refine q_iload_n (pc := 105) hG dX10_choose_105 3 rfl ?_
              have r_3 := q_zgt r76_4 c87
              have r_4 := q_rlt r76_5 g79 c96 63 (by decide)
              refine q_pV (pc := 106) [.ref a1, .int p76_4, .int p76_5, .int x3] [] hG (c_X10_mostBegunAt τ σ76 a0 a1 p76_4 p76_5 x3 hS76.1 tA0 tA1 (q_r.mono r_3 (by decide)) (q_r.mono r_4 (by decide)) rA3) my_X10_mostBegunAt mv_X10_mostBegunAt w716 dX10_choose_106 tA0 (by decide) rfl rfl (Nat.le_of_ble_eq_true rfl) (by decide) (fun v106 p106 => ?_)
              refine q_istore (pc := 109) [(7, .int v106), (0, .ref a0), (1, .ref a1), (2, .int x2), (3, .int x3), (4, .int p76_4), (5, .int p76_5), (6, .int p76_6)] hG dX10_choose_109 (by decide) rfl ?_
              refine q_iload (pc := 111) hG dX10_choose_111 0 rfl ?_
              have J157 : ∀ (p157_4 : Int32) (p157_5 : Int32) (σ157 : q_V), (q_r p157_4 0 3) → (q_r p157_5 1 79) → (q_S md_X10_choose τ σ σ157) → q_O X 0 0 τ σ157 157 [(0, .ref a0), (1, .ref a1), (2, .int x2), (3, .int x3), (4, .int p157_4), (5, .int p157_5), (6, .int p76_6)] [] := by
                intro p157_4 p157_5 σ157 r157_4 r157_5 hS157
                obtain ⟨v157, e157⟩ : ∃ z : Int32, z = p76_6 + Int32.ofInt 1 := ⟨_, rfl⟩
                have r_5 := q_rlt r76_6 g79 c82 63 (by decide)
                have h157 := q_incN (lo := 1) (hi := 64) r_5 (by decide) (by decide) e157
                refine q_iinc (pc := 157) [(6, .int v157), (0, .ref a0), (1, .ref a1), (2, .int x2), (3, .int x3), (4, .int p157_4), (5, .int p157_5)] hG dX10_choose_157 6 rfl e157 (by decide) rfl ?_
                refine q_goto (pc := 160) 76 hG dX10_choose_160 rfl ?_
                refine q_lv [1, 2, 3, 4, 5, 6, 0] rfl ?_
                exact ih76 p157_4 p157_5 v157 σ157 r157_4 (q_r.mono r157_5 (by decide)) (q_r.mono h157.2 (by decide)) hS157 (q_measU hm76 (by have o0 := c82; have o1 := c96; have o2 := h157.1; have o3 := r_4; have o4 := r_5; have o5 := h157.2; have o6 := g79; unfold q_r at o3 o4 o5 o6; omega) (h157.2).2)
              have J154 : q_O X 0 0 τ σ76 154 [(0, .ref a0), (1, .ref a1), (2, .int x2), (3, .int x3), (4, .int p76_4), (5, .int p76_5), (6, .int p76_6)] [] := by
                obtain ⟨v154, e154⟩ : ∃ z : Int32, z = p76_5 + Int32.ofInt 1 := ⟨_, rfl⟩
                have h154 := q_incN (lo := 1) (hi := 64) r_4 (by decide) (by decide) e154
                refine q_iinc (pc := 154) [(5, .int v154), (0, .ref a0), (1, .ref a1), (2, .int x2), (3, .int x3), (4, .int p76_4), (6, .int p76_6)] hG dX10_choose_154 5 rfl e154 (by decide) rfl ?_
                refine q_lv [1, 2, 3, 4, 5, 0, 6] rfl ?_
                exact J157 p76_4 v154 σ76 (q_r.mono r_3 (by decide)) (q_r.mono h154.2 (by decide)) hS76
              refine q_if_lt (pc := 113) hG 154 dX10_choose_113 rfl ?_ ?_
              · intro c113
                refine q_lv [1, 2, 3, 4, 5, 6, 7] rfl ?_
                exact J154 
              intro c113
              refine q_iload (pc := 116) hG dX10_choose_116 0 rfl ?_
              refine q_aload_n (pc := 118) hG dX10_choose_118 1 rfl ?_
              refine q_getR (pc := 119) (k2 := 400) (n2 := 5) hG fl_X10_11 dX10_choose_119 hS76.1 tA0 ff_8_0 (fun b119 f119 T119 => ?_)
              have f_6 := (hS76.2 _ _ _ _ tA0 rfl).symm.trans f119
              refine q_iload (pc := 122) hG dX10_choose_122 5 rfl ?_
              refine q_aald (pc := 124) hG dX10_choose_124 hS76.1 T119 (q_ix r_3 (by decide)) (fun b124 e124 T124 => ?_)
              refine q_iload (pc := 125) hG dX10_choose_125 6 rfl ?_
              refine q_iald (pc := 127) hG dX10_choose_127 hS76.1 ai_140 T124 (q_ix r_4 (by decide)) (fun v127 f127 g127 => ?_)
              refine q_icmp_ne (pc := 128) hG 154 dX10_choose_128 rfl ?_ ?_
              · intro c128
                have r_7 := q_zge p106 c113
                refine q_lv [1, 2, 3, 4, 5, 6, 7] rfl ?_
                exact J154 
              intro c128
              have r_8 := q_zge p106 c113
              refine q_aload_n (pc := 131) hG dX10_choose_131 1 rfl ?_
              refine q_getR (pc := 132) (k2 := 141) (n2 := 4) hG fl_X10_16 dX10_choose_132 hS76.1 tA0 ff_8_1 (fun b132 f132 T132 => ?_)
              have f_9 := (hS76.2 _ _ _ _ tA0 rfl).symm.trans f132
              refine q_iload_n (pc := 135) hG dX10_choose_135 3 rfl ?_
              refine q_iload (pc := 136) hG dX10_choose_136 5 rfl ?_
              refine q_isub (pc := 138) hG dX10_choose_138 (fun v138 e138 => ?_)
              refine q_iload (pc := 139) hG dX10_choose_139 6 rfl ?_
              have r_10 := (q_subN (lo := 0) (hi := 2) e138 rA2 r_3 (by decide)).2
              refine q_iast (pc := 141) hG dX10_choose_141 hS76 ai_141 T132 (q_ix r_10 (by decide)) r_4 (by decide) rfl (fun s141 u141 w141 => ?_)
              have m141 : s141 b132 v138.toInt.toNat = .int p76_5 := by rw [u141]; exact q_up_same
              obtain ⟨v142, e142⟩ : ∃ z : Int32, z = p76_4 + Int32.ofInt (-1) := ⟨_, rfl⟩
              have h142 := q_incN (lo := 0) (hi := 2) r_3 (by decide) (by decide) e142
              refine q_iinc (pc := 142) [(4, .int v142), (7, .int v106), (0, .ref a0), (1, .ref a1), (2, .int x2), (3, .int x3), (5, .int p76_5), (6, .int p76_6)] hG dX10_choose_142 5 rfl e142 (by decide) rfl ?_
              refine q_iload (pc := 145) hG dX10_choose_145 6 rfl ?_
              refine q_iload_n (pc := 147) hG dX10_choose_147 5 rfl ?_
              refine q_iadd (pc := 148) hG dX10_choose_148 (fun v148 e148 => ?_)
              refine q_istore (pc := 149) [(5, .int v148), (4, .int v142), (7, .int v106), (0, .ref a0), (1, .ref a1), (2, .int x2), (3, .int x3), (6, .int p76_6)] hG dX10_choose_149 (by decide) rfl ?_
              refine q_goto (pc := 151) 157 hG dX10_choose_151 rfl ?_
              refine q_lv [3, 4, 5, 6, 1, 0, 7] rfl ?_
              have r_11 := (q_addN (lo := 1) (hi := 79) e148 r_4 rA3 (by decide)).2
              exact J157 v142 v148 s141 (q_r.mono h142.2 (by decide)) r_11 w141
          refine q_lv [3, 4, 5, 6, 2, 1, 0] rfl ?_
          exact J76 _ x2 0 0 σ3 (q_r.mono rA2 (by decide)) (q_r.mono rl_0 (by decide)) (q_r.mono rl_0 (by decide)) hS3 (Nat.lt_succ_self _)
        refine q_icmp_gt (pc := 6) hG 67 dX10_choose_6 rfl ?_ ?_
        · intro c6
          refine q_lv [0, 1, 2, 3] rfl ?_
          exact J67 
        intro c6
        refine q_iload (pc := 9) hG dX10_choose_9 4 rfl ?_
        refine q_iconst (pc := 11) hG dX10_choose_11 ki_4 ?_
        refine q_icmp_gt (pc := 12) hG 67 dX10_choose_12 rfl ?_ ?_
        · intro c12
          have r_12 := q_rle r3_4 rA2 c6
          exact absurd c12 (by have l0 := tl_4; have q0 := r_12; unfold q_r at q0; omega)
        intro c12
        have r_13 := q_rle r3_4 rA2 c6
        refine q_aload_n (pc := 15) hG dX10_choose_15 1 rfl ?_
        refine q_getI (pc := 16) hG fl_X10_20 dX10_choose_16 hS3.1 tA1 ff_6_0 (fun v16 f16 g16 => ?_)
        have f_14 := (hS3.2 _ _ _ _ tA1 rfl).symm.trans f16
        refine q_istore (pc := 19) [(5, .int v16), (0, .ref a0), (1, .ref a1), (2, .int x2), (3, .int x3), (4, .int p3_4)] hG dX10_choose_19 (by decide) rfl ?_
        have J21 : ∀ (n21 : Nat) (p21_5 : Int32) (σ21 : q_V), (q_r p21_5 (-1) 64) → (q_S md_X10_choose τ σ σ21) → ((p21_5.toInt - (-1)).toNat < n21) → q_O X 0 0 τ σ21 21 [(0, .ref a0), (1, .ref a1), (2, .int x2), (3, .int x3), (4, .int p3_4), (5, .int p21_5)] [] := by
          intro n21
          induction n21 with
          | zero => intro p21_5 σ21 r21_5 hS21 hm21; exact absurd hm21 (Nat.not_lt_zero _)
          | succ n21 ih21 =>
            intro p21_5 σ21 r21_5 hS21 hm21
            refine q_iload (pc := 21) hG dX10_choose_21 5 rfl ?_
            refine q_if_lt (pc := 23) hG 61 dX10_choose_23 rfl ?_ ?_
            · intro c23
              obtain ⟨v61, e61⟩ : ∃ z : Int32, z = p3_4 + Int32.ofInt 1 := ⟨_, rfl⟩
              have h61 := q_incN (lo := 1) (hi := 4) r_13 (by decide) (by decide) e61
              refine q_iinc (pc := 61) [(4, .int v61), (0, .ref a0), (1, .ref a1), (2, .int x2), (3, .int x3), (5, .int p21_5)] hG dX10_choose_61 4 rfl e61 (by decide) rfl ?_
              refine q_goto (pc := 64) 3 hG dX10_choose_64 rfl ?_
              refine q_lv [1, 2, 3, 4, 0] rfl ?_
              exact ih3 v61 σ21 (q_r.mono h61.2 (by decide)) hS21 (q_measU hm3 (by have o0 := c6; have o1 := c12; have o2 := h61.1; have o3 := r_13; have o4 := h61.2; have o5 := rA2; have l6 := tl_4; unfold q_r at o3 o4 o5; omega) (h61.2).2)
            intro c23
            refine q_aload_n (pc := 26) hG dX10_choose_26 0 rfl ?_
            refine q_getR (pc := 27) (k2 := 400) (n2 := 5) hG fl_X10_11 dX10_choose_27 hS21.1 tA0 ff_8_0 (fun b27 f27 T27 => ?_)
            have f_15 := (hS21.2 _ _ _ _ tA0 rfl).symm.trans f27
            refine q_iload (pc := 30) hG dX10_choose_30 4 rfl ?_
            refine q_aald (pc := 32) hG dX10_choose_32 hS21.1 T27 (q_ix r_13 (by decide)) (fun b32 e32 T32 => ?_)
            refine q_iload (pc := 33) hG dX10_choose_33 5 rfl ?_
            refine q_iload (pc := 35) hG dX10_choose_35 4 rfl ?_
            have J54 : ∀ (p54_s0 : Int32), q_O X 0 0 τ σ21 54 [(0, .ref a0), (1, .ref a1), (2, .int x2), (3, .int x3), (4, .int p3_4), (5, .int p21_5)] [.int p54_s0, .int p21_5, .ref b32] := by
              intro p54_s0
              have r_16 := q_zge r21_5 c23
              refine q_iast (pc := 54) hG dX10_choose_54 hS21 ai_140 T32 (q_ix r_16 (by decide)) (q_r_any p54_s0) (by decide) rfl (fun s54 u54 w54 => ?_)
              have m54 : s54 b32 p21_5.toInt.toNat = .int p54_s0 := by rw [u54]; exact q_up_same
              obtain ⟨v55, e55⟩ : ∃ z : Int32, z = p21_5 + Int32.ofInt (-1) := ⟨_, rfl⟩
              have h55 := q_incN (lo := (-1)) (hi := 63) r_16 (by decide) (by decide) e55
              refine q_iinc (pc := 55) [(5, .int v55), (0, .ref a0), (1, .ref a1), (2, .int x2), (3, .int x3), (4, .int p3_4)] hG dX10_choose_55 5 rfl e55 (by decide) rfl ?_
              refine q_goto (pc := 58) 21 hG dX10_choose_58 rfl ?_
              refine q_lv [1, 2, 3, 4, 5, 0] rfl ?_
              exact ih21 v55 s54 (q_r.mono h55.2 (by decide)) w54 (q_measD hm21 (by have o0 := c23; have o1 := h55.1; have o2 := r_16; have o3 := h55.2; unfold q_r at o2 o3; omega) (h55.2).1)
            refine q_if_ne (pc := 37) hG 44 dX10_choose_37 rfl ?_ ?_
            · intro c37
              refine q_aload_n (pc := 44) hG dX10_choose_44 0 rfl ?_
              refine q_aload_n (pc := 45) hG dX10_choose_45 1 rfl ?_
              refine q_iload (pc := 46) hG dX10_choose_46 4 rfl ?_
              refine q_iload (pc := 48) hG dX10_choose_48 5 rfl ?_
              refine q_iload_n (pc := 50) hG dX10_choose_50 3 rfl ?_
              have r_17 := q_neL (c := 1) r_13 c37 (by decide)
              have r_18 := q_zge r21_5 c23
              refine q_pV (pc := 51) [.ref a1, .int p3_4, .int p21_5, .int x3] [.int p21_5, .ref b32] hG (c_X10_mostFrom τ σ21 a0 a1 p3_4 p21_5 x3 hS21.1 tA0 tA1 (q_r.mono r_17 (by decide)) r_18 rA3) my_X10_mostFrom mv_X10_mostFrom w713 dX10_choose_51 tA0 (by decide) rfl rfl (Nat.le_of_ble_eq_true rfl) (by decide) (fun v51 p51 => ?_)
              refine q_lv [0, 1, 2, 3, 4, 5] rfl ?_
              exact J54 v51
            intro c37
            refine q_iconst (pc := 40) hG dX10_choose_40 ki_0 ?_
            refine q_goto (pc := 41) 54 hG dX10_choose_41 rfl ?_
            refine q_lv [0, 1, 2, 3, 4, 5] rfl ?_
            exact J54 0
        refine q_lv [1, 2, 3, 4, 5, 0] rfl ?_
        exact J21 _ v16 σ3 (q_r.mono g16 (by decide)) hS3 (Nat.lt_succ_self _)
    refine q_lv [1, 2, 3, 4, 0] rfl ?_
    exact J3 _ 0 σ (q_r.mono rl_0 (by decide)) hS0 (Nat.lt_succ_self _)
  · have rA2 : q_r x2 4 4 := q_lit (by unfold q_r at rA2; omega)
    refine q_iconst (pc := 0) hG dX10_choose_0 ki_0 ?_
    refine q_istore (pc := 1) [(4, .int 0), (0, .ref a0), (1, .ref a1), (2, .int x2), (3, .int x3)] hG dX10_choose_1 (by decide) rfl ?_
    have J3 : ∀ (n3 : Nat) (p3_4 : Int32) (σ3 : q_V), (q_r p3_4 0 5) → (q_S md_X10_choose τ σ σ3) → ((5 - p3_4.toInt).toNat < n3) → q_O X 0 0 τ σ3 3 [(0, .ref a0), (1, .ref a1), (2, .int x2), (3, .int x3), (4, .int p3_4)] [] := by
      intro n3
      induction n3 with
      | zero => intro p3_4 σ3 r3_4 hS3 hm3; exact absurd hm3 (Nat.not_lt_zero _)
      | succ n3 ih3 =>
        intro p3_4 σ3 r3_4 hS3 hm3
        refine q_iload (pc := 3) hG dX10_choose_3 4 rfl ?_
        refine q_iload_n (pc := 5) hG dX10_choose_5 2 rfl ?_
        have J67 : q_O X 0 0 τ σ3 67 [(0, .ref a0), (1, .ref a1), (2, .int x2), (3, .int x3)] [] := by
          refine q_iload_n (pc := 67) hG dX10_choose_67 2 rfl ?_
          refine q_istore (pc := 68) [(4, .int x2), (0, .ref a0), (1, .ref a1), (2, .int x2), (3, .int x3)] hG dX10_choose_68 (by decide) rfl ?_
          refine q_iconst (pc := 70) hG dX10_choose_70 ki_0 ?_
          refine q_istore (pc := 71) [(5, .int 0), (4, .int x2), (0, .ref a0), (1, .ref a1), (2, .int x2), (3, .int x3)] hG dX10_choose_71 (by decide) rfl ?_
          refine q_iconst (pc := 73) hG dX10_choose_73 ki_0 ?_
          refine q_istore (pc := 74) [(6, .int 0), (5, .int 0), (4, .int x2), (0, .ref a0), (1, .ref a1), (2, .int x2), (3, .int x3)] hG dX10_choose_74 (by decide) rfl ?_
          have J76 : ∀ (n76 : Nat) (p76_4 : Int32) (p76_5 : Int32) (p76_6 : Int32) (σ76 : q_V), (q_r p76_4 0 4) → (q_r p76_5 0 79) → (q_r p76_6 0 64) → (q_S md_X10_choose τ σ σ76) → ((64 - p76_6.toInt).toNat < n76) → q_O X 0 0 τ σ76 76 [(0, .ref a0), (1, .ref a1), (2, .int x2), (3, .int x3), (4, .int p76_4), (5, .int p76_5), (6, .int p76_6)] [] := by
            intro n76
            induction n76 with
            | zero => intro p76_4 p76_5 p76_6 σ76 r76_4 r76_5 r76_6 hS76 hm76; exact absurd hm76 (Nat.not_lt_zero _)
            | succ n76 ih76 =>
              intro p76_4 p76_5 p76_6 σ76 r76_4 r76_5 r76_6 hS76 hm76
              refine q_iload (pc := 76) hG dX10_choose_76 6 rfl ?_
              refine q_aload_n (pc := 78) hG dX10_choose_78 1 rfl ?_
              refine q_getI (pc := 79) hG fl_X10_20 dX10_choose_79 hS76.1 tA1 ff_6_0 (fun v79 f79 g79 => ?_)
              have f_1 := (hS76.2 _ _ _ _ tA1 rfl).symm.trans f79
              have J163 : q_O X 0 0 τ σ76 163 [(0, .ref a0), (2, .int x2)] [] := by
                refine q_aload_n (pc := 163) hG dX10_choose_163 0 rfl ?_
                refine q_getR (pc := 164) (k2 := 400) (n2 := 5) hG fl_X10_11 dX10_choose_164 hS76.1 tA0 ff_8_0 (fun b164 f164 T164 => ?_)
                have f_2 := (hS76.2 _ _ _ _ tA0 rfl).symm.trans f164
                refine q_iload_n (pc := 167) hG dX10_choose_167 1 rfl ?_
                refine q_aald (pc := 168) hG dX10_choose_168 hS76.1 T164 (q_ix rA2 (by decide)) (fun b168 e168 T168 => ?_)
                refine q_iconst (pc := 169) hG dX10_choose_169 ki_0 ?_
                refine q_iald (pc := 170) hG dX10_choose_170 hS76.1 ai_140 T168 (q_ix rl_0 (by decide)) (fun v170 f170 g170 => ?_)
                exact q_irt hG hE dX10_choose_171 ⟨hS76, g170⟩
              refine q_icmp_ge (pc := 82) hG 163 dX10_choose_82 rfl ?_ ?_
              · intro c82
                refine q_lv [0, 2] rfl ?_
                exact J163 
              intro c82
              refine q_iload (pc := 85) hG dX10_choose_85 4 rfl ?_
              refine q_if_le (pc := 87) hG 163 dX10_choose_87 rfl ?_ ?_
              · intro c87
                refine q_lv [0, 2] rfl ?_
                exact J163 
              intro c87
              refine q_iload (pc := 90) hG dX10_choose_90 5 rfl ?_
              refine q_aload_n (pc := 92) hG dX10_choose_92 1 rfl ?_
              refine q_getV (pc := 93) (v := .int v79) hG fl_X10_20 dX10_choose_93 tA1 (hS76.same tA1 rfl f_1) ?_
              refine q_icmp_ge (pc := 96) hG 163 dX10_choose_96 rfl ?_ ?_
              · intro c96
                refine q_lv [0, 2] rfl ?_
                exact J163 
              intro c96
              refine q_aload_n (pc := 99) hG dX10_choose_99 0 rfl ?_
              refine q_aload_n (pc := 100) hG dX10_choose_100 1 rfl ?_
              refine q_iload (pc := 101) hG dX10_choose_101 4 rfl ?_
              refine q_iload (pc := 103) hG dX10_choose_103 5 rfl ?_
              refine q_iload_n (pc := 105) hG dX10_choose_105 3 rfl ?_
              have r_3 := q_zgt r76_4 c87
              have r_4 := q_rlt r76_5 g79 c96 63 (by decide)
              refine q_pV (pc := 106) [.ref a1, .int p76_4, .int p76_5, .int x3] [] hG (c_X10_mostBegunAt τ σ76 a0 a1 p76_4 p76_5 x3 hS76.1 tA0 tA1 (q_r.mono r_3 (by decide)) (q_r.mono r_4 (by decide)) rA3) my_X10_mostBegunAt mv_X10_mostBegunAt w716 dX10_choose_106 tA0 (by decide) rfl rfl (Nat.le_of_ble_eq_true rfl) (by decide) (fun v106 p106 => ?_)
              refine q_istore (pc := 109) [(7, .int v106), (0, .ref a0), (1, .ref a1), (2, .int x2), (3, .int x3), (4, .int p76_4), (5, .int p76_5), (6, .int p76_6)] hG dX10_choose_109 (by decide) rfl ?_
              refine q_iload (pc := 111) hG dX10_choose_111 0 rfl ?_
              have J157 : ∀ (p157_4 : Int32) (p157_5 : Int32) (σ157 : q_V), (q_r p157_4 0 4) → (q_r p157_5 1 79) → (q_S md_X10_choose τ σ σ157) → q_O X 0 0 τ σ157 157 [(0, .ref a0), (1, .ref a1), (2, .int x2), (3, .int x3), (4, .int p157_4), (5, .int p157_5), (6, .int p76_6)] [] := by
                intro p157_4 p157_5 σ157 r157_4 r157_5 hS157
                obtain ⟨v157, e157⟩ : ∃ z : Int32, z = p76_6 + Int32.ofInt 1 := ⟨_, rfl⟩
                have r_5 := q_rlt r76_6 g79 c82 63 (by decide)
                have h157 := q_incN (lo := 1) (hi := 64) r_5 (by decide) (by decide) e157
                refine q_iinc (pc := 157) [(6, .int v157), (0, .ref a0), (1, .ref a1), (2, .int x2), (3, .int x3), (4, .int p157_4), (5, .int p157_5)] hG dX10_choose_157 6 rfl e157 (by decide) rfl ?_
                refine q_goto (pc := 160) 76 hG dX10_choose_160 rfl ?_
                refine q_lv [1, 2, 3, 4, 5, 6, 0] rfl ?_
                exact ih76 p157_4 p157_5 v157 σ157 r157_4 (q_r.mono r157_5 (by decide)) (q_r.mono h157.2 (by decide)) hS157 (q_measU hm76 (by have o0 := c82; have o1 := c96; have o2 := h157.1; have o3 := r_4; have o4 := r_5; have o5 := h157.2; have o6 := g79; unfold q_r at o3 o4 o5 o6; omega) (h157.2).2)
              have J154 : q_O X 0 0 τ σ76 154 [(0, .ref a0), (1, .ref a1), (2, .int x2), (3, .int x3), (4, .int p76_4), (5, .int p76_5), (6, .int p76_6)] [] := by
                obtain ⟨v154, e154⟩ : ∃ z : Int32, z = p76_5 + Int32.ofInt 1 := ⟨_, rfl⟩
                have h154 := q_incN (lo := 1) (hi := 64) r_4 (by decide) (by decide) e154
                refine q_iinc (pc := 154) [(5, .int v154), (0, .ref a0), (1, .ref a1), (2, .int x2), (3, .int x3), (4, .int p76_4), (6, .int p76_6)] hG dX10_choose_154 5 rfl e154 (by decide) rfl ?_
                refine q_lv [1, 2, 3, 4, 5, 0, 6] rfl ?_
                exact J157 p76_4 v154 σ76 (q_r.mono r_3 (by decide)) (q_r.mono h154.2 (by decide)) hS76
              refine q_if_lt (pc := 113) hG 154 dX10_choose_113 rfl ?_ ?_
              · intro c113
                refine q_lv [1, 2, 3, 4, 5, 6, 7] rfl ?_
                exact J154 
              intro c113
              refine q_iload (pc := 116) hG dX10_choose_116 0 rfl ?_
              refine q_aload_n (pc := 118) hG dX10_choose_118 1 rfl ?_
              refine q_getR (pc := 119) (k2 := 400) (n2 := 5) hG fl_X10_11 dX10_choose_119 hS76.1 tA0 ff_8_0 (fun b119 f119 T119 => ?_)
              have f_6 := (hS76.2 _ _ _ _ tA0 rfl).symm.trans f119
              refine q_iload (pc := 122) hG dX10_choose_122 5 rfl ?_
              refine q_aald (pc := 124) hG dX10_choose_124 hS76.1 T119 (q_ix r_3 (by decide)) (fun b124 e124 T124 => ?_)
              refine q_iload (pc := 125) hG dX10_choose_125 6 rfl ?_
              refine q_iald (pc := 127) hG dX10_choose_127 hS76.1 ai_140 T124 (q_ix r_4 (by decide)) (fun v127 f127 g127 => ?_)
              refine q_icmp_ne (pc := 128) hG 154 dX10_choose_128 rfl ?_ ?_
              · intro c128
                have r_7 := q_zge p106 c113
                refine q_lv [1, 2, 3, 4, 5, 6, 7] rfl ?_
                exact J154 
              intro c128
              have r_8 := q_zge p106 c113
              refine q_aload_n (pc := 131) hG dX10_choose_131 1 rfl ?_
              refine q_getR (pc := 132) (k2 := 141) (n2 := 4) hG fl_X10_16 dX10_choose_132 hS76.1 tA0 ff_8_1 (fun b132 f132 T132 => ?_)
              have f_9 := (hS76.2 _ _ _ _ tA0 rfl).symm.trans f132
              refine q_iload_n (pc := 135) hG dX10_choose_135 3 rfl ?_
              refine q_iload (pc := 136) hG dX10_choose_136 5 rfl ?_
              refine q_isub (pc := 138) hG dX10_choose_138 (fun v138 e138 => ?_)
              refine q_iload (pc := 139) hG dX10_choose_139 6 rfl ?_
              have r_10 := (q_subN (lo := 0) (hi := 3) e138 rA2 r_3 (by decide)).2
              refine q_iast (pc := 141) hG dX10_choose_141 hS76 ai_141 T132 (q_ix r_10 (by decide)) r_4 (by decide) rfl (fun s141 u141 w141 => ?_)
              have m141 : s141 b132 v138.toInt.toNat = .int p76_5 := by rw [u141]; exact q_up_same
              obtain ⟨v142, e142⟩ : ∃ z : Int32, z = p76_4 + Int32.ofInt (-1) := ⟨_, rfl⟩
              have h142 := q_incN (lo := 0) (hi := 3) r_3 (by decide) (by decide) e142
              refine q_iinc (pc := 142) [(4, .int v142), (7, .int v106), (0, .ref a0), (1, .ref a1), (2, .int x2), (3, .int x3), (5, .int p76_5), (6, .int p76_6)] hG dX10_choose_142 5 rfl e142 (by decide) rfl ?_
              refine q_iload (pc := 145) hG dX10_choose_145 6 rfl ?_
              refine q_iload_n (pc := 147) hG dX10_choose_147 5 rfl ?_
              refine q_iadd (pc := 148) hG dX10_choose_148 (fun v148 e148 => ?_)
              refine q_istore (pc := 149) [(5, .int v148), (4, .int v142), (7, .int v106), (0, .ref a0), (1, .ref a1), (2, .int x2), (3, .int x3), (6, .int p76_6)] hG dX10_choose_149 (by decide) rfl ?_
              refine q_goto (pc := 151) 157 hG dX10_choose_151 rfl ?_
              refine q_lv [3, 4, 5, 6, 1, 0, 7] rfl ?_
              have r_11 := (q_addN (lo := 1) (hi := 79) e148 r_4 rA3 (by decide)).2
              exact J157 v142 v148 s141 (q_r.mono h142.2 (by decide)) r_11 w141
          refine q_lv [3, 4, 5, 6, 2, 1, 0] rfl ?_
          exact J76 _ x2 0 0 σ3 (q_r.mono rA2 (by decide)) (q_r.mono rl_0 (by decide)) (q_r.mono rl_0 (by decide)) hS3 (Nat.lt_succ_self _)
        refine q_icmp_gt (pc := 6) hG 67 dX10_choose_6 rfl ?_ ?_
        · intro c6
          refine q_lv [0, 1, 2, 3] rfl ?_
          exact J67 
        intro c6
        refine q_iload (pc := 9) hG dX10_choose_9 4 rfl ?_
        refine q_iconst (pc := 11) hG dX10_choose_11 ki_4 ?_
        refine q_icmp_gt (pc := 12) hG 67 dX10_choose_12 rfl ?_ ?_
        · intro c12
          have r_12 := q_rle r3_4 rA2 c6
          exact absurd c12 (by have l0 := tl_4; have q0 := r_12; unfold q_r at q0; omega)
        intro c12
        have r_13 := q_rle r3_4 rA2 c6
        refine q_aload_n (pc := 15) hG dX10_choose_15 1 rfl ?_
        refine q_getI (pc := 16) hG fl_X10_20 dX10_choose_16 hS3.1 tA1 ff_6_0 (fun v16 f16 g16 => ?_)
        have f_14 := (hS3.2 _ _ _ _ tA1 rfl).symm.trans f16
        refine q_istore (pc := 19) [(5, .int v16), (0, .ref a0), (1, .ref a1), (2, .int x2), (3, .int x3), (4, .int p3_4)] hG dX10_choose_19 (by decide) rfl ?_
        have J21 : ∀ (n21 : Nat) (p21_5 : Int32) (σ21 : q_V), (q_r p21_5 (-1) 64) → (q_S md_X10_choose τ σ σ21) → ((p21_5.toInt - (-1)).toNat < n21) → q_O X 0 0 τ σ21 21 [(0, .ref a0), (1, .ref a1), (2, .int x2), (3, .int x3), (4, .int p3_4), (5, .int p21_5)] [] := by
          intro n21
          induction n21 with
          | zero => intro p21_5 σ21 r21_5 hS21 hm21; exact absurd hm21 (Nat.not_lt_zero _)
          | succ n21 ih21 =>
            intro p21_5 σ21 r21_5 hS21 hm21
            refine q_iload (pc := 21) hG dX10_choose_21 5 rfl ?_
            refine q_if_lt (pc := 23) hG 61 dX10_choose_23 rfl ?_ ?_
            · intro c23
              obtain ⟨v61, e61⟩ : ∃ z : Int32, z = p3_4 + Int32.ofInt 1 := ⟨_, rfl⟩
              have h61 := q_incN (lo := 1) (hi := 5) r_13 (by decide) (by decide) e61
              refine q_iinc (pc := 61) [(4, .int v61), (0, .ref a0), (1, .ref a1), (2, .int x2), (3, .int x3), (5, .int p21_5)] hG dX10_choose_61 4 rfl e61 (by decide) rfl ?_
              refine q_goto (pc := 64) 3 hG dX10_choose_64 rfl ?_
              refine q_lv [1, 2, 3, 4, 0] rfl ?_
              exact ih3 v61 σ21 (q_r.mono h61.2 (by decide)) hS21 (q_measU hm3 (by have o0 := c6; have o1 := c12; have o2 := h61.1; have o3 := r_13; have o4 := h61.2; have o5 := rA2; have l6 := tl_4; unfold q_r at o3 o4 o5; omega) (h61.2).2)
            intro c23
            refine q_aload_n (pc := 26) hG dX10_choose_26 0 rfl ?_
            refine q_getR (pc := 27) (k2 := 400) (n2 := 5) hG fl_X10_11 dX10_choose_27 hS21.1 tA0 ff_8_0 (fun b27 f27 T27 => ?_)
            have f_15 := (hS21.2 _ _ _ _ tA0 rfl).symm.trans f27
            refine q_iload (pc := 30) hG dX10_choose_30 4 rfl ?_
            refine q_aald (pc := 32) hG dX10_choose_32 hS21.1 T27 (q_ix r_13 (by decide)) (fun b32 e32 T32 => ?_)
            refine q_iload (pc := 33) hG dX10_choose_33 5 rfl ?_
            refine q_iload (pc := 35) hG dX10_choose_35 4 rfl ?_
            have J54 : ∀ (p54_s0 : Int32), q_O X 0 0 τ σ21 54 [(0, .ref a0), (1, .ref a1), (2, .int x2), (3, .int x3), (4, .int p3_4), (5, .int p21_5)] [.int p54_s0, .int p21_5, .ref b32] := by
              intro p54_s0
              have r_16 := q_zge r21_5 c23
              refine q_iast (pc := 54) hG dX10_choose_54 hS21 ai_140 T32 (q_ix r_16 (by decide)) (q_r_any p54_s0) (by decide) rfl (fun s54 u54 w54 => ?_)
              have m54 : s54 b32 p21_5.toInt.toNat = .int p54_s0 := by rw [u54]; exact q_up_same
              obtain ⟨v55, e55⟩ : ∃ z : Int32, z = p21_5 + Int32.ofInt (-1) := ⟨_, rfl⟩
              have h55 := q_incN (lo := (-1)) (hi := 63) r_16 (by decide) (by decide) e55
              refine q_iinc (pc := 55) [(5, .int v55), (0, .ref a0), (1, .ref a1), (2, .int x2), (3, .int x3), (4, .int p3_4)] hG dX10_choose_55 5 rfl e55 (by decide) rfl ?_
              refine q_goto (pc := 58) 21 hG dX10_choose_58 rfl ?_
              refine q_lv [1, 2, 3, 4, 5, 0] rfl ?_
              exact ih21 v55 s54 (q_r.mono h55.2 (by decide)) w54 (q_measD hm21 (by have o0 := c23; have o1 := h55.1; have o2 := r_16; have o3 := h55.2; unfold q_r at o2 o3; omega) (h55.2).1)
            refine q_if_ne (pc := 37) hG 44 dX10_choose_37 rfl ?_ ?_
            · intro c37
              refine q_aload_n (pc := 44) hG dX10_choose_44 0 rfl ?_
              refine q_aload_n (pc := 45) hG dX10_choose_45 1 rfl ?_
              refine q_iload (pc := 46) hG dX10_choose_46 4 rfl ?_
              refine q_iload (pc := 48) hG dX10_choose_48 5 rfl ?_
              refine q_iload_n (pc := 50) hG dX10_choose_50 3 rfl ?_
              have r_17 := q_neL (c := 1) r_13 c37 (by decide)
              have r_18 := q_zge r21_5 c23
              refine q_pV (pc := 51) [.ref a1, .int p3_4, .int p21_5, .int x3] [.int p21_5, .ref b32] hG (c_X10_mostFrom τ σ21 a0 a1 p3_4 p21_5 x3 hS21.1 tA0 tA1 r_17 r_18 rA3) my_X10_mostFrom mv_X10_mostFrom w713 dX10_choose_51 tA0 (by decide) rfl rfl (Nat.le_of_ble_eq_true rfl) (by decide) (fun v51 p51 => ?_)
              refine q_lv [0, 1, 2, 3, 4, 5] rfl ?_
              exact J54 v51
            intro c37
            refine q_iconst (pc := 40) hG dX10_choose_40 ki_0 ?_
            refine q_goto (pc := 41) 54 hG dX10_choose_41 rfl ?_
            refine q_lv [0, 1, 2, 3, 4, 5] rfl ?_
            exact J54 0
        refine q_lv [1, 2, 3, 4, 5, 0] rfl ?_
        exact J21 _ v16 σ3 (q_r.mono g16 (by decide)) hS3 (Nat.lt_succ_self _)
    refine q_lv [1, 2, 3, 4, 0] rfl ?_
    exact J3 _ 0 σ (q_r.mono rl_0 (by decide)) hS0 (Nat.lt_succ_self _)
