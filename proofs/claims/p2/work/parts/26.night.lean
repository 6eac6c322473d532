/-! laid by wip/p2/build.py -/
-- FAIL yX5_beginDots
-- FAIL yX5_paintDots
theorem dX5_drive_0 : decode cX5_drive 0 = .ok (.iconst 0, 1) := by decide +kernel
theorem dX5_drive_1 : decode cX5_drive 1 = .ok (.istore_n 1, 1) := by decide +kernel
theorem dX5_drive_2 : decode cX5_drive 2 = .ok (.iload_n 1, 1) := by decide +kernel
theorem dX5_drive_3 : decode cX5_drive 3 = .ok (.bipush 12, 2) := by decide +kernel
theorem dX5_drive_5 : decode cX5_drive 5 = .ok (.if_icmp .ge 90, 3) := by decide +kernel
theorem dX5_drive_8 : decode cX5_drive 8 = .ok (.aload_n 0, 1) := by decide +kernel
theorem dX5_drive_9 : decode cX5_drive 9 = .ok (.getfield 9, 3) := by decide +kernel
theorem dX5_drive_12 : decode cX5_drive 12 = .ok (.aload_n 0, 1) := by decide +kernel
theorem dX5_drive_13 : decode cX5_drive 13 = .ok (.getfield 77, 3) := by decide +kernel
theorem dX5_drive_16 : decode cX5_drive 16 = .ok (.iload_n 1, 1) := by decide +kernel
theorem dX5_drive_17 : decode cX5_drive 17 = .ok (.iaload, 1) := by decide +kernel
theorem dX5_drive_18 : decode cX5_drive 18 = .ok (.isub, 1) := by decide +kernel
theorem dX5_drive_19 : decode cX5_drive 19 = .ok (.istore_n 2, 1) := by decide +kernel
theorem dX5_drive_20 : decode cX5_drive 20 = .ok (.aload_n 0, 1) := by decide +kernel
theorem dX5_drive_21 : decode cX5_drive 21 = .ok (.getfield 80, 3) := by decide +kernel
theorem dX5_drive_24 : decode cX5_drive 24 = .ok (.iload_n 1, 1) := by decide +kernel
theorem dX5_drive_25 : decode cX5_drive 25 = .ok (.iaload, 1) := by decide +kernel
theorem dX5_drive_26 : decode cX5_drive 26 = .ok (.iconst (-1), 1) := by decide +kernel
theorem dX5_drive_27 : decode cX5_drive 27 = .ok (.if_icmp .eq 62, 3) := by decide +kernel
theorem dX5_drive_30 : decode cX5_drive 30 = .ok (.iload_n 2, 1) := by decide +kernel
theorem dX5_drive_31 : decode cX5_drive 31 = .ok (.ifCond .ge 6, 3) := by decide +kernel
theorem dX5_drive_34 : decode cX5_drive 34 = .ok (.goto 55, 3) := by decide +kernel
theorem dX5_drive_37 : decode cX5_drive 37 = .ok (.aload_n 0, 1) := by decide +kernel
theorem dX5_drive_38 : decode cX5_drive 38 = .ok (.getfield 80, 3) := by decide +kernel
theorem dX5_drive_41 : decode cX5_drive 41 = .ok (.iload_n 1, 1) := by decide +kernel
theorem dX5_drive_42 : decode cX5_drive 42 = .ok (.iaload, 1) := by decide +kernel
theorem dX5_drive_43 : decode cX5_drive 43 = .ok (.ifCond .ne 7, 3) := by decide +kernel
theorem dX5_drive_46 : decode cX5_drive 46 = .ok (.iload_n 2, 1) := by decide +kernel
theorem dX5_drive_47 : decode cX5_drive 47 = .ok (.goto 11, 3) := by decide +kernel
theorem dX5_drive_50 : decode cX5_drive 50 = .ok (.aload_n 0, 1) := by decide +kernel
theorem dX5_drive_51 : decode cX5_drive 51 = .ok (.getfield 83, 3) := by decide +kernel
theorem dX5_drive_54 : decode cX5_drive 54 = .ok (.iconst 1, 1) := by decide +kernel
theorem dX5_drive_55 : decode cX5_drive 55 = .ok (.isub, 1) := by decide +kernel
theorem dX5_drive_56 : decode cX5_drive 56 = .ok (.iload_n 2, 1) := by decide +kernel
theorem dX5_drive_57 : decode cX5_drive 57 = .ok (.isub, 1) := by decide +kernel
theorem dX5_drive_58 : decode cX5_drive 58 = .ok (.istore_n 3, 1) := by decide +kernel
theorem dX5_drive_59 : decode cX5_drive 59 = .ok (.aload_n 0, 1) := by decide +kernel
theorem dX5_drive_60 : decode cX5_drive 60 = .ok (.iload_n 3, 1) := by decide +kernel
theorem dX5_drive_61 : decode cX5_drive 61 = .ok (.invokevirtual 60, 3) := by decide +kernel
theorem dX5_drive_64 : decode cX5_drive 64 = .ok (.ifCond .eq 25, 3) := by decide +kernel
theorem dX5_drive_67 : decode cX5_drive 67 = .ok (.aload_n 0, 1) := by decide +kernel
theorem dX5_drive_68 : decode cX5_drive 68 = .ok (.iload_n 3, 1) := by decide +kernel
theorem dX5_drive_69 : decode cX5_drive 69 = .ok (.invokevirtual 86, 3) := by decide +kernel
theorem dX5_drive_72 : decode cX5_drive 72 = .ok (.ifCond .ne 11, 3) := by decide +kernel
theorem dX5_drive_75 : decode cX5_drive 75 = .ok (.aload_n 0, 1) := by decide +kernel
theorem dX5_drive_76 : decode cX5_drive 76 = .ok (.iload_n 3, 1) := by decide +kernel
theorem dX5_drive_77 : decode cX5_drive 77 = .ok (.invokevirtual 89, 3) := by decide +kernel
theorem dX5_drive_80 : decode cX5_drive 80 = .ok (.ifCond .eq 9, 3) := by decide +kernel
theorem dX5_drive_83 : decode cX5_drive 83 = .ok (.aload_n 0, 1) := by decide +kernel
theorem dX5_drive_84 : decode cX5_drive 84 = .ok (.iload_n 3, 1) := by decide +kernel
theorem dX5_drive_85 : decode cX5_drive 85 = .ok (.iload_n 1, 1) := by decide +kernel
theorem dX5_drive_86 : decode cX5_drive 86 = .ok (.invokevirtual 92, 3) := by decide +kernel
theorem dX5_drive_89 : decode cX5_drive 89 = .ok (.iinc 1 1, 3) := by decide +kernel
theorem dX5_drive_92 : decode cX5_drive 92 = .ok (.goto (-90), 3) := by decide +kernel
theorem dX5_drive_95 : decode cX5_drive 95 = .ok (.return_, 1) := by decide +kernel
def md_X5_drive : List (Nat × Nat) := [(123, 0)]
set_option maxRecDepth 100000 in
set_option maxHeartbeats 4000000 in
theorem c_X5_drive {l : Launch} {D : q_D} (τ : q_T) (σ : q_V) (a0 : Nat) (hI : q_I τ σ) (tA0 : τ a0 = some (6, 1)) : q_Cv l D yX5_drive cX5_drive 4 none 2 43 τ σ [.ref a0] (fun σ1 => q_S md_X5_drive τ σ σ1) := by
  refine q_metv rfl (Nat.le_of_ble_eq_true rfl) (fun X hG hE => ?_)
  show q_O X 0 0 τ σ 0 [(0, .ref a0)] []
  have hS0 : q_S md_X5_drive τ σ σ := q_S.rf hI
  refine q_iconst (pc := 0) hG dX5_drive_0 ki_0 ?_
  refine q_istore_n (pc := 1) [(1, .int 0), (0, .ref a0)] hG dX5_drive_1 (by decide) rfl ?_
  have J2 : ∀ (n2 : Nat) (p2_1 : Int32) (σ2 : q_V), q_r p2_1 0 12 → q_S md_X5_drive τ σ σ2 → (12 - p2_1.toInt).toNat < n2 → q_O X 0 0 τ σ2 2 [(0, .ref a0), (1, .int p2_1)] [] := by
    intro n2
    induction n2 with
    | zero => intro p2_1 σ2 r2_1 hS2 hm2; exact absurd hm2 (Nat.not_lt_zero _)
    | succ n2 ih2 =>
      intro p2_1 σ2 r2_1 hS2 hm2
      refine q_iload_n (pc := 2) hG dX5_drive_2 1 rfl ?_
      refine q_bipush (pc := 3) hG dX5_drive_3 kb_12 ?_
      refine q_icmp_ge (pc := 5) hG 95 dX5_drive_5 rfl ?_ ?_
      · intro c5
        exact q_vrt hG hE dX5_drive_95 hS2
      intro c5
      refine q_aload_n (pc := 8) hG dX5_drive_8 0 rfl ?_
      refine q_getI (pc := 9) hG fl_X5_9 dX5_drive_9 hS2.1 tA0 ff_6_17 (fun v9 f9 g9 => ?_)
      have f_1 := (hS2.2 _ _ _ _ tA0 rfl).symm.trans f9
      refine q_aload_n (pc := 12) hG dX5_drive_12 0 rfl ?_
      refine q_getR (pc := 13) (k2 := 128) (n2 := 12) hG fl_X5_77 dX5_drive_13 hS2.1 tA0 ff_6_14 (fun b13 f13 T13 => ?_)
      have f_2 := (hS2.2 _ _ _ _ tA0 rfl).symm.trans f13
      refine q_iload_n (pc := 16) hG dX5_drive_16 1 rfl ?_
      have r_3 := q_rlt r2_1 rl_12 c5 11 (by decide)
      refine q_iald (pc := 17) hG dX5_drive_17 hS2.1 ai_128 T13 (q_ix r_3 (by decide)) (fun v17 f17 g17 => ?_)
      have f_4 := (hS2.2 _ _ _ _ T13 rfl).symm.trans f17
      refine q_isub (pc := 18) hG dX5_drive_18 (fun v18 e18 => ?_)
      refine q_istore_n (pc := 19) [(2, .int v18), (0, .ref a0), (1, .int p2_1)] hG dX5_drive_19 (by decide) rfl ?_
      refine q_aload_n (pc := 20) hG dX5_drive_20 1 rfl ?_
      refine q_getR (pc := 21) (k2 := 127) (n2 := 12) hG fl_X5_80 dX5_drive_21 hS2.1 tA0 ff_6_13 (fun b21 f21 T21 => ?_)
      have f_5 := (hS2.2 _ _ _ _ tA0 rfl).symm.trans f21
      refine q_iload_n (pc := 24) hG dX5_drive_24 2 rfl ?_
      refine q_iald (pc := 25) hG dX5_drive_25 hS2.1 ai_127 T21 (q_ix r_3 (by decide)) (fun v25 f25 g25 => ?_)
      have f_6 := (hS2.2 _ _ _ _ T21 rfl).symm.trans f25
      refine q_iconst (pc := 26) hG dX5_drive_26 ki_m1 ?_
      have J89 : ∀ (σ89 : q_V), q_S md_X5_drive τ σ σ89 → q_O X 0 0 τ σ89 89 [(0, .ref a0), (1, .int p2_1)] [] := by
        intro σ89 hS89
        obtain ⟨v89, e89⟩ : ∃ z : Int32, z = p2_1 + Int32.ofInt 1 := ⟨_, rfl⟩
        have h89 := q_incN (lo := 1) (hi := 12) r_3 (by decide) (by decide) e89
        refine q_iinc (pc := 89) [(1, .int v89), (0, .ref a0)] hG dX5_drive_89 1 rfl e89 (by decide) rfl ?_
        refine q_goto (pc := 92) 2 hG dX5_drive_92 rfl ?_
        refine q_lv [1, 0] rfl ?_
        exact ih2 v89 σ89 (q_r.mono h89.2 (by decide)) hS89 (q_measU hm2 (by have o0 := c5; have o1 := h89.1; have o2 := r_3; have o3 := h89.2; have l4 := tl_12; unfold q_r at o2 o3; omega) (h89.2).2)
      refine q_icmp_eq (pc := 27) hG 89 dX5_drive_27 rfl ?_ ?_
      · intro c27
        refine q_lv [1, 2] rfl ?_
        exact J89 σ2 hS2
      intro c27
      refine q_iload_n (pc := 30) hG dX5_drive_30 0 rfl ?_
      refine q_if_ge (pc := 31) hG 37 dX5_drive_31 rfl ?_ ?_
      · intro c31
        refine q_aload_n (pc := 37) hG dX5_drive_37 1 rfl ?_
        refine q_getV (pc := 38) (v := .ref b21) hG fl_X5_80 dX5_drive_38 tA0 (hS2.same tA0 rfl f_5) ?_
        refine q_iload_n (pc := 41) hG dX5_drive_41 2 rfl ?_
        refine q_ialdV (pc := 42) (v := .int v25) hG dX5_drive_42 T21 (by decide) (by decide) (q_ix r_3 (by decide)) (hS2.same T21 rfl f_6) ?_
        have J58 : ∀ (p58_s0 : Int32), q_r p58_s0 (-2147483640) 2147483647 → q_O X 0 0 τ σ2 58 [(0, .ref a0), (1, .int p2_1)] [.int p58_s0] := by
          intro p58_s0 r58_s0
          refine q_istore_n (pc := 58) [(3, .int p58_s0), (0, .ref a0), (1, .int p2_1)] hG dX5_drive_58 (by decide) rfl ?_
          refine q_aload_n (pc := 59) hG dX5_drive_59 1 rfl ?_
          refine q_iload_n (pc := 60) hG dX5_drive_60 0 rfl ?_
          refine q_pV (pc := 61) [.int p58_s0] [] hG (c_X7_isDot τ σ2 a0 p58_s0 hS2.1 tA0) my_X7_isDot mv_X7_isDot w467 dX5_drive_61 tA0 (by decide) rfl rfl (Nat.le_of_ble_eq_true rfl) (by decide) (fun v61 p61 => ?_)
          refine q_if_eq (pc := 64) hG 89 dX5_drive_64 rfl ?_ ?_
          · intro c64
            refine q_lv [1, 2] rfl ?_
            exact J89 σ2 hS2
          intro c64
          have g_7 := p61.2 (q_one p61.1 c64)
          have r_8 := q_rge r58_s0 rl_0 (show (0 : Int32).toInt ≤ _ from g_7.1)
          refine q_aload_n (pc := 67) hG dX5_drive_67 1 rfl ?_
          refine q_iload_n (pc := 68) hG dX5_drive_68 0 rfl ?_
          have r_9 := q_rle r_8 rl_63 (show _ ≤ (63 : Int32).toInt from g_7.2)
          refine q_pV (pc := 69) [.int p58_s0] [] hG (c_X7_isWet τ σ2 a0 p58_s0 hS2.1 tA0 r_9) my_X7_isWet mv_X7_isWet w475 dX5_drive_69 tA0 (by decide) rfl rfl (Nat.le_of_ble_eq_true rfl) (by decide) (fun v69 p69 => ?_)
          have J83 : q_O X 0 0 τ σ2 83 [(0, .ref a0), (1, .int p2_1), (3, .int p58_s0)] [] := by
            refine q_aload_n (pc := 83) hG dX5_drive_83 0 rfl ?_
            refine q_iload_n (pc := 84) hG dX5_drive_84 2 rfl ?_
            refine q_iload_n (pc := 85) hG dX5_drive_85 1 rfl ?_
            refine q_cVv (pc := 86) [.int p58_s0, .int p2_1] [] hG (c_X7_spoil τ σ2 a0 p58_s0 p2_1 hS2.1 tA0 r_9) my_X7_spoil mv_X7_spoil w477 dX5_drive_86 tA0 (by decide) rfl rfl (Nat.le_of_ble_eq_true rfl) (by decide) (fun s86 p86 => ?_)
            have w86 := hS2.trans p86 rfl
            refine q_lv [0, 1] rfl ?_
            exact J89 s86 w86
          refine q_if_ne (pc := 72) hG 83 dX5_drive_72 rfl ?_ ?_
          · intro c72
            refine q_lv [1, 2, 0] rfl ?_
            exact J83 
          intro c72
          refine q_aload_n (pc := 75) hG dX5_drive_75 1 rfl ?_
          refine q_iload_n (pc := 76) hG dX5_drive_76 0 rfl ?_
          refine q_pV (pc := 77) [.int p58_s0] [] hG (c_X7_isBeingPainted τ σ2 a0 p58_s0 hS2.1 tA0) my_X7_isBeingPainted mv_X7_isBeingPainted w476 dX5_drive_77 tA0 (by decide) rfl rfl (Nat.le_of_ble_eq_true rfl) (by decide) (fun v77 p77 => ?_)
          refine q_if_eq (pc := 80) hG 89 dX5_drive_80 rfl ?_ ?_
          · intro c80
            refine q_lv [1, 2] rfl ?_
            exact J89 σ2 hS2
          intro c80
          refine q_lv [1, 2, 0] rfl ?_
          exact J83 
        refine q_if_ne (pc := 43) hG 50 dX5_drive_43 rfl ?_ ?_
        · intro c43
          refine q_aload_n (pc := 50) hG dX5_drive_50 1 rfl ?_
          refine q_getI (pc := 51) hG fl_X5_83 dX5_drive_51 hS2.1 tA0 ff_6_0 (fun v51 f51 g51 => ?_)
          have f_10 := (hS2.2 _ _ _ _ tA0 rfl).symm.trans f51
          refine q_iconst (pc := 54) hG dX5_drive_54 ki_1 ?_
          refine q_isub (pc := 55) hG dX5_drive_55 (fun v55 e55 => ?_)
          refine q_iload_n (pc := 56) hG dX5_drive_56 0 rfl ?_
          refine q_isub (pc := 57) hG dX5_drive_57 (fun v57 e57 => ?_)
          have r_11 := (q_subN (lo := 7) (hi := 63) e55 g51 rl_1 (by decide)).2
          have r_12 := q_zge (q_r_any v18) c31
          refine q_lv [1, 2] rfl ?_
          have r_13 := (q_subN (lo := (-2147483640)) (hi := 63) e57 r_11 r_12 (by decide)).2
          exact J58 v57 (q_r.mono r_13 (by decide))
        intro c43
        refine q_iload_n (pc := 46) hG dX5_drive_46 0 rfl ?_
        refine q_goto (pc := 47) 58 hG dX5_drive_47 rfl ?_
        refine q_lv [1, 2] rfl ?_
        have r_14 := q_zge (q_r_any v18) c31
        exact J58 v18 (q_r.mono r_14 (by decide))
      intro c31
      refine q_goto (pc := 34) 89 hG dX5_drive_34 rfl ?_
      refine q_lv [1, 2] rfl ?_
      exact J89 σ2 hS2
  refine q_lv [1, 0] rfl ?_
  exact J2 _ 0 σ (q_r.mono rl_0 (by decide)) hS0 (Nat.lt_succ_self _)
theorem dX5_letDewFall_0 : decode cX5_letDewFall 0 = .ok (.aload_n 0, 1) := by decide +kernel
theorem dX5_letDewFall_1 : decode cX5_letDewFall 1 = .ok (.getfield 9, 3) := by decide +kernel
theorem dX5_letDewFall_4 : decode cX5_letDewFall 4 = .ok (.aload_n 0, 1) := by decide +kernel
theorem dX5_letDewFall_5 : decode cX5_letDewFall 5 = .ok (.getfield 96, 3) := by decide +kernel
theorem dX5_letDewFall_8 : decode cX5_letDewFall 8 = .ok (.if_icmp .eq 4, 3) := by decide +kernel
theorem dX5_letDewFall_11 : decode cX5_letDewFall 11 = .ok (.return_, 1) := by decide +kernel
theorem dX5_letDewFall_12 : decode cX5_letDewFall 12 = .ok (.iconst 0, 1) := by decide +kernel
theorem dX5_letDewFall_13 : decode cX5_letDewFall 13 = .ok (.istore_n 1, 1) := by decide +kernel
theorem dX5_letDewFall_14 : decode cX5_letDewFall 14 = .ok (.iload_n 1, 1) := by decide +kernel
theorem dX5_letDewFall_15 : decode cX5_letDewFall 15 = .ok (.aload_n 0, 1) := by decide +kernel
theorem dX5_letDewFall_16 : decode cX5_letDewFall 16 = .ok (.getfield 83, 3) := by decide +kernel
theorem dX5_letDewFall_19 : decode cX5_letDewFall 19 = .ok (.if_icmp .ge 24, 3) := by decide +kernel
theorem dX5_letDewFall_22 : decode cX5_letDewFall 22 = .ok (.aload_n 0, 1) := by decide +kernel
theorem dX5_letDewFall_23 : decode cX5_letDewFall 23 = .ok (.iload_n 1, 1) := by decide +kernel
theorem dX5_letDewFall_24 : decode cX5_letDewFall 24 = .ok (.invokevirtual 86, 3) := by decide +kernel
theorem dX5_letDewFall_27 : decode cX5_letDewFall 27 = .ok (.ifCond .eq 10, 3) := by decide +kernel
theorem dX5_letDewFall_30 : decode cX5_letDewFall 30 = .ok (.aload_n 0, 1) := by decide +kernel
theorem dX5_letDewFall_31 : decode cX5_letDewFall 31 = .ok (.iload_n 1, 1) := by decide +kernel
theorem dX5_letDewFall_32 : decode cX5_letDewFall 32 = .ok (.bipush 12, 2) := by decide +kernel
theorem dX5_letDewFall_34 : decode cX5_letDewFall 34 = .ok (.invokevirtual 92, 3) := by decide +kernel
theorem dX5_letDewFall_37 : decode cX5_letDewFall 37 = .ok (.iinc 1 1, 3) := by decide +kernel
theorem dX5_letDewFall_40 : decode cX5_letDewFall 40 = .ok (.goto (-26), 3) := by decide +kernel
theorem dX5_letDewFall_43 : decode cX5_letDewFall 43 = .ok (.return_, 1) := by decide +kernel
def md_X5_letDewFall : List (Nat × Nat) := [(123, 0)]
set_option maxRecDepth 100000 in
set_option maxHeartbeats 4000000 in
theorem c_X5_letDewFall {l : Launch} {D : q_D} (τ : q_T) (σ : q_V) (a0 : Nat) (hI : q_I τ σ) (tA0 : τ a0 = some (6, 1)) : q_Cv l D yX5_letDewFall cX5_letDewFall 2 none 2 42 τ σ [.ref a0] (fun σ1 => q_S md_X5_letDewFall τ σ σ1) := by
  refine q_metv rfl (Nat.le_of_ble_eq_true rfl) (fun X hG hE => ?_)
  show q_O X 0 0 τ σ 0 [(0, .ref a0)] []
  have hS0 : q_S md_X5_letDewFall τ σ σ := q_S.rf hI
  refine q_aload_n (pc := 0) hG dX5_letDewFall_0 0 rfl ?_
  refine q_getI (pc := 1) hG fl_X5_9 dX5_letDewFall_1 hI tA0 ff_6_17 (fun v1 f1 g1 => ?_)
  refine q_aload_n (pc := 4) hG dX5_letDewFall_4 0 rfl ?_
  refine q_getI (pc := 5) hG fl_X5_96 dX5_letDewFall_5 hI tA0 ff_6_16 (fun v5 f5 g5 => ?_)
  refine q_icmp_eq (pc := 8) hG 12 dX5_letDewFall_8 rfl ?_ ?_
  · intro c8
    refine q_iconst (pc := 12) hG dX5_letDewFall_12 ki_0 ?_
    refine q_istore_n (pc := 13) [(1, .int 0), (0, .ref a0)] hG dX5_letDewFall_13 (by decide) rfl ?_
    have J14 : ∀ (n14 : Nat) (p14_1 : Int32) (σ14 : q_V), q_r p14_1 0 64 → q_S md_X5_letDewFall τ σ σ14 → (64 - p14_1.toInt).toNat < n14 → q_O X 0 0 τ σ14 14 [(0, .ref a0), (1, .int p14_1)] [] := by
      intro n14
      induction n14 with
      | zero => intro p14_1 σ14 r14_1 hS14 hm14; exact absurd hm14 (Nat.not_lt_zero _)
      | succ n14 ih14 =>
        intro p14_1 σ14 r14_1 hS14 hm14
        refine q_iload_n (pc := 14) hG dX5_letDewFall_14 1 rfl ?_
        refine q_aload_n (pc := 15) hG dX5_letDewFall_15 0 rfl ?_
        refine q_getI (pc := 16) hG fl_X5_83 dX5_letDewFall_16 hS14.1 tA0 ff_6_0 (fun v16 f16 g16 => ?_)
        have f_1 := (hS14.2 _ _ _ _ tA0 rfl).symm.trans f16
        refine q_icmp_ge (pc := 19) hG 43 dX5_letDewFall_19 rfl ?_ ?_
        · intro c19
          exact q_vrt hG hE dX5_letDewFall_43 hS14
        intro c19
        refine q_aload_n (pc := 22) hG dX5_letDewFall_22 0 rfl ?_
        refine q_iload_n (pc := 23) hG dX5_letDewFall_23 1 rfl ?_
        have r_2 := q_rlt r14_1 g16 c19 63 (by decide)
        refine q_pV (pc := 24) [.int p14_1] [] hG (c_X7_isWet τ σ14 a0 p14_1 hS14.1 tA0 r_2) my_X7_isWet mv_X7_isWet w475 dX5_letDewFall_24 tA0 (by decide) rfl rfl (Nat.le_of_ble_eq_true rfl) (by decide) (fun v24 p24 => ?_)
        have J37 : ∀ (σ37 : q_V), q_S md_X5_letDewFall τ σ σ37 → q_O X 0 0 τ σ37 37 [(0, .ref a0), (1, .int p14_1)] [] := by
          intro σ37 hS37
          obtain ⟨v37, e37⟩ : ∃ z : Int32, z = p14_1 + Int32.ofInt 1 := ⟨_, rfl⟩
          have h37 := q_incN (lo := 1) (hi := 64) r_2 (by decide) (by decide) e37
          refine q_iinc (pc := 37) [(1, .int v37), (0, .ref a0)] hG dX5_letDewFall_37 1 rfl e37 (by decide) rfl ?_
          refine q_goto (pc := 40) 14 hG dX5_letDewFall_40 rfl ?_
          refine q_lv [1, 0] rfl ?_
          exact ih14 v37 σ37 (q_r.mono h37.2 (by decide)) hS37 (q_measU hm14 (by have o0 := c19; have o1 := h37.1; have o2 := r_2; have o3 := g16; have o4 := h37.2; unfold q_r at o2 o3 o4; omega) (h37.2).2)
        refine q_if_eq (pc := 27) hG 37 dX5_letDewFall_27 rfl ?_ ?_
        · intro c27
          refine q_lv [0, 1] rfl ?_
          exact J37 σ14 hS14
        intro c27
        refine q_aload_n (pc := 30) hG dX5_letDewFall_30 0 rfl ?_
        refine q_iload_n (pc := 31) hG dX5_letDewFall_31 1 rfl ?_
        refine q_bipush (pc := 32) hG dX5_letDewFall_32 kb_12 ?_
        refine q_cVv (pc := 34) [.int p14_1, .int 12] [] hG (c_X7_spoil τ σ14 a0 p14_1 12 hS14.1 tA0 r_2) my_X7_spoil mv_X7_spoil w477 dX5_letDewFall_34 tA0 (by decide) rfl rfl (Nat.le_of_ble_eq_true rfl) (by decide) (fun s34 p34 => ?_)
        have w34 := hS14.trans p34 rfl
        refine q_lv [0, 1] rfl ?_
        exact J37 s34 w34
    refine q_lv [1, 0] rfl ?_
    exact J14 _ 0 σ (q_r.mono rl_0 (by decide)) hS0 (Nat.lt_succ_self _)
  intro c8
  exact q_vrt hG hE dX5_letDewFall_11 hS0
-- FAIL yX5_pass
