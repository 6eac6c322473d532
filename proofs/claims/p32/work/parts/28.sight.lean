/-! laid by wip/p2/build.py -/
theorem dX9_dotsAhead_0 : decode cX9_dotsAhead 0 = .ok (.iload_n 2, 1) := by decide +kernel
theorem dX9_dotsAhead_1 : decode cX9_dotsAhead 1 = .ok (.ifCond .ne 7, 3) := by decide +kernel
theorem dX9_dotsAhead_4 : decode cX9_dotsAhead 4 = .ok (.iconst 1, 1) := by decide +kernel
theorem dX9_dotsAhead_5 : decode cX9_dotsAhead 5 = .ok (.goto 4, 3) := by decide +kernel
theorem dX9_dotsAhead_8 : decode cX9_dotsAhead 8 = .ok (.iconst (-1), 1) := by decide +kernel
theorem dX9_dotsAhead_9 : decode cX9_dotsAhead 9 = .ok (.istore 4, 2) := by decide +kernel
theorem dX9_dotsAhead_11 : decode cX9_dotsAhead 11 = .ok (.aload_n 0, 1) := by decide +kernel
theorem dX9_dotsAhead_12 : decode cX9_dotsAhead 12 = .ok (.getfield 9, 3) := by decide +kernel
theorem dX9_dotsAhead_15 : decode cX9_dotsAhead 15 = .ok (.iload_n 1, 1) := by decide +kernel
theorem dX9_dotsAhead_16 : decode cX9_dotsAhead 16 = .ok (.iaload, 1) := by decide +kernel
theorem dX9_dotsAhead_17 : decode cX9_dotsAhead 17 = .ok (.iload_n 3, 1) := by decide +kernel
theorem dX9_dotsAhead_18 : decode cX9_dotsAhead 18 = .ok (.iadd, 1) := by decide +kernel
theorem dX9_dotsAhead_19 : decode cX9_dotsAhead 19 = .ok (.istore 5, 2) := by decide +kernel
theorem dX9_dotsAhead_21 : decode cX9_dotsAhead 21 = .ok (.iconst 0, 1) := by decide +kernel
theorem dX9_dotsAhead_22 : decode cX9_dotsAhead 22 = .ok (.istore 6, 2) := by decide +kernel
theorem dX9_dotsAhead_24 : decode cX9_dotsAhead 24 = .ok (.iconst 1, 1) := by decide +kernel
theorem dX9_dotsAhead_25 : decode cX9_dotsAhead 25 = .ok (.istore 7, 2) := by decide +kernel
theorem dX9_dotsAhead_27 : decode cX9_dotsAhead 27 = .ok (.iload 7, 2) := by decide +kernel
theorem dX9_dotsAhead_29 : decode cX9_dotsAhead 29 = .ok (.bipush 64, 2) := by decide +kernel
theorem dX9_dotsAhead_31 : decode cX9_dotsAhead 31 = .ok (.if_icmp .ge 96, 3) := by decide +kernel
theorem dX9_dotsAhead_34 : decode cX9_dotsAhead 34 = .ok (.aload_n 0, 1) := by decide +kernel
theorem dX9_dotsAhead_35 : decode cX9_dotsAhead 35 = .ok (.iload_n 1, 1) := by decide +kernel
theorem dX9_dotsAhead_36 : decode cX9_dotsAhead 36 = .ok (.iload 4, 2) := by decide +kernel
theorem dX9_dotsAhead_38 : decode cX9_dotsAhead 38 = .ok (.iload 7, 2) := by decide +kernel
theorem dX9_dotsAhead_40 : decode cX9_dotsAhead 40 = .ok (.imul, 1) := by decide +kernel
theorem dX9_dotsAhead_41 : decode cX9_dotsAhead 41 = .ok (.iadd, 1) := by decide +kernel
theorem dX9_dotsAhead_42 : decode cX9_dotsAhead 42 = .ok (.invokevirtual 15, 3) := by decide +kernel
theorem dX9_dotsAhead_45 : decode cX9_dotsAhead 45 = .ok (.ifCond .eq 82, 3) := by decide +kernel
theorem dX9_dotsAhead_48 : decode cX9_dotsAhead 48 = .ok (.aload_n 0, 1) := by decide +kernel
theorem dX9_dotsAhead_49 : decode cX9_dotsAhead 49 = .ok (.getfield 9, 3) := by decide +kernel
theorem dX9_dotsAhead_52 : decode cX9_dotsAhead 52 = .ok (.iload_n 1, 1) := by decide +kernel
theorem dX9_dotsAhead_53 : decode cX9_dotsAhead 53 = .ok (.iload 4, 2) := by decide +kernel
theorem dX9_dotsAhead_55 : decode cX9_dotsAhead 55 = .ok (.iload 7, 2) := by decide +kernel
theorem dX9_dotsAhead_57 : decode cX9_dotsAhead 57 = .ok (.imul, 1) := by decide +kernel
theorem dX9_dotsAhead_58 : decode cX9_dotsAhead 58 = .ok (.iadd, 1) := by decide +kernel
theorem dX9_dotsAhead_59 : decode cX9_dotsAhead 59 = .ok (.iaload, 1) := by decide +kernel
theorem dX9_dotsAhead_60 : decode cX9_dotsAhead 60 = .ok (.iload 5, 2) := by decide +kernel
theorem dX9_dotsAhead_62 : decode cX9_dotsAhead 62 = .ok (.isub, 1) := by decide +kernel
theorem dX9_dotsAhead_63 : decode cX9_dotsAhead 63 = .ok (.istore 8, 2) := by decide +kernel
theorem dX9_dotsAhead_65 : decode cX9_dotsAhead 65 = .ok (.iload 7, 2) := by decide +kernel
theorem dX9_dotsAhead_67 : decode cX9_dotsAhead 67 = .ok (.iconst 1, 1) := by decide +kernel
theorem dX9_dotsAhead_68 : decode cX9_dotsAhead 68 = .ok (.if_icmp .ne 7, 3) := by decide +kernel
theorem dX9_dotsAhead_71 : decode cX9_dotsAhead 71 = .ok (.iconst 0, 1) := by decide +kernel
theorem dX9_dotsAhead_72 : decode cX9_dotsAhead 72 = .ok (.goto 20, 3) := by decide +kernel
theorem dX9_dotsAhead_75 : decode cX9_dotsAhead 75 = .ok (.aload_n 0, 1) := by decide +kernel
theorem dX9_dotsAhead_76 : decode cX9_dotsAhead 76 = .ok (.getfield 9, 3) := by decide +kernel
theorem dX9_dotsAhead_79 : decode cX9_dotsAhead 79 = .ok (.iload_n 1, 1) := by decide +kernel
theorem dX9_dotsAhead_80 : decode cX9_dotsAhead 80 = .ok (.iload 4, 2) := by decide +kernel
theorem dX9_dotsAhead_82 : decode cX9_dotsAhead 82 = .ok (.iload 7, 2) := by decide +kernel
theorem dX9_dotsAhead_84 : decode cX9_dotsAhead 84 = .ok (.iconst 1, 1) := by decide +kernel
theorem dX9_dotsAhead_85 : decode cX9_dotsAhead 85 = .ok (.isub, 1) := by decide +kernel
theorem dX9_dotsAhead_86 : decode cX9_dotsAhead 86 = .ok (.imul, 1) := by decide +kernel
theorem dX9_dotsAhead_87 : decode cX9_dotsAhead 87 = .ok (.iadd, 1) := by decide +kernel
theorem dX9_dotsAhead_88 : decode cX9_dotsAhead 88 = .ok (.iaload, 1) := by decide +kernel
theorem dX9_dotsAhead_89 : decode cX9_dotsAhead 89 = .ok (.iload 5, 2) := by decide +kernel
theorem dX9_dotsAhead_91 : decode cX9_dotsAhead 91 = .ok (.isub, 1) := by decide +kernel
theorem dX9_dotsAhead_92 : decode cX9_dotsAhead 92 = .ok (.istore 9, 2) := by decide +kernel
theorem dX9_dotsAhead_94 : decode cX9_dotsAhead 94 = .ok (.iload 7, 2) := by decide +kernel
theorem dX9_dotsAhead_96 : decode cX9_dotsAhead 96 = .ok (.iconst 1, 1) := by decide +kernel
theorem dX9_dotsAhead_97 : decode cX9_dotsAhead 97 = .ok (.if_icmp .le 21, 3) := by decide +kernel
theorem dX9_dotsAhead_100 : decode cX9_dotsAhead 100 = .ok (.iload 8, 2) := by decide +kernel
theorem dX9_dotsAhead_102 : decode cX9_dotsAhead 102 = .ok (.iload 7, 2) := by decide +kernel
theorem dX9_dotsAhead_104 : decode cX9_dotsAhead 104 = .ok (.iconst 1, 1) := by decide +kernel
theorem dX9_dotsAhead_105 : decode cX9_dotsAhead 105 = .ok (.isub, 1) := by decide +kernel
theorem dX9_dotsAhead_106 : decode cX9_dotsAhead 106 = .ok (.imul, 1) := by decide +kernel
theorem dX9_dotsAhead_107 : decode cX9_dotsAhead 107 = .ok (.iload 9, 2) := by decide +kernel
theorem dX9_dotsAhead_109 : decode cX9_dotsAhead 109 = .ok (.iload 7, 2) := by decide +kernel
theorem dX9_dotsAhead_111 : decode cX9_dotsAhead 111 = .ok (.imul, 1) := by decide +kernel
theorem dX9_dotsAhead_112 : decode cX9_dotsAhead 112 = .ok (.if_icmp .ge 6, 3) := by decide +kernel
theorem dX9_dotsAhead_115 : decode cX9_dotsAhead 115 = .ok (.goto 12, 3) := by decide +kernel
theorem dX9_dotsAhead_118 : decode cX9_dotsAhead 118 = .ok (.iinc 6 1, 3) := by decide +kernel
theorem dX9_dotsAhead_121 : decode cX9_dotsAhead 121 = .ok (.iinc 7 1, 3) := by decide +kernel
theorem dX9_dotsAhead_124 : decode cX9_dotsAhead 124 = .ok (.goto (-97), 3) := by decide +kernel
theorem dX9_dotsAhead_127 : decode cX9_dotsAhead 127 = .ok (.iload 6, 2) := by decide +kernel
theorem dX9_dotsAhead_129 : decode cX9_dotsAhead 129 = .ok (.ireturn, 1) := by decide +kernel
set_option maxRecDepth 100000 in
set_option maxHeartbeats 4000000 in
theorem c_X9_dotsAhead {l : Launch} {D : q_D} (τ : q_T) (σ : q_V) (a0 : Nat) (x1 : Int32) (x2 : Int32) (x3 : Int32) (hI : q_I τ σ) (tA0 : τ a0 = some (6, 1)) (rA1 : q_r x1 0 63) (rA2 : q_r x2 0 1) : q_Cp l D yX9_dotsAhead cX9_dotsAhead 10 (some .int) 1 21 τ σ [.ref a0, .int x1, .int x2, .int x3] (fun r => q_r r (-2147483648) 2147483647) := by
  refine q_meti rfl (Nat.le_of_ble_eq_true rfl) (fun X hG hE => ?_)
  show q_O X 0 0 τ σ 0 [(0, .ref a0), (1, .int x1), (2, .int x2), (3, .int x3)] []
  by_cases hz0 : x2.toInt = 0
  · have rA2 : q_r x2 0 0 := q_lit hz0
    refine q_iload_n (pc := 0) hG dX9_dotsAhead_0 2 rfl ?_
    have J9 : q_O X 0 0 τ σ 9 [(0, .ref a0), (1, .int x1), (3, .int x3)] [.int 1] := by
      refine q_istore (pc := 9) [(4, .int 1), (0, .ref a0), (1, .int x1), (3, .int x3)] hG dX9_dotsAhead_9 (by decide) rfl ?_
      refine q_aload_n (pc := 11) hG dX9_dotsAhead_11 1 rfl ?_
      refine q_getR (pc := 12) (k2 := 118) (n2 := 64) hG fl_X9_9 dX9_dotsAhead_12 hI tA0 ff_6_2 (fun b12 f12 T12 => ?_)
      refine q_iload_n (pc := 15) hG dX9_dotsAhead_15 2 rfl ?_
      refine q_iald (pc := 16) hG dX9_dotsAhead_16 hI ai_118 T12 (q_ix rA1 (by decide)) (fun v16 f16 g16 => ?_)
      refine q_iload_n (pc := 17) hG dX9_dotsAhead_17 3 rfl ?_
      refine q_iadd (pc := 18) hG dX9_dotsAhead_18 (fun v18 e18 => ?_)
      refine q_istore (pc := 19) [(5, .int v18), (4, .int 1), (0, .ref a0), (1, .int x1), (3, .int x3)] hG dX9_dotsAhead_19 (by decide) rfl ?_
      refine q_iconst (pc := 21) hG dX9_dotsAhead_21 ki_0 ?_
      refine q_istore (pc := 22) [(6, .int 0), (5, .int v18), (4, .int 1), (0, .ref a0), (1, .int x1), (3, .int x3)] hG dX9_dotsAhead_22 (by decide) rfl ?_
      refine q_iconst (pc := 24) hG dX9_dotsAhead_24 ki_1 ?_
      refine q_istore (pc := 25) [(7, .int 1), (6, .int 0), (5, .int v18), (4, .int 1), (0, .ref a0), (1, .int x1), (3, .int x3)] hG dX9_dotsAhead_25 (by decide) rfl ?_
      have J27 : ∀ (n27 : Nat) (p27_6 : Int32) (p27_7 : Int32), (q_r p27_7 1 64) → (x1.toInt + p27_7.toInt ≤ 64) → ((64 - p27_7.toInt).toNat < n27) → q_O X 0 0 τ σ 27 [(0, .ref a0), (1, .int x1), (4, .int 1), (5, .int v18), (6, .int p27_6), (7, .int p27_7)] [] := by
        intro n27
        induction n27 with
        | zero => intro p27_6 p27_7 r27_7 iS27 hm27; exact absurd hm27 (Nat.not_lt_zero _)
        | succ n27 ih27 =>
          intro p27_6 p27_7 r27_7 iS27 hm27
          refine q_iload (pc := 27) hG dX9_dotsAhead_27 5 rfl ?_
          refine q_bipush (pc := 29) hG dX9_dotsAhead_29 kb_64 ?_
          refine q_icmp_ge (pc := 31) hG 127 dX9_dotsAhead_31 rfl ?_ ?_
          · intro c31
            refine q_iload (pc := 127) hG dX9_dotsAhead_127 4 rfl ?_
            exact q_irt hG hE dX9_dotsAhead_129 ⟨rfl, (q_r_any p27_6)⟩
          intro c31
          refine q_aload_n (pc := 34) hG dX9_dotsAhead_34 0 rfl ?_
          refine q_iload_n (pc := 35) hG dX9_dotsAhead_35 1 rfl ?_
          refine q_iload (pc := 36) hG dX9_dotsAhead_36 2 rfl ?_
          refine q_iload (pc := 38) hG dX9_dotsAhead_38 5 rfl ?_
          refine q_imul (pc := 40) hG dX9_dotsAhead_40 (fun v40 e40 => ?_)
          have r_1 := q_rlt r27_7 rl_64 c31 63 (by decide)
          refine q_iadd (pc := 41) hG dX9_dotsAhead_41 (fun v41 e41 => ?_)
          have r_2 := (q_mulN (lo := 1) (hi := 63) e40 rl_1 r_1 (by decide)).2
          refine q_pV (pc := 42) [.int v41] [] hG (c_X7_isDot τ σ a0 v41 hI tA0) my_X7_isDot mv_X7_isDot w573 dX9_dotsAhead_42 tA0 (by decide) rfl rfl (Nat.le_of_ble_eq_true rfl) (by decide) (fun v42 p42 => ?_)
          refine q_if_eq (pc := 45) hG 127 dX9_dotsAhead_45 rfl ?_ ?_
          · intro c45
            refine q_iload (pc := 127) hG dX9_dotsAhead_127 4 rfl ?_
            exact q_irt hG hE dX9_dotsAhead_129 ⟨rfl, (q_r_any p27_6)⟩
          intro c45
          have g_3 := p42.2.2.1 (q_one p42.1 c45)
          have r_4 := (q_addN (lo := 1) (hi := 126) e41 rA1 r_2 (by decide)).2
          refine q_aload_n (pc := 48) hG dX9_dotsAhead_48 0 rfl ?_
          refine q_getV (pc := 49) (v := .ref b12) hG fl_X9_9 dX9_dotsAhead_49 tA0 f12 ?_
          refine q_iload_n (pc := 52) hG dX9_dotsAhead_52 1 rfl ?_
          refine q_iload (pc := 53) hG dX9_dotsAhead_53 2 rfl ?_
          refine q_iload (pc := 55) hG dX9_dotsAhead_55 5 rfl ?_
          refine q_imul (pc := 57) hG dX9_dotsAhead_57 (fun v57 e57 => ?_)
          rw [e57.trans e40.symm]
          refine q_iadd (pc := 58) hG dX9_dotsAhead_58 (fun v58 e58 => ?_)
          rw [e58.trans e41.symm]
          have r_5 := q_rle r_4 rl_63 (show _ ≤ (63 : Int32).toInt from g_3.2)
          refine q_iald (pc := 59) hG dX9_dotsAhead_59 hI ai_118 T12 (q_ix r_5 (by decide)) (fun v59 f59 g59 => ?_)
          refine q_iload (pc := 60) hG dX9_dotsAhead_60 3 rfl ?_
          refine q_isub (pc := 62) hG dX9_dotsAhead_62 (fun v62 e62 => ?_)
          refine q_istore (pc := 63) [(8, .int v62), (0, .ref a0), (1, .int x1), (4, .int 1), (5, .int v18), (6, .int p27_6), (7, .int p27_7)] hG dX9_dotsAhead_63 (by decide) rfl ?_
          refine q_iload (pc := 65) hG dX9_dotsAhead_65 6 rfl ?_
          refine q_iconst (pc := 67) hG dX9_dotsAhead_67 ki_1 ?_
          have J92 : ∀ (p92_s0 : Int32), q_O X 0 0 τ σ 92 [(0, .ref a0), (1, .int x1), (4, .int 1), (5, .int v18), (6, .int p27_6), (7, .int p27_7), (8, .int v62)] [.int p92_s0] := by
            intro p92_s0
            refine q_istore (pc := 92) [(9, .int p92_s0), (0, .ref a0), (1, .int x1), (4, .int 1), (5, .int v18), (6, .int p27_6), (7, .int p27_7), (8, .int v62)] hG dX9_dotsAhead_92 (by decide) rfl ?_
            refine q_iload (pc := 94) hG dX9_dotsAhead_94 6 rfl ?_
            refine q_iconst (pc := 96) hG dX9_dotsAhead_96 ki_1 ?_
            have J118 : q_O X 0 0 τ σ 118 [(0, .ref a0), (1, .int x1), (4, .int 1), (5, .int v18), (6, .int p27_6), (7, .int p27_7)] [] := by
              obtain ⟨v118, e118⟩ : ∃ z : Int32, z = p27_6 + Int32.ofInt 1 := ⟨_, rfl⟩
              refine q_iinc (pc := 118) [(6, .int v118), (0, .ref a0), (1, .int x1), (4, .int 1), (5, .int v18), (7, .int p27_7)] hG dX9_dotsAhead_118 4 rfl e118 (by decide) rfl ?_
              obtain ⟨v121, e121⟩ : ∃ z : Int32, z = p27_7 + Int32.ofInt 1 := ⟨_, rfl⟩
              have h121 := q_incN (lo := 2) (hi := 64) r_1 (by decide) (by decide) e121
              refine q_iinc (pc := 121) [(7, .int v121), (6, .int v118), (0, .ref a0), (1, .int x1), (4, .int 1), (5, .int v18)] hG dX9_dotsAhead_121 5 rfl e121 (by decide) rfl ?_
              refine q_goto (pc := 124) 27 hG dX9_dotsAhead_124 rfl ?_
              refine q_lv [2, 3, 4, 5, 1, 0] rfl ?_
              exact ih27 v118 v121 (q_r.mono h121.2 (by decide)) (by have o0 := iS27; have o1 := c31; have o2 := (by have q := (q_mulN (lo := 1) (hi := 63) e40 rl_1 r_1 (by decide)).1; rw [tl_1] at q; exact q); have o3 := (q_addN (lo := 1) (hi := 126) e41 rA1 r_2 (by decide)).1; have o4 := (show (0 : Int32).toInt ≤ _ from g_3.1); have o5 := (show _ ≤ (63 : Int32).toInt from g_3.2); have o6 := h121.1; have o7 := r_1; have o8 := h121.2; have o9 := r_2; have o10 := r_5; have o11 := rA1; have l12 := tl_0; have l13 := tl_63; have l14 := tl_64; unfold q_r at o7 o8 o9 o10 o11; omega) (q_measU hm27 (by have o0 := iS27; have o1 := c31; have o2 := (by have q := (q_mulN (lo := 1) (hi := 63) e40 rl_1 r_1 (by decide)).1; rw [tl_1] at q; exact q); have o3 := (q_addN (lo := 1) (hi := 126) e41 rA1 r_2 (by decide)).1; have o4 := (show (0 : Int32).toInt ≤ _ from g_3.1); have o5 := (show _ ≤ (63 : Int32).toInt from g_3.2); have o6 := h121.1; have o7 := r_1; have o8 := h121.2; have o9 := r_2; have o10 := r_5; have o11 := rA1; have l12 := tl_0; have l13 := tl_63; have l14 := tl_64; unfold q_r at o7 o8 o9 o10 o11; omega) (h121.2).2)
            refine q_icmp_le (pc := 97) hG 118 dX9_dotsAhead_97 rfl ?_ ?_
            · intro c97
              refine q_lv [1, 2, 3, 4, 5, 6] rfl ?_
              exact J118 
            intro c97
            refine q_iload (pc := 100) hG dX9_dotsAhead_100 7 rfl ?_
            refine q_iload (pc := 102) hG dX9_dotsAhead_102 6 rfl ?_
            refine q_iconst (pc := 104) hG dX9_dotsAhead_104 ki_1 ?_
            refine q_isub (pc := 105) hG dX9_dotsAhead_105 (fun v105 e105 => ?_)
            have r_6 := q_rgt r_1 rl_1 c97 2 (by decide)
            refine q_imul (pc := 106) hG dX9_dotsAhead_106 (fun v106 e106 => ?_)
            refine q_iload (pc := 107) hG dX9_dotsAhead_107 0 rfl ?_
            refine q_iload (pc := 109) hG dX9_dotsAhead_109 6 rfl ?_
            refine q_imul (pc := 111) hG dX9_dotsAhead_111 (fun v111 e111 => ?_)
            refine q_icmp_ge (pc := 112) hG 118 dX9_dotsAhead_112 rfl ?_ ?_
            · intro c112
              refine q_lv [1, 2, 3, 4, 5, 6] rfl ?_
              exact J118 
            intro c112
            refine q_goto (pc := 115) 127 hG dX9_dotsAhead_115 rfl ?_
            refine q_iload (pc := 127) hG dX9_dotsAhead_127 5 rfl ?_
            exact q_irt hG hE dX9_dotsAhead_129 ⟨rfl, (q_r_any p27_6)⟩
          refine q_icmp_ne (pc := 68) hG 75 dX9_dotsAhead_68 rfl ?_ ?_
          · intro c68
            refine q_aload_n (pc := 75) hG dX9_dotsAhead_75 1 rfl ?_
            refine q_getV (pc := 76) (v := .ref b12) hG fl_X9_9 dX9_dotsAhead_76 tA0 f12 ?_
            refine q_iload_n (pc := 79) hG dX9_dotsAhead_79 2 rfl ?_
            refine q_iload (pc := 80) hG dX9_dotsAhead_80 3 rfl ?_
            refine q_iload (pc := 82) hG dX9_dotsAhead_82 6 rfl ?_
            refine q_iconst (pc := 84) hG dX9_dotsAhead_84 ki_1 ?_
            refine q_isub (pc := 85) hG dX9_dotsAhead_85 (fun v85 e85 => ?_)
            have r_7 := q_neL (c := 2) r_1 (q_nel c68 tl_1) (by decide)
            refine q_imul (pc := 86) hG dX9_dotsAhead_86 (fun v86 e86 => ?_)
            have r_8 := (q_subN (lo := 1) (hi := 62) e85 r_7 rl_1 (by decide)).2
            refine q_iadd (pc := 87) hG dX9_dotsAhead_87 (fun v87 e87 => ?_)
            have r_9 := (q_mulN (lo := 1) (hi := 62) e86 rl_1 r_8 (by decide)).2
            have r_10 := (q_addN (lo := 1) (hi := 125) e87 rA1 r_9 (by decide)).2
            refine q_iald (pc := 88) hG dX9_dotsAhead_88 hI ai_118 T12 (by have o0 := (q_addN (lo := 1) (hi := 125) e87 rA1 r_9 (by decide)).1; have o1 := iS27; have o2 := c31; have o3 := (by have q := (q_mulN (lo := 1) (hi := 63) e40 rl_1 r_1 (by decide)).1; rw [tl_1] at q; exact q); have o4 := (q_addN (lo := 1) (hi := 126) e41 rA1 r_2 (by decide)).1; have o5 := (show (0 : Int32).toInt ≤ _ from g_3.1); have o6 := (show _ ≤ (63 : Int32).toInt from g_3.2); have o7 := c68; have o8 := (q_subN (lo := 1) (hi := 62) e85 r_7 rl_1 (by decide)).1; have o9 := (by have q := (q_mulN (lo := 1) (hi := 62) e86 rl_1 r_8 (by decide)).1; rw [tl_1] at q; exact q); have o10 := r_7; have o11 := r_2; have o12 := r_5; have o13 := r_8; have o14 := r_9; have o15 := r_10; have o16 := rA1; have l17 := tl_0; have l18 := tl_1; have l19 := tl_63; have l20 := tl_64; unfold q_r at o10 o11 o12 o13 o14 o15 o16; omega) (fun v88 f88 g88 => ?_)
            refine q_iload (pc := 89) hG dX9_dotsAhead_89 4 rfl ?_
            refine q_isub (pc := 91) hG dX9_dotsAhead_91 (fun v91 e91 => ?_)
            refine q_lv [1, 2, 3, 4, 5, 6, 0] rfl ?_
            exact J92 v91
          intro c68
          refine q_iconst (pc := 71) hG dX9_dotsAhead_71 ki_0 ?_
          refine q_goto (pc := 72) 92 hG dX9_dotsAhead_72 rfl ?_
          refine q_lv [1, 2, 3, 4, 5, 6, 0] rfl ?_
          exact J92 0
      refine q_lv [4, 5, 3, 2, 1, 0] rfl ?_
      exact J27 _ 0 1 (q_r.mono rl_1 (by decide)) (by have o0 := rA1; have l1 := tl_1; unfold q_r at o0; omega) (Nat.lt_succ_self _)
    refine q_if_ne (pc := 1) hG 8 dX9_dotsAhead_1 rfl ?_ ?_
    · intro c1
      exact absurd c1 (by have q0 := rA2; unfold q_r at q0; omega)
    intro c1
    refine q_iconst (pc := 4) hG dX9_dotsAhead_4 ki_1 ?_
    refine q_goto (pc := 5) 9 hG dX9_dotsAhead_5 rfl ?_
    refine q_lv [0, 1, 3] rfl ?_
    exact J9 
  · have rA2 : q_r x2 1 1 := q_lit (by unfold q_r at rA2; omega)
    refine q_iload_n (pc := 0) hG dX9_dotsAhead_0 2 rfl ?_
    have J9 : q_O X 0 0 τ σ 9 [(0, .ref a0), (1, .int x1), (3, .int x3)] [.int (-1)] := by
      refine q_istore (pc := 9) [(4, .int (-1)), (0, .ref a0), (1, .int x1), (3, .int x3)] hG dX9_dotsAhead_9 (by decide) rfl ?_
      refine q_aload_n (pc := 11) hG dX9_dotsAhead_11 1 rfl ?_
      refine q_getR (pc := 12) (k2 := 118) (n2 := 64) hG fl_X9_9 dX9_dotsAhead_12 hI tA0 ff_6_2 (fun b12 f12 T12 => ?_)
      refine q_iload_n (pc := 15) hG dX9_dotsAhead_15 2 rfl ?_
      refine q_iald (pc := 16) hG dX9_dotsAhead_16 hI ai_118 T12 (q_ix rA1 (by decide)) (fun v16 f16 g16 => ?_)
      refine q_iload_n (pc := 17) hG dX9_dotsAhead_17 3 rfl ?_
      refine q_iadd (pc := 18) hG dX9_dotsAhead_18 (fun v18 e18 => ?_)
      refine q_istore (pc := 19) [(5, .int v18), (4, .int (-1)), (0, .ref a0), (1, .int x1), (3, .int x3)] hG dX9_dotsAhead_19 (by decide) rfl ?_
      refine q_iconst (pc := 21) hG dX9_dotsAhead_21 ki_0 ?_
      refine q_istore (pc := 22) [(6, .int 0), (5, .int v18), (4, .int (-1)), (0, .ref a0), (1, .int x1), (3, .int x3)] hG dX9_dotsAhead_22 (by decide) rfl ?_
      refine q_iconst (pc := 24) hG dX9_dotsAhead_24 ki_1 ?_
      refine q_istore (pc := 25) [(7, .int 1), (6, .int 0), (5, .int v18), (4, .int (-1)), (0, .ref a0), (1, .int x1), (3, .int x3)] hG dX9_dotsAhead_25 (by decide) rfl ?_
      have J27 : ∀ (n27 : Nat) (p27_6 : Int32) (p27_7 : Int32), (q_r p27_7 1 64) → (p27_7.toInt ≤ x1.toInt + 1) → ((64 - p27_7.toInt).toNat < n27) → q_O X 0 0 τ σ 27 [(0, .ref a0), (1, .int x1), (4, .int (-1)), (5, .int v18), (6, .int p27_6), (7, .int p27_7)] [] := by
        intro n27
        induction n27 with
        | zero => intro p27_6 p27_7 r27_7 iS27 hm27; exact absurd hm27 (Nat.not_lt_zero _)
        | succ n27 ih27 =>
          intro p27_6 p27_7 r27_7 iS27 hm27
          refine q_iload (pc := 27) hG dX9_dotsAhead_27 5 rfl ?_
          refine q_bipush (pc := 29) hG dX9_dotsAhead_29 kb_64 ?_
          refine q_icmp_ge (pc := 31) hG 127 dX9_dotsAhead_31 rfl ?_ ?_
          · intro c31
            refine q_iload (pc := 127) hG dX9_dotsAhead_127 4 rfl ?_
            exact q_irt hG hE dX9_dotsAhead_129 ⟨rfl, (q_r_any p27_6)⟩
          intro c31
          refine q_aload_n (pc := 34) hG dX9_dotsAhead_34 0 rfl ?_
          refine q_iload_n (pc := 35) hG dX9_dotsAhead_35 1 rfl ?_
          refine q_iload (pc := 36) hG dX9_dotsAhead_36 2 rfl ?_
          refine q_iload (pc := 38) hG dX9_dotsAhead_38 5 rfl ?_
          refine q_imul (pc := 40) hG dX9_dotsAhead_40 (fun v40 e40 => ?_)
          have r_1 := q_rlt r27_7 rl_64 c31 63 (by decide)
          refine q_iadd (pc := 41) hG dX9_dotsAhead_41 (fun v41 e41 => ?_)
          have r_2 := (q_mulN (lo := (-63)) (hi := (-1)) e40 rl_m1 r_1 (by decide)).2
          refine q_pV (pc := 42) [.int v41] [] hG (c_X7_isDot τ σ a0 v41 hI tA0) my_X7_isDot mv_X7_isDot w573 dX9_dotsAhead_42 tA0 (by decide) rfl rfl (Nat.le_of_ble_eq_true rfl) (by decide) (fun v42 p42 => ?_)
          refine q_if_eq (pc := 45) hG 127 dX9_dotsAhead_45 rfl ?_ ?_
          · intro c45
            refine q_iload (pc := 127) hG dX9_dotsAhead_127 4 rfl ?_
            exact q_irt hG hE dX9_dotsAhead_129 ⟨rfl, (q_r_any p27_6)⟩
          intro c45
          have g_3 := p42.2.2.1 (q_one p42.1 c45)
          have r_4 := (q_addN (lo := (-63)) (hi := 62) e41 rA1 r_2 (by decide)).2
          have r_5 := q_rge r_4 rl_0 (show (0 : Int32).toInt ≤ _ from g_3.1)
          refine q_aload_n (pc := 48) hG dX9_dotsAhead_48 0 rfl ?_
          refine q_getV (pc := 49) (v := .ref b12) hG fl_X9_9 dX9_dotsAhead_49 tA0 f12 ?_
          refine q_iload_n (pc := 52) hG dX9_dotsAhead_52 1 rfl ?_
          refine q_iload (pc := 53) hG dX9_dotsAhead_53 2 rfl ?_
          refine q_iload (pc := 55) hG dX9_dotsAhead_55 5 rfl ?_
          refine q_imul (pc := 57) hG dX9_dotsAhead_57 (fun v57 e57 => ?_)
          rw [e57.trans e40.symm]
          refine q_iadd (pc := 58) hG dX9_dotsAhead_58 (fun v58 e58 => ?_)
          rw [e58.trans e41.symm]
          refine q_iald (pc := 59) hG dX9_dotsAhead_59 hI ai_118 T12 (q_ix r_5 (by decide)) (fun v59 f59 g59 => ?_)
          refine q_iload (pc := 60) hG dX9_dotsAhead_60 3 rfl ?_
          refine q_isub (pc := 62) hG dX9_dotsAhead_62 (fun v62 e62 => ?_)
          refine q_istore (pc := 63) [(8, .int v62), (0, .ref a0), (1, .int x1), (4, .int (-1)), (5, .int v18), (6, .int p27_6), (7, .int p27_7)] hG dX9_dotsAhead_63 (by decide) rfl ?_
          refine q_iload (pc := 65) hG dX9_dotsAhead_65 6 rfl ?_
          refine q_iconst (pc := 67) hG dX9_dotsAhead_67 ki_1 ?_
          have J92 : ∀ (p92_s0 : Int32), q_O X 0 0 τ σ 92 [(0, .ref a0), (1, .int x1), (4, .int (-1)), (5, .int v18), (6, .int p27_6), (7, .int p27_7), (8, .int v62)] [.int p92_s0] := by
            intro p92_s0
            refine q_istore (pc := 92) [(9, .int p92_s0), (0, .ref a0), (1, .int x1), (4, .int (-1)), (5, .int v18), (6, .int p27_6), (7, .int p27_7), (8, .int v62)] hG dX9_dotsAhead_92 (by decide) rfl ?_
            refine q_iload (pc := 94) hG dX9_dotsAhead_94 6 rfl ?_
            refine q_iconst (pc := 96) hG dX9_dotsAhead_96 ki_1 ?_
            have J118 : q_O X 0 0 τ σ 118 [(0, .ref a0), (1, .int x1), (4, .int (-1)), (5, .int v18), (6, .int p27_6), (7, .int p27_7)] [] := by
              obtain ⟨v118, e118⟩ : ∃ z : Int32, z = p27_6 + Int32.ofInt 1 := ⟨_, rfl⟩
              refine q_iinc (pc := 118) [(6, .int v118), (0, .ref a0), (1, .int x1), (4, .int (-1)), (5, .int v18), (7, .int p27_7)] hG dX9_dotsAhead_118 4 rfl e118 (by decide) rfl ?_
              obtain ⟨v121, e121⟩ : ∃ z : Int32, z = p27_7 + Int32.ofInt 1 := ⟨_, rfl⟩
              have h121 := q_incN (lo := 2) (hi := 64) r_1 (by decide) (by decide) e121
              refine q_iinc (pc := 121) [(7, .int v121), (6, .int v118), (0, .ref a0), (1, .int x1), (4, .int (-1)), (5, .int v18)] hG dX9_dotsAhead_121 5 rfl e121 (by decide) rfl ?_
              refine q_goto (pc := 124) 27 hG dX9_dotsAhead_124 rfl ?_
              refine q_lv [2, 3, 4, 5, 1, 0] rfl ?_
              exact ih27 v118 v121 (q_r.mono h121.2 (by decide)) (by have o0 := iS27; have o1 := c31; have o2 := (by have q := (q_mulN (lo := (-63)) (hi := (-1)) e40 rl_m1 r_1 (by decide)).1; rw [tl_m1] at q; exact q); have o3 := (q_addN (lo := (-63)) (hi := 62) e41 rA1 r_2 (by decide)).1; have o4 := (show (0 : Int32).toInt ≤ _ from g_3.1); have o5 := (show _ ≤ (63 : Int32).toInt from g_3.2); have o6 := h121.1; have o7 := r_1; have o8 := h121.2; have o9 := r_2; have o10 := r_5; have o11 := rA1; have l12 := tl_0; have l13 := tl_63; have l14 := tl_64; unfold q_r at o7 o8 o9 o10 o11; omega) (q_measU hm27 (by have o0 := iS27; have o1 := c31; have o2 := (by have q := (q_mulN (lo := (-63)) (hi := (-1)) e40 rl_m1 r_1 (by decide)).1; rw [tl_m1] at q; exact q); have o3 := (q_addN (lo := (-63)) (hi := 62) e41 rA1 r_2 (by decide)).1; have o4 := (show (0 : Int32).toInt ≤ _ from g_3.1); have o5 := (show _ ≤ (63 : Int32).toInt from g_3.2); have o6 := h121.1; have o7 := r_1; have o8 := h121.2; have o9 := r_2; have o10 := r_5; have o11 := rA1; have l12 := tl_0; have l13 := tl_63; have l14 := tl_64; unfold q_r at o7 o8 o9 o10 o11; omega) (h121.2).2)
            refine q_icmp_le (pc := 97) hG 118 dX9_dotsAhead_97 rfl ?_ ?_
            · intro c97
              refine q_lv [1, 2, 3, 4, 5, 6] rfl ?_
              exact J118 
            intro c97
            refine q_iload (pc := 100) hG dX9_dotsAhead_100 7 rfl ?_
            refine q_iload (pc := 102) hG dX9_dotsAhead_102 6 rfl ?_
            refine q_iconst (pc := 104) hG dX9_dotsAhead_104 ki_1 ?_
            refine q_isub (pc := 105) hG dX9_dotsAhead_105 (fun v105 e105 => ?_)
            have r_6 := q_rgt r_1 rl_1 c97 2 (by decide)
            refine q_imul (pc := 106) hG dX9_dotsAhead_106 (fun v106 e106 => ?_)
            refine q_iload (pc := 107) hG dX9_dotsAhead_107 0 rfl ?_
            refine q_iload (pc := 109) hG dX9_dotsAhead_109 6 rfl ?_
            refine q_imul (pc := 111) hG dX9_dotsAhead_111 (fun v111 e111 => ?_)
            refine q_icmp_ge (pc := 112) hG 118 dX9_dotsAhead_112 rfl ?_ ?_
            · intro c112
              refine q_lv [1, 2, 3, 4, 5, 6] rfl ?_
              exact J118 
            intro c112
            refine q_goto (pc := 115) 127 hG dX9_dotsAhead_115 rfl ?_
            refine q_iload (pc := 127) hG dX9_dotsAhead_127 5 rfl ?_
            exact q_irt hG hE dX9_dotsAhead_129 ⟨rfl, (q_r_any p27_6)⟩
          refine q_icmp_ne (pc := 68) hG 75 dX9_dotsAhead_68 rfl ?_ ?_
          · intro c68
            refine q_aload_n (pc := 75) hG dX9_dotsAhead_75 1 rfl ?_
            refine q_getV (pc := 76) (v := .ref b12) hG fl_X9_9 dX9_dotsAhead_76 tA0 f12 ?_
            refine q_iload_n (pc := 79) hG dX9_dotsAhead_79 2 rfl ?_
            refine q_iload (pc := 80) hG dX9_dotsAhead_80 3 rfl ?_
            refine q_iload (pc := 82) hG dX9_dotsAhead_82 6 rfl ?_
            refine q_iconst (pc := 84) hG dX9_dotsAhead_84 ki_1 ?_
            refine q_isub (pc := 85) hG dX9_dotsAhead_85 (fun v85 e85 => ?_)
            have r_7 := q_neL (c := 2) r_1 (q_nel c68 tl_1) (by decide)
            refine q_imul (pc := 86) hG dX9_dotsAhead_86 (fun v86 e86 => ?_)
            have r_8 := (q_subN (lo := 1) (hi := 62) e85 r_7 rl_1 (by decide)).2
            refine q_iadd (pc := 87) hG dX9_dotsAhead_87 (fun v87 e87 => ?_)
            have r_9 := (q_mulN (lo := (-62)) (hi := (-1)) e86 rl_m1 r_8 (by decide)).2
            have r_10 := (q_addN (lo := (-62)) (hi := 62) e87 rA1 r_9 (by decide)).2
            refine q_iald (pc := 88) hG dX9_dotsAhead_88 hI ai_118 T12 (by have o0 := (q_addN (lo := (-62)) (hi := 62) e87 rA1 r_9 (by decide)).1; have o1 := iS27; have o2 := c31; have o3 := (by have q := (q_mulN (lo := (-63)) (hi := (-1)) e40 rl_m1 r_1 (by decide)).1; rw [tl_m1] at q; exact q); have o4 := (q_addN (lo := (-63)) (hi := 62) e41 rA1 r_2 (by decide)).1; have o5 := (show (0 : Int32).toInt ≤ _ from g_3.1); have o6 := (show _ ≤ (63 : Int32).toInt from g_3.2); have o7 := c68; have o8 := (q_subN (lo := 1) (hi := 62) e85 r_7 rl_1 (by decide)).1; have o9 := (by have q := (q_mulN (lo := (-62)) (hi := (-1)) e86 rl_m1 r_8 (by decide)).1; rw [tl_m1] at q; exact q); have o10 := r_7; have o11 := r_2; have o12 := r_5; have o13 := r_8; have o14 := r_9; have o15 := r_10; have o16 := rA1; have l17 := tl_0; have l18 := tl_1; have l19 := tl_63; have l20 := tl_64; unfold q_r at o10 o11 o12 o13 o14 o15 o16; omega) (fun v88 f88 g88 => ?_)
            refine q_iload (pc := 89) hG dX9_dotsAhead_89 4 rfl ?_
            refine q_isub (pc := 91) hG dX9_dotsAhead_91 (fun v91 e91 => ?_)
            refine q_lv [1, 2, 3, 4, 5, 6, 0] rfl ?_
            exact J92 v91
          intro c68
          refine q_iconst (pc := 71) hG dX9_dotsAhead_71 ki_0 ?_
          refine q_goto (pc := 72) 92 hG dX9_dotsAhead_72 rfl ?_
          refine q_lv [1, 2, 3, 4, 5, 6, 0] rfl ?_
          exact J92 0
      refine q_lv [4, 5, 3, 2, 1, 0] rfl ?_
      exact J27 _ 0 1 (q_r.mono rl_1 (by decide)) (by have o0 := rA1; have l1 := tl_1; unfold q_r at o0; omega) (Nat.lt_succ_self _)
    refine q_if_ne (pc := 1) hG 8 dX9_dotsAhead_1 rfl ?_ ?_
    · intro c1
      refine q_iconst (pc := 8) hG dX9_dotsAhead_8 ki_m1 ?_
      refine q_lv [0, 1, 3] rfl ?_
      exact J9 
    intro c1
    exact absurd c1 (by have q0 := rA2; unfold q_r at q0; omega)
theorem dX9_suffices_0 : decode cX9_suffices 0 = .ok (.iload_n 2, 1) := by decide +kernel
theorem dX9_suffices_1 : decode cX9_suffices 1 = .ok (.ifCond .ne 14, 3) := by decide +kernel
theorem dX9_suffices_4 : decode cX9_suffices 4 = .ok (.aload_n 0, 1) := by decide +kernel
theorem dX9_suffices_5 : decode cX9_suffices 5 = .ok (.getfield 19, 3) := by decide +kernel
theorem dX9_suffices_8 : decode cX9_suffices 8 = .ok (.iconst 1, 1) := by decide +kernel
theorem dX9_suffices_9 : decode cX9_suffices 9 = .ok (.isub, 1) := by decide +kernel
theorem dX9_suffices_10 : decode cX9_suffices 10 = .ok (.iload_n 1, 1) := by decide +kernel
theorem dX9_suffices_11 : decode cX9_suffices 11 = .ok (.isub, 1) := by decide +kernel
theorem dX9_suffices_12 : decode cX9_suffices 12 = .ok (.goto 4, 3) := by decide +kernel
theorem dX9_suffices_15 : decode cX9_suffices 15 = .ok (.iload_n 1, 1) := by decide +kernel
theorem dX9_suffices_16 : decode cX9_suffices 16 = .ok (.istore 5, 2) := by decide +kernel
theorem dX9_suffices_18 : decode cX9_suffices 18 = .ok (.aload_n 0, 1) := by decide +kernel
theorem dX9_suffices_19 : decode cX9_suffices 19 = .ok (.iload_n 1, 1) := by decide +kernel
theorem dX9_suffices_20 : decode cX9_suffices 20 = .ok (.iload_n 2, 1) := by decide +kernel
theorem dX9_suffices_21 : decode cX9_suffices 21 = .ok (.iload_n 3, 1) := by decide +kernel
theorem dX9_suffices_22 : decode cX9_suffices 22 = .ok (.invokestatic 23, 3) := by decide +kernel
theorem dX9_suffices_25 : decode cX9_suffices 25 = .ok (.istore 6, 2) := by decide +kernel
theorem dX9_suffices_27 : decode cX9_suffices 27 = .ok (.iload 6, 2) := by decide +kernel
theorem dX9_suffices_29 : decode cX9_suffices 29 = .ok (.iload 4, 2) := by decide +kernel
theorem dX9_suffices_31 : decode cX9_suffices 31 = .ok (.if_icmp .ge 10, 3) := by decide +kernel
theorem dX9_suffices_34 : decode cX9_suffices 34 = .ok (.iload 6, 2) := by decide +kernel
theorem dX9_suffices_36 : decode cX9_suffices 36 = .ok (.iload 5, 2) := by decide +kernel
theorem dX9_suffices_38 : decode cX9_suffices 38 = .ok (.if_icmp .ne 7, 3) := by decide +kernel
theorem dX9_suffices_41 : decode cX9_suffices 41 = .ok (.iconst 1, 1) := by decide +kernel
theorem dX9_suffices_42 : decode cX9_suffices 42 = .ok (.goto 4, 3) := by decide +kernel
theorem dX9_suffices_45 : decode cX9_suffices 45 = .ok (.iconst 0, 1) := by decide +kernel
theorem dX9_suffices_46 : decode cX9_suffices 46 = .ok (.ireturn, 1) := by decide +kernel
set_option maxRecDepth 100000 in
set_option maxHeartbeats 4000000 in
theorem c_X9_suffices {l : Launch} {D : q_D} (τ : q_T) (σ : q_V) (a0 : Nat) (x1 : Int32) (x2 : Int32) (x3 : Int32) (x4 : Int32) (hI : q_I τ σ) (tA0 : τ a0 = some (6, 1)) (rA1 : q_r x1 0 63) (rA2 : q_r x2 0 1) : q_Cp l D yX9_suffices cX9_suffices 7 (some .boolean) 2 50 τ σ [.ref a0, .int x1, .int x2, .int x3, .int x4] (fun r => q_r r 0 1) := by
  refine q_meti rfl (Nat.le_of_ble_eq_true rfl) (fun X hG hE => ?_)
  show q_O X 0 0 τ σ 0 [(0, .ref a0), (1, .int x1), (2, .int x2), (3, .int x3), (4, .int x4)] []
  refine q_iload_n (pc := 0) hG dX9_suffices_0 2 rfl ?_
  have J16 : ∀ (p16_s0 : Int32), (q_r p16_s0 (-56) 63) → q_O X 0 0 τ σ 16 [(0, .ref a0), (1, .int x1), (2, .int x2), (3, .int x3), (4, .int x4)] [.int p16_s0] := by
    intro p16_s0 r16_s0
    refine q_istore (pc := 16) [(5, .int p16_s0), (0, .ref a0), (1, .int x1), (2, .int x2), (3, .int x3), (4, .int x4)] hG dX9_suffices_16 (by decide) rfl ?_
    refine q_aload_n (pc := 18) hG dX9_suffices_18 1 rfl ?_
    refine q_iload_n (pc := 19) hG dX9_suffices_19 2 rfl ?_
    refine q_iload_n (pc := 20) hG dX9_suffices_20 3 rfl ?_
    refine q_iload_n (pc := 21) hG dX9_suffices_21 4 rfl ?_
    refine q_pS (pc := 22) [.ref a0, .int x1, .int x2, .int x3] [] hG (c_X9_dotsAhead τ σ a0 x1 x2 x3 hI tA0 rA1 rA2) my_X9_dotsAhead w571 w588 dX9_suffices_22 rfl rfl (Nat.le_of_ble_eq_true rfl) (by decide) (fun v22 p22 => ?_)
    refine q_istore (pc := 25) [(6, .int v22), (5, .int p16_s0), (0, .ref a0), (1, .int x1), (2, .int x2), (3, .int x3), (4, .int x4)] hG dX9_suffices_25 (by decide) rfl ?_
    refine q_iload (pc := 27) hG dX9_suffices_27 0 rfl ?_
    refine q_iload (pc := 29) hG dX9_suffices_29 6 rfl ?_
    refine q_icmp_ge (pc := 31) hG 41 dX9_suffices_31 rfl ?_ ?_
    · intro c31
      refine q_iconst (pc := 41) hG dX9_suffices_41 ki_1 ?_
      refine q_goto (pc := 42) 46 hG dX9_suffices_42 rfl ?_
      exact q_zrt hG hE dX9_suffices_46 (q_r.mono rl_1 (by decide)) ⟨rfl, (q_r.mono rl_1 (by decide))⟩
    intro c31
    refine q_iload (pc := 34) hG dX9_suffices_34 0 rfl ?_
    refine q_iload (pc := 36) hG dX9_suffices_36 1 rfl ?_
    refine q_icmp_ne (pc := 38) hG 45 dX9_suffices_38 rfl ?_ ?_
    · intro c38
      have r_1 := q_rlt p22 (q_r_any x4) c31 2147483646 (by decide)
      refine q_iconst (pc := 45) hG dX9_suffices_45 ki_0 ?_
      exact q_zrt hG hE dX9_suffices_46 (q_r.mono rl_0 (by decide)) ⟨rfl, (q_r.mono rl_0 (by decide))⟩
    intro c38
    have r_2 := q_rlt p22 (q_r_any x4) c31 2147483646 (by decide)
    refine q_iconst (pc := 41) hG dX9_suffices_41 ki_1 ?_
    refine q_goto (pc := 42) 46 hG dX9_suffices_42 rfl ?_
    exact q_zrt hG hE dX9_suffices_46 (q_r.mono rl_1 (by decide)) ⟨rfl, (q_r.mono rl_1 (by decide))⟩
  refine q_if_ne (pc := 1) hG 15 dX9_suffices_1 rfl ?_ ?_
  · intro c1
    refine q_iload_n (pc := 15) hG dX9_suffices_15 1 rfl ?_
    refine q_lv [0, 1, 2, 3, 4] rfl ?_
    exact J16 x1 (q_r.mono rA1 (by decide))
  intro c1
  refine q_aload_n (pc := 4) hG dX9_suffices_4 0 rfl ?_
  refine q_getI (pc := 5) hG fl_X9_19 dX9_suffices_5 hI tA0 ff_6_0 (fun v5 f5 g5 => ?_)
  refine q_iconst (pc := 8) hG dX9_suffices_8 ki_1 ?_
  refine q_isub (pc := 9) hG dX9_suffices_9 (fun v9 e9 => ?_)
  refine q_iload_n (pc := 10) hG dX9_suffices_10 1 rfl ?_
  refine q_isub (pc := 11) hG dX9_suffices_11 (fun v11 e11 => ?_)
  have r_3 := (q_subN (lo := 7) (hi := 63) e9 g5 rl_1 (by decide)).2
  refine q_goto (pc := 12) 16 hG dX9_suffices_12 rfl ?_
  refine q_lv [0, 1, 2, 3, 4] rfl ?_
  have r_4 := (q_subN (lo := (-56)) (hi := 63) e11 r_3 rA1 (by decide)).2
  exact J16 v11 r_4
theorem dX9_isBroken_0 : decode cX9_isBroken 0 = .ok (.aload_n 0, 1) := by decide +kernel
theorem dX9_isBroken_1 : decode cX9_isBroken 1 = .ok (.iload_n 2, 1) := by decide +kernel
theorem dX9_isBroken_2 : decode cX9_isBroken 2 = .ok (.iload_n 3, 1) := by decide +kernel
theorem dX9_isBroken_3 : decode cX9_isBroken 3 = .ok (.iload 4, 2) := by decide +kernel
theorem dX9_isBroken_5 : decode cX9_isBroken 5 = .ok (.aload_n 1, 1) := by decide +kernel
theorem dX9_isBroken_6 : decode cX9_isBroken 6 = .ok (.bipush 115, 2) := by decide +kernel
theorem dX9_isBroken_8 : decode cX9_isBroken 8 = .ok (.aload_n 0, 1) := by decide +kernel
theorem dX9_isBroken_9 : decode cX9_isBroken 9 = .ok (.iload_n 2, 1) := by decide +kernel
theorem dX9_isBroken_10 : decode cX9_isBroken 10 = .ok (.aload_n 0, 1) := by decide +kernel
theorem dX9_isBroken_11 : decode cX9_isBroken 11 = .ok (.getfield 29, 3) := by decide +kernel
theorem dX9_isBroken_14 : decode cX9_isBroken 14 = .ok (.iconst 0, 1) := by decide +kernel
theorem dX9_isBroken_15 : decode cX9_isBroken 15 = .ok (.iconst 0, 1) := by decide +kernel
theorem dX9_isBroken_16 : decode cX9_isBroken 16 = .ok (.invokevirtual 32, 3) := by decide +kernel
theorem dX9_isBroken_19 : decode cX9_isBroken 19 = .ok (.invokestatic 38, 3) := by decide +kernel
theorem dX9_isBroken_22 : decode cX9_isBroken 22 = .ok (.ireturn, 1) := by decide +kernel
def md_X9_isBroken : List (Nat × Nat) := [(3, 9), (3, 10), (3, 11), (3, 12), (3, 13), (3, 14), (3, 15), (117, 0)]
set_option maxRecDepth 100000 in
set_option maxHeartbeats 4000000 in
theorem c_X9_isBroken {l : Launch} {D : q_D} (τ : q_T) (σ : q_V) (a0 : Nat) (a1 : Nat) (x2 : Int32) (x3 : Int32) (x4 : Int32) (hI : q_I τ σ) (tA0 : τ a0 = some (6, 1)) (tA1 : τ a1 = some (3, 1)) (rA2 : q_r x2 0 63) (rA3 : q_r x3 0 1) : q_Ci l D yX9_isBroken cX9_isBroken 5 (some .boolean) 5 119 τ σ [.ref a0, .ref a1, .int x2, .int x3, .int x4] (fun r σ1 => q_S md_X9_isBroken τ σ σ1 ∧ (q_r r 0 1)) := by
  refine q_meti rfl (Nat.le_of_ble_eq_true rfl) (fun X hG hE => ?_)
  show q_O X 0 0 τ σ 0 [(0, .ref a0), (1, .ref a1), (2, .int x2), (3, .int x3), (4, .int x4)] []
  have hS0 : q_S md_X9_isBroken τ σ σ := q_S.rf hI
  refine q_aload_n (pc := 0) hG dX9_isBroken_0 0 rfl ?_
  refine q_iload_n (pc := 1) hG dX9_isBroken_1 2 rfl ?_
  refine q_iload_n (pc := 2) hG dX9_isBroken_2 3 rfl ?_
  refine q_iload (pc := 3) hG dX9_isBroken_3 4 rfl ?_
  refine q_aload_n (pc := 5) hG dX9_isBroken_5 1 rfl ?_
  refine q_bipush (pc := 6) hG dX9_isBroken_6 kb_115 ?_
  refine q_aload_n (pc := 8) hG dX9_isBroken_8 0 rfl ?_
  refine q_iload_n (pc := 9) hG dX9_isBroken_9 2 rfl ?_
  refine q_aload_n (pc := 10) hG dX9_isBroken_10 0 rfl ?_
  refine q_getI (pc := 11) hG fl_X9_29 dX9_isBroken_11 hI tA0 ff_6_17 (fun v11 f11 g11 => ?_)
  refine q_iconst (pc := 14) hG dX9_isBroken_14 ki_0 ?_
  refine q_iconst (pc := 15) hG dX9_isBroken_15 ki_0 ?_
  refine q_cVi (pc := 16) [.int 115, .ref a0, .int x2, .int v11, .int 0, .int 0] [.int x4, .int x3, .int x2, .ref a0] hG (c_X3_ask τ σ a1 115 a0 x2 v11 0 0 hI tA1 tA0) my_X3_ask mv_X3_ask w584 dX9_isBroken_16 tA1 (by decide) rfl rfl (Nat.le_of_ble_eq_true rfl) (by decide) (fun v16 s16 p16 => ?_)
  have w16 := hS0.trans p16.1 rfl
  refine q_pS (pc := 19) [.ref a0, .int x2, .int x3, .int x4, .int v16] [] hG (c_X9_suffices τ s16 a0 x2 x3 x4 v16 w16.1 tA0 rA2 rA3) my_X9_suffices w586 w585 dX9_isBroken_19 rfl rfl (Nat.le_of_ble_eq_true rfl) (by decide) (fun v19 p19 => ?_)
  exact q_zrt hG hE dX9_isBroken_22 p19 ⟨w16, p19⟩
theorem dX9_marking_0 : decode cX9_marking 0 = .ok (.aload_n 0, 1) := by decide +kernel
theorem dX9_marking_1 : decode cX9_marking 1 = .ok (.aload_n 1, 1) := by decide +kernel
theorem dX9_marking_2 : decode cX9_marking 2 = .ok (.iload_n 2, 1) := by decide +kernel
theorem dX9_marking_3 : decode cX9_marking 3 = .ok (.iconst 0, 1) := by decide +kernel
theorem dX9_marking_4 : decode cX9_marking 4 = .ok (.iload_n 3, 1) := by decide +kernel
theorem dX9_marking_5 : decode cX9_marking 5 = .ok (.invokestatic 42, 3) := by decide +kernel
theorem dX9_marking_8 : decode cX9_marking 8 = .ok (.ifCond .eq 7, 3) := by decide +kernel
theorem dX9_marking_11 : decode cX9_marking 11 = .ok (.iconst 1, 1) := by decide +kernel
theorem dX9_marking_12 : decode cX9_marking 12 = .ok (.goto 4, 3) := by decide +kernel
theorem dX9_marking_15 : decode cX9_marking 15 = .ok (.iconst 0, 1) := by decide +kernel
theorem dX9_marking_16 : decode cX9_marking 16 = .ok (.istore 4, 2) := by decide +kernel
theorem dX9_marking_18 : decode cX9_marking 18 = .ok (.aload_n 0, 1) := by decide +kernel
theorem dX9_marking_19 : decode cX9_marking 19 = .ok (.aload_n 1, 1) := by decide +kernel
theorem dX9_marking_20 : decode cX9_marking 20 = .ok (.iload_n 2, 1) := by decide +kernel
theorem dX9_marking_21 : decode cX9_marking 21 = .ok (.iconst 1, 1) := by decide +kernel
theorem dX9_marking_22 : decode cX9_marking 22 = .ok (.iload_n 3, 1) := by decide +kernel
theorem dX9_marking_23 : decode cX9_marking 23 = .ok (.invokestatic 42, 3) := by decide +kernel
theorem dX9_marking_26 : decode cX9_marking 26 = .ok (.ifCond .eq 7, 3) := by decide +kernel
theorem dX9_marking_29 : decode cX9_marking 29 = .ok (.iconst 2, 1) := by decide +kernel
theorem dX9_marking_30 : decode cX9_marking 30 = .ok (.goto 4, 3) := by decide +kernel
theorem dX9_marking_33 : decode cX9_marking 33 = .ok (.iconst 0, 1) := by decide +kernel
theorem dX9_marking_34 : decode cX9_marking 34 = .ok (.istore 5, 2) := by decide +kernel
theorem dX9_marking_36 : decode cX9_marking 36 = .ok (.iload 4, 2) := by decide +kernel
theorem dX9_marking_38 : decode cX9_marking 38 = .ok (.iload 5, 2) := by decide +kernel
theorem dX9_marking_40 : decode cX9_marking 40 = .ok (.iadd, 1) := by decide +kernel
theorem dX9_marking_41 : decode cX9_marking 41 = .ok (.ireturn, 1) := by decide +kernel
def md_X9_marking : List (Nat × Nat) := [(3, 9), (3, 10), (3, 11), (3, 12), (3, 13), (3, 14), (3, 15), (117, 0)]
set_option maxRecDepth 100000 in
set_option maxHeartbeats 4000000 in
theorem c_X9_marking {l : Launch} {D : q_D} (τ : q_T) (σ : q_V) (a0 : Nat) (a1 : Nat) (x2 : Int32) (x3 : Int32) (hI : q_I τ σ) (tA0 : τ a0 = some (6, 1)) (tA1 : τ a1 = some (3, 1)) (rA2 : q_r x2 0 63) : q_Ci l D yX9_marking cX9_marking 6 (some .int) 6 143 τ σ [.ref a0, .ref a1, .int x2, .int x3] (fun r σ1 => q_S md_X9_marking τ σ σ1 ∧ (q_r r 0 3)) := by
  refine q_meti rfl (Nat.le_of_ble_eq_true rfl) (fun X hG hE => ?_)
  show q_O X 0 0 τ σ 0 [(0, .ref a0), (1, .ref a1), (2, .int x2), (3, .int x3)] []
  have hS0 : q_S md_X9_marking τ σ σ := q_S.rf hI
  refine q_aload_n (pc := 0) hG dX9_marking_0 0 rfl ?_
  refine q_aload_n (pc := 1) hG dX9_marking_1 1 rfl ?_
  refine q_iload_n (pc := 2) hG dX9_marking_2 2 rfl ?_
  refine q_iconst (pc := 3) hG dX9_marking_3 ki_0 ?_
  refine q_iload_n (pc := 4) hG dX9_marking_4 3 rfl ?_
  refine q_cSi (pc := 5) [.ref a0, .ref a1, .int x2, .int 0, .int x3] [] hG (c_X9_isBroken τ σ a0 a1 x2 0 x3 hI tA0 tA1 rA2 (q_r.mono rl_0 (by decide))) my_X9_isBroken w582 w581 dX9_marking_5 rfl rfl (Nat.le_of_ble_eq_true rfl) (by decide) (fun v5 s5 p5 => ?_)
  have w5 := hS0.trans p5.1 rfl
  have J16 : ∀ (p16_s0 : Int32), (q_r p16_s0 0 1) → q_O X 0 0 τ s5 16 [(0, .ref a0), (1, .ref a1), (2, .int x2), (3, .int x3)] [.int p16_s0] := by
    intro p16_s0 r16_s0
    refine q_istore (pc := 16) [(4, .int p16_s0), (0, .ref a0), (1, .ref a1), (2, .int x2), (3, .int x3)] hG dX9_marking_16 (by decide) rfl ?_
    refine q_aload_n (pc := 18) hG dX9_marking_18 1 rfl ?_
    refine q_aload_n (pc := 19) hG dX9_marking_19 2 rfl ?_
    refine q_iload_n (pc := 20) hG dX9_marking_20 3 rfl ?_
    refine q_iconst (pc := 21) hG dX9_marking_21 ki_1 ?_
    refine q_iload_n (pc := 22) hG dX9_marking_22 4 rfl ?_
    refine q_cSi (pc := 23) [.ref a0, .ref a1, .int x2, .int 1, .int x3] [] hG (c_X9_isBroken τ s5 a0 a1 x2 1 x3 w5.1 tA0 tA1 rA2 (q_r.mono rl_1 (by decide))) my_X9_isBroken w582 w581 dX9_marking_23 rfl rfl (Nat.le_of_ble_eq_true rfl) (by decide) (fun v23 s23 p23 => ?_)
    have w23 := w5.trans p23.1 rfl
    have J34 : ∀ (p34_s0 : Int32), (q_r p34_s0 0 2) → q_O X 0 0 τ s23 34 [(4, .int p16_s0)] [.int p34_s0] := by
      intro p34_s0 r34_s0
      refine q_istore (pc := 34) [(5, .int p34_s0), (4, .int p16_s0)] hG dX9_marking_34 (by decide) rfl ?_
      refine q_iload (pc := 36) hG dX9_marking_36 1 rfl ?_
      refine q_iload (pc := 38) hG dX9_marking_38 0 rfl ?_
      refine q_iadd (pc := 40) hG dX9_marking_40 (fun v40 e40 => ?_)
      have r_1 := (q_addN (lo := 0) (hi := 3) e40 r16_s0 r34_s0 (by decide)).2
      exact q_irt hG hE dX9_marking_41 ⟨w23, r_1⟩
    refine q_if_eq (pc := 26) hG 33 dX9_marking_26 rfl ?_ ?_
    · intro c26
      refine q_iconst (pc := 33) hG dX9_marking_33 ki_0 ?_
      refine q_lv [0] rfl ?_
      exact J34 0 (q_r.mono rl_0 (by decide))
    intro c26
    refine q_iconst (pc := 29) hG dX9_marking_29 ki_2 ?_
    refine q_goto (pc := 30) 34 hG dX9_marking_30 rfl ?_
    refine q_lv [0] rfl ?_
    exact J34 2 (q_r.mono rl_2 (by decide))
  refine q_if_eq (pc := 8) hG 15 dX9_marking_8 rfl ?_ ?_
  · intro c8
    refine q_iconst (pc := 15) hG dX9_marking_15 ki_0 ?_
    refine q_lv [0, 1, 2, 3] rfl ?_
    exact J16 0 (q_r.mono rl_0 (by decide))
  intro c8
  refine q_iconst (pc := 11) hG dX9_marking_11 ki_1 ?_
  refine q_goto (pc := 12) 16 hG dX9_marking_12 rfl ?_
  refine q_lv [0, 1, 2, 3] rfl ?_
  exact J16 1 (q_r.mono rl_1 (by decide))
