/-! laid by wip/p2/build.py -/
theorem dX12_isGreen_0 : decode cX12_isGreen 0 = .ok (.iload_n 0, 1) := by decide +kernel
theorem dX12_isGreen_1 : decode cX12_isGreen 1 = .ok (.iconst 2, 1) := by decide +kernel
theorem dX12_isGreen_2 : decode cX12_isGreen 2 = .ok (.iload_n 2, 1) := by decide +kernel
theorem dX12_isGreen_3 : decode cX12_isGreen 3 = .ok (.imul, 1) := by decide +kernel
theorem dX12_isGreen_4 : decode cX12_isGreen 4 = .ok (.iconst 2, 1) := by decide +kernel
theorem dX12_isGreen_5 : decode cX12_isGreen 5 = .ok (.iload_n 3, 1) := by decide +kernel
theorem dX12_isGreen_6 : decode cX12_isGreen 6 = .ok (.imul, 1) := by decide +kernel
theorem dX12_isGreen_7 : decode cX12_isGreen 7 = .ok (.iadd, 1) := by decide +kernel
theorem dX12_isGreen_8 : decode cX12_isGreen 8 = .ok (.irem, 1) := by decide +kernel
theorem dX12_isGreen_9 : decode cX12_isGreen 9 = .ok (.istore 4, 2) := by decide +kernel
theorem dX12_isGreen_11 : decode cX12_isGreen 11 = .ok (.iload_n 1, 1) := by decide +kernel
theorem dX12_isGreen_12 : decode cX12_isGreen 12 = .ok (.ifCond .ne 17, 3) := by decide +kernel
theorem dX12_isGreen_15 : decode cX12_isGreen 15 = .ok (.iload 4, 2) := by decide +kernel
theorem dX12_isGreen_17 : decode cX12_isGreen 17 = .ok (.iload_n 2, 1) := by decide +kernel
theorem dX12_isGreen_18 : decode cX12_isGreen 18 = .ok (.if_icmp .ge 7, 3) := by decide +kernel
theorem dX12_isGreen_21 : decode cX12_isGreen 21 = .ok (.iconst 1, 1) := by decide +kernel
theorem dX12_isGreen_22 : decode cX12_isGreen 22 = .ok (.goto 22, 3) := by decide +kernel
theorem dX12_isGreen_25 : decode cX12_isGreen 25 = .ok (.iconst 0, 1) := by decide +kernel
theorem dX12_isGreen_26 : decode cX12_isGreen 26 = .ok (.goto 18, 3) := by decide +kernel
theorem dX12_isGreen_29 : decode cX12_isGreen 29 = .ok (.iload 4, 2) := by decide +kernel
theorem dX12_isGreen_31 : decode cX12_isGreen 31 = .ok (.iload_n 2, 1) := by decide +kernel
theorem dX12_isGreen_32 : decode cX12_isGreen 32 = .ok (.iload_n 3, 1) := by decide +kernel
theorem dX12_isGreen_33 : decode cX12_isGreen 33 = .ok (.iadd, 1) := by decide +kernel
theorem dX12_isGreen_34 : decode cX12_isGreen 34 = .ok (.iconst 2, 1) := by decide +kernel
theorem dX12_isGreen_35 : decode cX12_isGreen 35 = .ok (.iload_n 2, 1) := by decide +kernel
theorem dX12_isGreen_36 : decode cX12_isGreen 36 = .ok (.imul, 1) := by decide +kernel
theorem dX12_isGreen_37 : decode cX12_isGreen 37 = .ok (.iload_n 3, 1) := by decide +kernel
theorem dX12_isGreen_38 : decode cX12_isGreen 38 = .ok (.iadd, 1) := by decide +kernel
theorem dX12_isGreen_39 : decode cX12_isGreen 39 = .ok (.iconst 1, 1) := by decide +kernel
theorem dX12_isGreen_40 : decode cX12_isGreen 40 = .ok (.isub, 1) := by decide +kernel
theorem dX12_isGreen_41 : decode cX12_isGreen 41 = .ok (.invokestatic 102, 3) := by decide +kernel
theorem dX12_isGreen_44 : decode cX12_isGreen 44 = .ok (.ireturn, 1) := by decide +kernel
set_option maxRecDepth 100000 in
set_option maxHeartbeats 4000000 in
theorem c_X12_isGreen {l : Launch} {D : q_D} (τ : q_T) (σ : q_V) (x0 : Int32) (x1 : Int32) (x2 : Int32) (x3 : Int32) (hI : q_I τ σ) (rA0 : q_r x0 0 100000) (rA2 : q_r x2 1 20) (rA3 : q_r x3 0 9) : q_Cp l D yX12_isGreen cX12_isGreen 5 (some .boolean) 1 22 τ σ [.int x0, .int x1, .int x2, .int x3] (fun r => (q_r r 0 1) ∧ (r.toInt = 1 ↔ q_gn x0.toInt x1.toInt x2.toInt x3.toInt)) := by
  refine q_meti rfl (Nat.le_of_ble_eq_true rfl) (fun X hG hE => ?_)
  show q_O X 0 0 τ σ 0 [(0, .int x0), (1, .int x1), (2, .int x2), (3, .int x3)] []
  refine q_iload_n (pc := 0) hG dX12_isGreen_0 0 rfl ?_
  refine q_iconst (pc := 1) hG dX12_isGreen_1 ki_2 ?_
  refine q_iload_n (pc := 2) hG dX12_isGreen_2 2 rfl ?_
  refine q_imul (pc := 3) hG dX12_isGreen_3 (fun v3 e3 => ?_)
  refine q_iconst (pc := 4) hG dX12_isGreen_4 ki_2 ?_
  refine q_iload_n (pc := 5) hG dX12_isGreen_5 3 rfl ?_
  refine q_imul (pc := 6) hG dX12_isGreen_6 (fun v6 e6 => ?_)
  refine q_iadd (pc := 7) hG dX12_isGreen_7 (fun v7 e7 => ?_)
  have r_1 := (q_mulN (lo := 2) (hi := 40) e3 rl_2 rA2 (by decide)).2
  have r_2 := (q_mulN (lo := 0) (hi := 18) e6 rl_2 rA3 (by decide)).2
  have r_3 := (q_addN (lo := 2) (hi := 58) e7 r_1 r_2 (by decide)).2
  refine q_irem (pc := 8) hG dX12_isGreen_8 (q_nzr r_3 (by decide)) (fun v8 e8 => ?_)
  refine q_istore (pc := 9) [(4, .int v8), (0, .int x0), (1, .int x1), (2, .int x2), (3, .int x3)] hG dX12_isGreen_9 (by decide) rfl ?_
  refine q_iload_n (pc := 11) hG dX12_isGreen_11 2 rfl ?_
  refine q_if_ne (pc := 12) hG 29 dX12_isGreen_12 rfl ?_ ?_
  · intro c12
    refine q_iload (pc := 29) hG dX12_isGreen_29 0 rfl ?_
    refine q_iload_n (pc := 31) hG dX12_isGreen_31 3 rfl ?_
    refine q_iload_n (pc := 32) hG dX12_isGreen_32 4 rfl ?_
    refine q_iadd (pc := 33) hG dX12_isGreen_33 (fun v33 e33 => ?_)
    refine q_iconst (pc := 34) hG dX12_isGreen_34 ki_2 ?_
    refine q_iload_n (pc := 35) hG dX12_isGreen_35 3 rfl ?_
    refine q_imul (pc := 36) hG dX12_isGreen_36 (fun v36 e36 => ?_)
    rw [e36.trans e3.symm]
    refine q_iload_n (pc := 37) hG dX12_isGreen_37 4 rfl ?_
    refine q_iadd (pc := 38) hG dX12_isGreen_38 (fun v38 e38 => ?_)
    refine q_iconst (pc := 39) hG dX12_isGreen_39 ki_1 ?_
    refine q_isub (pc := 40) hG dX12_isGreen_40 (fun v40 e40 => ?_)
    have r_4 := (q_addN (lo := 2) (hi := 49) e38 r_1 rA3 (by decide)).2
    refine q_pS (pc := 41) [.int v8, .int v33, .int v40] [] hG (c_X12_in τ σ v8 v33 v40 hI) my_X12_in w778 w777 dX12_isGreen_41 rfl rfl (Nat.le_of_ble_eq_true rfl) (by decide) (fun v41 p41 => ?_)
    have r_5 := (q_addN (lo := 1) (hi := 29) e33 rA2 rA3 (by decide)).2
    have r_6 := (q_subN (lo := 1) (hi := 48) e40 r_4 rl_1 (by decide)).2
    have r_7 := q_r.mono (c := 0) (d := 57) (q_remP e8 rA0 r_3 (by decide)).2.1 (by decide)
    exact q_zrt hG hE dX12_isGreen_44 p41.1 ⟨rfl, p41.1, (by have o0 := (by have q := (q_mulN (lo := 2) (hi := 40) e3 rl_2 rA2 (by decide)).1; rw [tl_2] at q; exact q); have o1 := (by have q := (q_mulN (lo := 0) (hi := 18) e6 rl_2 rA3 (by decide)).1; rw [tl_2] at q; exact q); have o2 := (q_addN (lo := 2) (hi := 58) e7 r_1 r_2 (by decide)).1; have o3 := (q_remP e8 rA0 r_3 (by decide)).2.2; have o4 := (q_remL e8 rA0 r_3 (by decide)); have o5 := c12; have o6 := (q_addN (lo := 1) (hi := 29) e33 rA2 rA3 (by decide)).1; have o7 := (q_addN (lo := 2) (hi := 49) e38 r_1 rA3 (by decide)).1; have o8 := (q_subN (lo := 1) (hi := 48) e40 r_4 rl_1 (by decide)).1; have o9 := r_1; have o10 := r_5; have o11 := r_4; have o12 := r_6; have o13 := p41.1; have o14 := r_2; have o15 := r_3; have o16 := r_7; have o17 := rA0; have o18 := rA2; have o19 := rA3; have l20 := tl_1; have o21 := p41.2.2; unfold q_r at o9 o10 o11 o12 o13 o14 o15 o16 o17 o18 o19; have hr0 := (q_remP e8 rA0 r_3 (by decide)).1; have hp : (2 : Int) * x2.toInt + 2 * x3.toInt = v7.toInt := (by omega); unfold q_gn; rw [hp, ← hr0]; omega)⟩
  intro c12
  refine q_iload (pc := 15) hG dX12_isGreen_15 0 rfl ?_
  refine q_iload_n (pc := 17) hG dX12_isGreen_17 3 rfl ?_
  refine q_icmp_ge (pc := 18) hG 25 dX12_isGreen_18 rfl ?_ ?_
  · intro c18
    have r_8 := q_r.mono (c := 0) (d := 57) (q_remP e8 rA0 r_3 (by decide)).2.1 (by decide)
    refine q_iconst (pc := 25) hG dX12_isGreen_25 ki_0 ?_
    refine q_goto (pc := 26) 44 hG dX12_isGreen_26 rfl ?_
    have r_9 := q_rge r_8 rA2 c18
    have r_10 := q_zeq c12
    exact q_zrt hG hE dX12_isGreen_44 (q_r.mono rl_0 (by decide)) ⟨rfl, (q_r.mono rl_0 (by decide)), (by have o0 := (by have q := (q_mulN (lo := 2) (hi := 40) e3 rl_2 rA2 (by decide)).1; rw [tl_2] at q; exact q); have o1 := (by have q := (q_mulN (lo := 0) (hi := 18) e6 rl_2 rA3 (by decide)).1; rw [tl_2] at q; exact q); have o2 := (q_addN (lo := 2) (hi := 58) e7 r_1 r_2 (by decide)).1; have o3 := (q_remP e8 rA0 r_3 (by decide)).2.2; have o4 := (q_remL e8 rA0 r_3 (by decide)); have o5 := c12; have o6 := c18; have o7 := r_1; have o8 := r_2; have o9 := r_3; have o10 := r_9; have o11 := rA0; have o12 := r_10; have o13 := rA2; have o14 := rA3; have l15 := tl_0; unfold q_r at o7 o8 o9 o10 o11 o12 o13 o14; have hr0 := (q_remP e8 rA0 r_3 (by decide)).1; have hp : (2 : Int) * x2.toInt + 2 * x3.toInt = v7.toInt := (by omega); unfold q_gn; rw [hp, ← hr0]; omega)⟩
  intro c18
  have r_11 := q_r.mono (c := 0) (d := 57) (q_remP e8 rA0 r_3 (by decide)).2.1 (by decide)
  refine q_iconst (pc := 21) hG dX12_isGreen_21 ki_1 ?_
  refine q_goto (pc := 22) 44 hG dX12_isGreen_22 rfl ?_
  have r_12 := q_rlt r_11 rA2 c18 19 (by decide)
  have r_13 := q_zeq c12
  exact q_zrt hG hE dX12_isGreen_44 (q_r.mono rl_1 (by decide)) ⟨rfl, (q_r.mono rl_1 (by decide)), (by have o0 := (by have q := (q_mulN (lo := 2) (hi := 40) e3 rl_2 rA2 (by decide)).1; rw [tl_2] at q; exact q); have o1 := (by have q := (q_mulN (lo := 0) (hi := 18) e6 rl_2 rA3 (by decide)).1; rw [tl_2] at q; exact q); have o2 := (q_addN (lo := 2) (hi := 58) e7 r_1 r_2 (by decide)).1; have o3 := (q_remP e8 rA0 r_3 (by decide)).2.2; have o4 := (q_remL e8 rA0 r_3 (by decide)); have o5 := c12; have o6 := c18; have o7 := r_1; have o8 := r_2; have o9 := r_3; have o10 := r_12; have o11 := rA0; have o12 := r_13; have o13 := rA2; have o14 := rA3; have l15 := tl_1; unfold q_r at o7 o8 o9 o10 o11 o12 o13 o14; have hr0 := (q_remP e8 rA0 r_3 (by decide)).1; have hp : (2 : Int) * x2.toInt + 2 * x3.toInt = v7.toInt := (by omega); unfold q_gn; rw [hp, ← hr0]; omega)⟩
theorem dX12_waitsBy_0 : decode cX12_waitsBy 0 = .ok (.iconst 0, 1) := by decide +kernel
theorem dX12_waitsBy_1 : decode cX12_waitsBy 1 = .ok (.istore 4, 2) := by decide +kernel
theorem dX12_waitsBy_3 : decode cX12_waitsBy 3 = .ok (.iconst 0, 1) := by decide +kernel
theorem dX12_waitsBy_4 : decode cX12_waitsBy 4 = .ok (.istore 5, 2) := by decide +kernel
theorem dX12_waitsBy_6 : decode cX12_waitsBy 6 = .ok (.iload 5, 2) := by decide +kernel
theorem dX12_waitsBy_8 : decode cX12_waitsBy 8 = .ok (.iconst 2, 1) := by decide +kernel
theorem dX12_waitsBy_9 : decode cX12_waitsBy 9 = .ok (.if_icmp .ge 114, 3) := by decide +kernel
theorem dX12_waitsBy_12 : decode cX12_waitsBy 12 = .ok (.iconst 0, 1) := by decide +kernel
theorem dX12_waitsBy_13 : decode cX12_waitsBy 13 = .ok (.istore 6, 2) := by decide +kernel
theorem dX12_waitsBy_15 : decode cX12_waitsBy 15 = .ok (.iconst 0, 1) := by decide +kernel
theorem dX12_waitsBy_16 : decode cX12_waitsBy 16 = .ok (.istore 7, 2) := by decide +kernel
theorem dX12_waitsBy_18 : decode cX12_waitsBy 18 = .ok (.iload 7, 2) := by decide +kernel
theorem dX12_waitsBy_20 : decode cX12_waitsBy 20 = .ok (.iload_n 1, 1) := by decide +kernel
theorem dX12_waitsBy_21 : decode cX12_waitsBy 21 = .ok (.if_icmp .ge 96, 3) := by decide +kernel
theorem dX12_waitsBy_24 : decode cX12_waitsBy 24 = .ok (.aload_n 0, 1) := by decide +kernel
theorem dX12_waitsBy_25 : decode cX12_waitsBy 25 = .ok (.getfield 19, 3) := by decide +kernel
theorem dX12_waitsBy_28 : decode cX12_waitsBy 28 = .ok (.iconst 2, 1) := by decide +kernel
theorem dX12_waitsBy_29 : decode cX12_waitsBy 29 = .ok (.iload 7, 2) := by decide +kernel
theorem dX12_waitsBy_31 : decode cX12_waitsBy 31 = .ok (.imul, 1) := by decide +kernel
theorem dX12_waitsBy_32 : decode cX12_waitsBy 32 = .ok (.iconst 1, 1) := by decide +kernel
theorem dX12_waitsBy_33 : decode cX12_waitsBy 33 = .ok (.iadd, 1) := by decide +kernel
theorem dX12_waitsBy_34 : decode cX12_waitsBy 34 = .ok (.baload, 1) := by decide +kernel
theorem dX12_waitsBy_35 : decode cX12_waitsBy 35 = .ok (.iload 5, 2) := by decide +kernel
theorem dX12_waitsBy_37 : decode cX12_waitsBy 37 = .ok (.if_icmp .eq 6, 3) := by decide +kernel
theorem dX12_waitsBy_40 : decode cX12_waitsBy 40 = .ok (.goto 71, 3) := by decide +kernel
theorem dX12_waitsBy_43 : decode cX12_waitsBy 43 = .ok (.iload 6, 2) := by decide +kernel
theorem dX12_waitsBy_45 : decode cX12_waitsBy 45 = .ok (.aload_n 0, 1) := by decide +kernel
theorem dX12_waitsBy_46 : decode cX12_waitsBy 46 = .ok (.getfield 19, 3) := by decide +kernel
theorem dX12_waitsBy_49 : decode cX12_waitsBy 49 = .ok (.iconst 2, 1) := by decide +kernel
theorem dX12_waitsBy_50 : decode cX12_waitsBy 50 = .ok (.iload 7, 2) := by decide +kernel
theorem dX12_waitsBy_52 : decode cX12_waitsBy 52 = .ok (.imul, 1) := by decide +kernel
theorem dX12_waitsBy_53 : decode cX12_waitsBy 53 = .ok (.baload, 1) := by decide +kernel
theorem dX12_waitsBy_54 : decode cX12_waitsBy 54 = .ok (.sipush 255, 3) := by decide +kernel
theorem dX12_waitsBy_57 : decode cX12_waitsBy 57 = .ok (.iand, 1) := by decide +kernel
theorem dX12_waitsBy_58 : decode cX12_waitsBy 58 = .ok (.invokestatic 260, 3) := by decide +kernel
theorem dX12_waitsBy_61 : decode cX12_waitsBy 61 = .ok (.istore 6, 2) := by decide +kernel
theorem dX12_waitsBy_63 : decode cX12_waitsBy 63 = .ok (.iload 6, 2) := by decide +kernel
theorem dX12_waitsBy_65 : decode cX12_waitsBy 65 = .ok (.iload 5, 2) := by decide +kernel
theorem dX12_waitsBy_67 : decode cX12_waitsBy 67 = .ok (.iload_n 2, 1) := by decide +kernel
theorem dX12_waitsBy_68 : decode cX12_waitsBy 68 = .ok (.iload_n 3, 1) := by decide +kernel
theorem dX12_waitsBy_69 : decode cX12_waitsBy 69 = .ok (.invokestatic 389, 3) := by decide +kernel
theorem dX12_waitsBy_72 : decode cX12_waitsBy 72 = .ok (.ifCond .ne 12, 3) := by decide +kernel
theorem dX12_waitsBy_75 : decode cX12_waitsBy 75 = .ok (.iload 6, 2) := by decide +kernel
theorem dX12_waitsBy_77 : decode cX12_waitsBy 77 = .ok (.iconst 1, 1) := by decide +kernel
theorem dX12_waitsBy_78 : decode cX12_waitsBy 78 = .ok (.iadd, 1) := by decide +kernel
theorem dX12_waitsBy_79 : decode cX12_waitsBy 79 = .ok (.istore 6, 2) := by decide +kernel
theorem dX12_waitsBy_81 : decode cX12_waitsBy 81 = .ok (.goto (-18), 3) := by decide +kernel
theorem dX12_waitsBy_84 : decode cX12_waitsBy 84 = .ok (.iload 4, 2) := by decide +kernel
theorem dX12_waitsBy_86 : decode cX12_waitsBy 86 = .ok (.iload 6, 2) := by decide +kernel
theorem dX12_waitsBy_88 : decode cX12_waitsBy 88 = .ok (.iadd, 1) := by decide +kernel
theorem dX12_waitsBy_89 : decode cX12_waitsBy 89 = .ok (.aload_n 0, 1) := by decide +kernel
theorem dX12_waitsBy_90 : decode cX12_waitsBy 90 = .ok (.getfield 19, 3) := by decide +kernel
theorem dX12_waitsBy_93 : decode cX12_waitsBy 93 = .ok (.iconst 2, 1) := by decide +kernel
theorem dX12_waitsBy_94 : decode cX12_waitsBy 94 = .ok (.iload 7, 2) := by decide +kernel
theorem dX12_waitsBy_96 : decode cX12_waitsBy 96 = .ok (.imul, 1) := by decide +kernel
theorem dX12_waitsBy_97 : decode cX12_waitsBy 97 = .ok (.baload, 1) := by decide +kernel
theorem dX12_waitsBy_98 : decode cX12_waitsBy 98 = .ok (.sipush 255, 3) := by decide +kernel
theorem dX12_waitsBy_101 : decode cX12_waitsBy 101 = .ok (.iand, 1) := by decide +kernel
theorem dX12_waitsBy_102 : decode cX12_waitsBy 102 = .ok (.isub, 1) := by decide +kernel
theorem dX12_waitsBy_103 : decode cX12_waitsBy 103 = .ok (.istore 4, 2) := by decide +kernel
theorem dX12_waitsBy_105 : decode cX12_waitsBy 105 = .ok (.iload 6, 2) := by decide +kernel
theorem dX12_waitsBy_107 : decode cX12_waitsBy 107 = .ok (.iconst 1, 1) := by decide +kernel
theorem dX12_waitsBy_108 : decode cX12_waitsBy 108 = .ok (.iadd, 1) := by decide +kernel
theorem dX12_waitsBy_109 : decode cX12_waitsBy 109 = .ok (.istore 6, 2) := by decide +kernel
theorem dX12_waitsBy_111 : decode cX12_waitsBy 111 = .ok (.iinc 7 1, 3) := by decide +kernel
theorem dX12_waitsBy_114 : decode cX12_waitsBy 114 = .ok (.goto (-96), 3) := by decide +kernel
theorem dX12_waitsBy_117 : decode cX12_waitsBy 117 = .ok (.iinc 5 1, 3) := by decide +kernel
theorem dX12_waitsBy_120 : decode cX12_waitsBy 120 = .ok (.goto (-114), 3) := by decide +kernel
theorem dX12_waitsBy_123 : decode cX12_waitsBy 123 = .ok (.iload 4, 2) := by decide +kernel
theorem dX12_waitsBy_125 : decode cX12_waitsBy 125 = .ok (.ireturn, 1) := by decide +kernel
set_option maxRecDepth 100000 in
set_option maxHeartbeats 4000000 in
theorem c_X12_waitsBy {l : Launch} {D : q_D} (τ : q_T) (σ : q_V) (a0 : Nat) (x1 : Int32) (x2 : Int32) (x3 : Int32) (hI : q_I τ σ) (tA0 : τ a0 = some (10, 1)) (rA1 : q_r x1 1 20) (rA2 : q_r x2 1 20) (rA3 : q_r x3 0 9) : q_Cp l D yX12_waitsBy cX12_waitsBy 8 (some .int) 2 46 τ σ [.ref a0, .int x1, .int x2, .int x3] (fun r => q_r r (-2147483648) 2147483647) := by
  refine q_meti rfl (Nat.le_of_ble_eq_true rfl) (fun X hG hE => ?_)
  show q_O X 0 0 τ σ 0 [(0, .ref a0), (1, .int x1), (2, .int x2), (3, .int x3)] []
  refine q_iconst (pc := 0) hG dX12_waitsBy_0 ki_0 ?_
  refine q_istore (pc := 1) [(4, .int 0), (0, .ref a0), (1, .int x1), (2, .int x2), (3, .int x3)] hG dX12_waitsBy_1 (by decide) rfl ?_
  refine q_iconst (pc := 3) hG dX12_waitsBy_3 ki_0 ?_
  refine q_istore (pc := 4) [(5, .int 0), (4, .int 0), (0, .ref a0), (1, .int x1), (2, .int x2), (3, .int x3)] hG dX12_waitsBy_4 (by decide) rfl ?_
  have J6 : ∀ (n6 : Nat) (p6_4 : Int32) (p6_5 : Int32), (q_r p6_5 0 2) → ((2 - p6_5.toInt).toNat < n6) → q_O X 0 0 τ σ 6 [(0, .ref a0), (1, .int x1), (2, .int x2), (3, .int x3), (4, .int p6_4), (5, .int p6_5)] [] := by
    intro n6
    induction n6 with
    | zero => intro p6_4 p6_5 r6_5 hm6; exact absurd hm6 (Nat.not_lt_zero _)
    | succ n6 ih6 =>
      intro p6_4 p6_5 r6_5 hm6
      refine q_iload (pc := 6) hG dX12_waitsBy_6 5 rfl ?_
      refine q_iconst (pc := 8) hG dX12_waitsBy_8 ki_2 ?_
      refine q_icmp_ge (pc := 9) hG 123 dX12_waitsBy_9 rfl ?_ ?_
      · intro c9
        refine q_iload (pc := 123) hG dX12_waitsBy_123 4 rfl ?_
        exact q_irt hG hE dX12_waitsBy_125 ⟨rfl, (q_r_any p6_4)⟩
      intro c9
      refine q_iconst (pc := 12) hG dX12_waitsBy_12 ki_0 ?_
      refine q_istore (pc := 13) [(6, .int 0), (0, .ref a0), (1, .int x1), (2, .int x2), (3, .int x3), (4, .int p6_4), (5, .int p6_5)] hG dX12_waitsBy_13 (by decide) rfl ?_
      refine q_iconst (pc := 15) hG dX12_waitsBy_15 ki_0 ?_
      refine q_istore (pc := 16) [(7, .int 0), (6, .int 0), (0, .ref a0), (1, .int x1), (2, .int x2), (3, .int x3), (4, .int p6_4), (5, .int p6_5)] hG dX12_waitsBy_16 (by decide) rfl ?_
      have J18 : ∀ (n18 : Nat) (p18_4 : Int32) (p18_6 : Int32) (p18_7 : Int32), (q_r p18_6 0 1500) → (q_r p18_7 0 20) → (p18_6.toInt ≤ 255 + 60 * p18_7.toInt) → ((20 - p18_7.toInt).toNat < n18) → q_O X 0 0 τ σ 18 [(0, .ref a0), (1, .int x1), (2, .int x2), (3, .int x3), (4, .int p18_4), (5, .int p6_5), (6, .int p18_6), (7, .int p18_7)] [] := by
        intro n18
        induction n18 with
        | zero => intro p18_4 p18_6 p18_7 r18_6 r18_7 iA18 hm18; exact absurd hm18 (Nat.not_lt_zero _)
        | succ n18 ih18 =>
          intro p18_4 p18_6 p18_7 r18_6 r18_7 iA18 hm18
          refine q_iload (pc := 18) hG dX12_waitsBy_18 7 rfl ?_
          refine q_iload_n (pc := 20) hG dX12_waitsBy_20 1 rfl ?_
          refine q_icmp_ge (pc := 21) hG 117 dX12_waitsBy_21 rfl ?_ ?_
          · intro c21
            obtain ⟨v117, e117⟩ : ∃ z : Int32, z = p6_5 + Int32.ofInt 1 := ⟨_, rfl⟩
            have r_1 := q_rlt r6_5 rl_2 c9 1 (by decide)
            have h117 := q_incN (lo := 1) (hi := 2) r_1 (by decide) (by decide) e117
            refine q_iinc (pc := 117) [(5, .int v117), (0, .ref a0), (1, .int x1), (2, .int x2), (3, .int x3), (4, .int p18_4), (6, .int p18_6), (7, .int p18_7)] hG dX12_waitsBy_117 5 rfl e117 (by decide) rfl ?_
            refine q_goto (pc := 120) 6 hG dX12_waitsBy_120 rfl ?_
            refine q_lv [1, 2, 3, 4, 5, 0] rfl ?_
            exact ih6 p18_4 v117 (q_r.mono h117.2 (by decide)) (q_measU hm6 (by have o0 := c9; have o1 := h117.1; have o2 := r_1; have o3 := h117.2; have l4 := tl_2; unfold q_r at o2 o3; omega) (h117.2).2)
          intro c21
          refine q_aload_n (pc := 24) hG dX12_waitsBy_24 0 rfl ?_
          refine q_getR (pc := 25) (k2 := 310) (n2 := 260) hG fl_X12_19 dX12_waitsBy_25 hI tA0 ff_10_3 (fun b25 f25 T25 => ?_)
          refine q_iconst (pc := 28) hG dX12_waitsBy_28 ki_2 ?_
          refine q_iload (pc := 29) hG dX12_waitsBy_29 7 rfl ?_
          refine q_imul (pc := 31) hG dX12_waitsBy_31 (fun v31 e31 => ?_)
          have r_2 := q_rlt r18_7 rA1 c21 19 (by decide)
          refine q_iconst (pc := 32) hG dX12_waitsBy_32 ki_1 ?_
          refine q_iadd (pc := 33) hG dX12_waitsBy_33 (fun v33 e33 => ?_)
          have r_3 := (q_mulN (lo := 0) (hi := 38) e31 rl_2 r_2 (by decide)).2
          have r_4 := (q_addN (lo := 1) (hi := 39) e33 r_3 rl_1 (by decide)).2
          refine q_bald (pc := 34) hG dX12_waitsBy_34 hI ai_310 T25 (q_ix r_4 (by decide)) (fun v34 f34 g34 => ?_)
          refine q_iload (pc := 35) hG dX12_waitsBy_35 5 rfl ?_
          have J111 : ∀ (p111_4 : Int32) (p111_6 : Int32), (q_r p111_6 0 1600) → (p111_6.toInt ≤ 315 + 60 * p18_7.toInt) → q_O X 0 0 τ σ 111 [(0, .ref a0), (1, .int x1), (2, .int x2), (3, .int x3), (4, .int p111_4), (5, .int p6_5), (6, .int p111_6), (7, .int p18_7)] [] := by
            intro p111_4 p111_6 r111_6 iC111
            obtain ⟨v111, e111⟩ : ∃ z : Int32, z = p18_7 + Int32.ofInt 1 := ⟨_, rfl⟩
            have h111 := q_incN (lo := 1) (hi := 20) r_2 (by decide) (by decide) e111
            refine q_iinc (pc := 111) [(7, .int v111), (0, .ref a0), (1, .int x1), (2, .int x2), (3, .int x3), (4, .int p111_4), (5, .int p6_5), (6, .int p111_6)] hG dX12_waitsBy_111 7 rfl e111 (by decide) rfl ?_
            refine q_goto (pc := 114) 18 hG dX12_waitsBy_114 rfl ?_
            refine q_lv [1, 2, 3, 4, 5, 6, 7, 0] rfl ?_
            exact ih18 p111_4 p111_6 v111 (show q_r p111_6 0 1500 from ⟨(by have o0 := iC111; have o1 := h111.1; have o2 := iA18; have o3 := c21; have o4 := (by have q := (q_mulN (lo := 0) (hi := 38) e31 rl_2 r_2 (by decide)).1; rw [tl_2] at q; exact q); have o5 := (q_addN (lo := 1) (hi := 39) e33 r_3 rl_1 (by decide)).1; have o6 := r111_6; have o7 := r18_6; have o8 := r_2; have o9 := h111.2; have o10 := r_3; have o11 := r_4; have o12 := rA1; have l13 := tl_1; unfold q_r at o6 o7 o8 o9 o10 o11 o12; omega), (by have o0 := iC111; have o1 := h111.1; have o2 := iA18; have o3 := c21; have o4 := (by have q := (q_mulN (lo := 0) (hi := 38) e31 rl_2 r_2 (by decide)).1; rw [tl_2] at q; exact q); have o5 := (q_addN (lo := 1) (hi := 39) e33 r_3 rl_1 (by decide)).1; have o6 := r111_6; have o7 := r18_6; have o8 := r_2; have o9 := h111.2; have o10 := r_3; have o11 := r_4; have o12 := rA1; have l13 := tl_1; unfold q_r at o6 o7 o8 o9 o10 o11 o12; omega)⟩) (q_r.mono h111.2 (by decide)) (by have o0 := iC111; have o1 := h111.1; have o2 := iA18; have o3 := c21; have o4 := (by have q := (q_mulN (lo := 0) (hi := 38) e31 rl_2 r_2 (by decide)).1; rw [tl_2] at q; exact q); have o5 := (q_addN (lo := 1) (hi := 39) e33 r_3 rl_1 (by decide)).1; have o6 := r111_6; have o7 := r18_6; have o8 := r_2; have o9 := h111.2; have o10 := r_3; have o11 := r_4; have o12 := rA1; have l13 := tl_1; unfold q_r at o6 o7 o8 o9 o10 o11 o12; omega) (q_measU hm18 (by have o0 := iA18; have o1 := c21; have o2 := (by have q := (q_mulN (lo := 0) (hi := 38) e31 rl_2 r_2 (by decide)).1; rw [tl_2] at q; exact q); have o3 := (q_addN (lo := 1) (hi := 39) e33 r_3 rl_1 (by decide)).1; have o4 := iC111; have o5 := h111.1; have o6 := r111_6; have o7 := r18_6; have o8 := r_2; have o9 := h111.2; have o10 := r_3; have o11 := r_4; have o12 := rA1; have l13 := tl_1; unfold q_r at o6 o7 o8 o9 o10 o11 o12; omega) (h111.2).2)
          refine q_icmp_eq (pc := 37) hG 43 dX12_waitsBy_37 rfl ?_ ?_
          · intro c37
            have r_5 := q_rlt r6_5 rl_2 c9 1 (by decide)
            refine q_iload (pc := 43) hG dX12_waitsBy_43 6 rfl ?_
            refine q_aload_n (pc := 45) hG dX12_waitsBy_45 0 rfl ?_
            refine q_getV (pc := 46) (v := .ref b25) hG fl_X12_19 dX12_waitsBy_46 tA0 f25 ?_
            refine q_iconst (pc := 49) hG dX12_waitsBy_49 ki_2 ?_
            refine q_iload (pc := 50) hG dX12_waitsBy_50 7 rfl ?_
            refine q_imul (pc := 52) hG dX12_waitsBy_52 (fun v52 e52 => ?_)
            rw [e52.trans e31.symm]
            refine q_bald (pc := 53) hG dX12_waitsBy_53 hI ai_310 T25 (q_ix r_3 (by decide)) (fun v53 f53 g53 => ?_)
            refine q_sipush (pc := 54) hG dX12_waitsBy_54 ks_255 ?_
            refine q_iand (pc := 57) hG dX12_waitsBy_57 (fun v57 e57 => ?_)
            refine q_pS (pc := 58) [.int p18_6, .int v57] [] hG (c_X12_max τ σ p18_6 v57 hI) my_X12_max w1003 w1002 dX12_waitsBy_58 rfl rfl (Nat.le_of_ble_eq_true rfl) (by decide) (fun v58 p58 => ?_)
            have r_6 := q_andN (n := 255) e57 rfl (by decide)
            refine q_istore (pc := 61) [(6, .int v58), (0, .ref a0), (1, .int x1), (2, .int x2), (3, .int x3), (4, .int p18_4), (5, .int p6_5), (7, .int p18_7)] hG dX12_waitsBy_61 (by decide) rfl ?_
            have J63 : ∀ (n63 : Nat) (p63_6 : Int32), (q_r p63_6 0 1600) → (p63_6.toInt + q_gw p63_6.toInt p6_5.toInt x2.toInt x3.toInt ≤ 60 * p18_7.toInt + 293 ∧ 0 ≤ q_gw p63_6.toInt p6_5.toInt x2.toInt x3.toInt) → ((q_gw p63_6.toInt p6_5.toInt x2.toInt x3.toInt).toNat < n63) → q_O X 0 0 τ σ 63 [(0, .ref a0), (1, .int x1), (2, .int x2), (3, .int x3), (4, .int p18_4), (5, .int p6_5), (6, .int p63_6), (7, .int p18_7)] [] := by
              intro n63
              induction n63 with
              | zero => intro p63_6 r63_6 iB63 hm63; exact absurd hm63 (Nat.not_lt_zero _)
              | succ n63 ih63 =>
                intro p63_6 r63_6 iB63 hm63
                refine q_iload (pc := 63) hG dX12_waitsBy_63 6 rfl ?_
                refine q_iload (pc := 65) hG dX12_waitsBy_65 5 rfl ?_
                refine q_iload_n (pc := 67) hG dX12_waitsBy_67 2 rfl ?_
                refine q_iload_n (pc := 68) hG dX12_waitsBy_68 3 rfl ?_
                refine q_pS (pc := 69) [.int p63_6, .int p6_5, .int x2, .int x3] [] hG (c_X12_isGreen τ σ p63_6 p6_5 x2 x3 hI (q_r.mono r63_6 (by decide)) rA2 rA3) my_X12_isGreen w1157 w1156 dX12_waitsBy_69 rfl rfl (Nat.le_of_ble_eq_true rfl) (by decide) (fun v69 p69 => ?_)
                refine q_if_ne (pc := 72) hG 84 dX12_waitsBy_72 rfl ?_ ?_
                · intro c72
                  refine q_iload (pc := 84) hG dX12_waitsBy_84 4 rfl ?_
                  refine q_iload (pc := 86) hG dX12_waitsBy_86 6 rfl ?_
                  refine q_iadd (pc := 88) hG dX12_waitsBy_88 (fun v88 e88 => ?_)
                  refine q_aload_n (pc := 89) hG dX12_waitsBy_89 0 rfl ?_
                  refine q_getV (pc := 90) (v := .ref b25) hG fl_X12_19 dX12_waitsBy_90 tA0 f25 ?_
                  refine q_iconst (pc := 93) hG dX12_waitsBy_93 ki_2 ?_
                  refine q_iload (pc := 94) hG dX12_waitsBy_94 7 rfl ?_
                  refine q_imul (pc := 96) hG dX12_waitsBy_96 (fun v96 e96 => ?_)
                  rw [e96.trans e31.symm]
                  refine q_baldV (pc := 97) (v := .int v53) hG dX12_waitsBy_97 T25 (by decide) (by decide) (q_ix r_3 (by decide)) f53 ?_
                  refine q_sipush (pc := 98) hG dX12_waitsBy_98 ks_255 ?_
                  refine q_iand (pc := 101) hG dX12_waitsBy_101 (fun v101 e101 => ?_)
                  rw [e101.trans e57.symm]
                  refine q_isub (pc := 102) hG dX12_waitsBy_102 (fun v102 e102 => ?_)
                  refine q_istore (pc := 103) [(4, .int v102), (0, .ref a0), (1, .int x1), (2, .int x2), (3, .int x3), (5, .int p6_5), (6, .int p63_6), (7, .int p18_7)] hG dX12_waitsBy_103 (by decide) rfl ?_
                  refine q_iload (pc := 105) hG dX12_waitsBy_105 6 rfl ?_
                  refine q_iconst (pc := 107) hG dX12_waitsBy_107 ki_1 ?_
                  refine q_iadd (pc := 108) hG dX12_waitsBy_108 (fun v108 e108 => ?_)
                  refine q_istore (pc := 109) [(6, .int v108), (4, .int v102), (0, .ref a0), (1, .int x1), (2, .int x2), (3, .int x3), (5, .int p6_5), (7, .int p18_7)] hG dX12_waitsBy_109 (by decide) rfl ?_
                  refine q_lv [2, 3, 4, 5, 1, 6, 0, 7] rfl ?_
                  have r_7 := (q_addN (lo := 1) (hi := 1601) e108 r63_6 rl_1 (by decide)).2
                  have r_8 := q_maxN (lo := 0) (hi := 1500) p58.2.2.1 r18_6 r_6 (by decide)
                  exact J111 v102 v108 (show q_r v108 0 1600 from ⟨(by have o0 := (q_addN (lo := 1) (hi := 1601) e108 r63_6 rl_1 (by decide)).1; have o1 := iB63; have o2 := iA18; have o3 := c21; have o4 := (by have q := (q_mulN (lo := 0) (hi := 38) e31 rl_2 r_2 (by decide)).1; rw [tl_2] at q; exact q); have o5 := (q_addN (lo := 1) (hi := 39) e33 r_3 rl_1 (by decide)).1; have o6 := p58.2.2.1; have o7 := r18_6; have o8 := r_2; have o9 := r63_6; have o10 := r_7; have o11 := r_3; have o12 := r_4; have o13 := r_6; have o14 := r_8; have o15 := rA1; have l16 := tl_1; unfold q_r at o7 o8 o9 o10 o11 o12 o13 o14 o15; omega), (by have o0 := (q_addN (lo := 1) (hi := 1601) e108 r63_6 rl_1 (by decide)).1; have o1 := iB63; have o2 := iA18; have o3 := c21; have o4 := (by have q := (q_mulN (lo := 0) (hi := 38) e31 rl_2 r_2 (by decide)).1; rw [tl_2] at q; exact q); have o5 := (q_addN (lo := 1) (hi := 39) e33 r_3 rl_1 (by decide)).1; have o6 := p58.2.2.1; have o7 := r18_6; have o8 := r_2; have o9 := r63_6; have o10 := r_7; have o11 := r_3; have o12 := r_4; have o13 := r_6; have o14 := r_8; have o15 := rA1; have l16 := tl_1; unfold q_r at o7 o8 o9 o10 o11 o12 o13 o14 o15; omega)⟩) (by have o0 := iA18; have o1 := c21; have o2 := (by have q := (q_mulN (lo := 0) (hi := 38) e31 rl_2 r_2 (by decide)).1; rw [tl_2] at q; exact q); have o3 := (q_addN (lo := 1) (hi := 39) e33 r_3 rl_1 (by decide)).1; have o4 := p58.2.2.1; have o5 := iB63; have o6 := (q_addN (lo := 1) (hi := 1601) e108 r63_6 rl_1 (by decide)).1; have o7 := r18_6; have o8 := r_2; have o9 := r63_6; have o10 := r_7; have o11 := r_3; have o12 := r_4; have o13 := r_6; have o14 := r_8; have o15 := rA1; have l16 := tl_1; unfold q_r at o7 o8 o9 o10 o11 o12 o13 o14 o15; omega)
                intro c72
                refine q_iload (pc := 75) hG dX12_waitsBy_75 6 rfl ?_
                refine q_iconst (pc := 77) hG dX12_waitsBy_77 ki_1 ?_
                refine q_iadd (pc := 78) hG dX12_waitsBy_78 (fun v78 e78 => ?_)
                have r_9 := q_maxN (lo := 0) (hi := 1500) p58.2.2.1 r18_6 r_6 (by decide)
                have r_10 := (q_addN (lo := 1) (hi := 1601) e78 r63_6 rl_1 (by decide)).2
                have gs78 : q_gw v78.toInt p6_5.toInt x2.toInt x3.toInt + 1 = q_gw p63_6.toInt p6_5.toInt x2.toInt x3.toInt ∧ 0 ≤ q_gw v78.toInt p6_5.toInt x2.toInt x3.toInt := by
                  have e1 : v78.toInt = p63_6.toInt + 1 := (by have o0 := iB63; have o1 := (q_addN (lo := 1) (hi := 1601) e78 r63_6 rl_1 (by decide)).1; have o2 := iA18; have o3 := c21; have o4 := (by have q := (q_mulN (lo := 0) (hi := 38) e31 rl_2 r_2 (by decide)).1; rw [tl_2] at q; exact q); have o5 := (q_addN (lo := 1) (hi := 39) e33 r_3 rl_1 (by decide)).1; have o6 := p58.2.2.1; have o7 := r18_6; have o8 := r_2; have o9 := r63_6; have o10 := r_3; have o11 := r_4; have o12 := r_6; have o13 := r_9; have o14 := r_10; have o15 := rA1; have l16 := tl_1; unfold q_r at o7 o8 o9 o10 o11 o12 o13 o14 o15; omega)
                  rw [e1]
                  exact ⟨q_gw_step rA2.1 rA3.1 (fun q => absurd (p69.2.mpr q) (by omega)), (q_gw_le rA2 rA3).1⟩
                refine q_istore (pc := 79) [(6, .int v78), (0, .ref a0), (1, .int x1), (2, .int x2), (3, .int x3), (4, .int p18_4), (5, .int p6_5), (7, .int p18_7)] hG dX12_waitsBy_79 (by decide) rfl ?_
                refine q_goto (pc := 81) 63 hG dX12_waitsBy_81 rfl ?_
                refine q_lv [1, 2, 3, 4, 5, 6, 0, 7] rfl ?_
                exact ih63 v78 (show q_r v78 0 1600 from ⟨(by have o0 := (q_addN (lo := 1) (hi := 1601) e78 r63_6 rl_1 (by decide)).1; have o1 := gs78; have o2 := iB63; have o3 := iA18; have o4 := c21; have o5 := (by have q := (q_mulN (lo := 0) (hi := 38) e31 rl_2 r_2 (by decide)).1; rw [tl_2] at q; exact q); have o6 := (q_addN (lo := 1) (hi := 39) e33 r_3 rl_1 (by decide)).1; have o7 := p58.2.2.1; have o8 := r18_6; have o9 := r_2; have o10 := r63_6; have o11 := r_3; have o12 := r_4; have o13 := r_6; have o14 := r_9; have o15 := r_10; have o16 := rA1; have l17 := tl_1; unfold q_r at o8 o9 o10 o11 o12 o13 o14 o15 o16; omega), (by have o0 := (q_addN (lo := 1) (hi := 1601) e78 r63_6 rl_1 (by decide)).1; have o1 := gs78; have o2 := iB63; have o3 := iA18; have o4 := c21; have o5 := (by have q := (q_mulN (lo := 0) (hi := 38) e31 rl_2 r_2 (by decide)).1; rw [tl_2] at q; exact q); have o6 := (q_addN (lo := 1) (hi := 39) e33 r_3 rl_1 (by decide)).1; have o7 := p58.2.2.1; have o8 := r18_6; have o9 := r_2; have o10 := r63_6; have o11 := r_3; have o12 := r_4; have o13 := r_6; have o14 := r_9; have o15 := r_10; have o16 := rA1; have l17 := tl_1; unfold q_r at o8 o9 o10 o11 o12 o13 o14 o15 o16; omega)⟩) (by have o0 := iA18; have o1 := c21; have o2 := (by have q := (q_mulN (lo := 0) (hi := 38) e31 rl_2 r_2 (by decide)).1; rw [tl_2] at q; exact q); have o3 := (q_addN (lo := 1) (hi := 39) e33 r_3 rl_1 (by decide)).1; have o4 := p58.2.2.1; have o5 := iB63; have o6 := (q_addN (lo := 1) (hi := 1601) e78 r63_6 rl_1 (by decide)).1; have o7 := gs78; have o8 := r18_6; have o9 := r_2; have o10 := r63_6; have o11 := r_3; have o12 := r_4; have o13 := r_6; have o14 := r_9; have o15 := r_10; have o16 := rA1; have l17 := tl_1; unfold q_r at o8 o9 o10 o11 o12 o13 o14 o15 o16; omega) (by have o0 := iB63; have o1 := (q_addN (lo := 1) (hi := 1601) e78 r63_6 rl_1 (by decide)).1; have o2 := gs78; have o3 := iA18; have o4 := c21; have o5 := (by have q := (q_mulN (lo := 0) (hi := 38) e31 rl_2 r_2 (by decide)).1; rw [tl_2] at q; exact q); have o6 := (q_addN (lo := 1) (hi := 39) e33 r_3 rl_1 (by decide)).1; have o7 := p58.2.2.1; have o8 := r18_6; have o9 := r_2; have o10 := r63_6; have o11 := r_3; have o12 := r_4; have o13 := r_6; have o14 := r_9; have o15 := r_10; have o16 := rA1; have l17 := tl_1; have o18 := hm63; unfold q_r at o8 o9 o10 o11 o12 o13 o14 o15 o16; omega)
            refine q_lv [1, 2, 3, 4, 5, 6, 0, 7] rfl ?_
            have r_11 := q_maxN (lo := 0) (hi := 1500) p58.2.2.1 r18_6 r_6 (by decide)
            exact J63 _ v58 (q_r.mono r_11 (by decide)) (by have o0 := iA18; have o1 := c21; have o2 := (by have q := (q_mulN (lo := 0) (hi := 38) e31 rl_2 r_2 (by decide)).1; rw [tl_2] at q; exact q); have o3 := (q_addN (lo := 1) (hi := 39) e33 r_3 rl_1 (by decide)).1; have o4 := p58.2.2.1; have o5 := r18_6; have o6 := r_2; have o7 := r_3; have o8 := r_4; have o9 := r_6; have o10 := r_11; have o11 := rA1; have l12 := tl_1; have o13 := q_gw_le (m := v58.toInt) (e := p6_5.toInt) rA2 rA3; unfold q_r at o5 o6 o7 o8 o9 o10 o11; omega) (Nat.lt_succ_self _)
          intro c37
          have r_12 := q_rlt r6_5 rl_2 c9 1 (by decide)
          refine q_goto (pc := 40) 111 hG dX12_waitsBy_40 rfl ?_
          refine q_lv [0, 1, 2, 3, 4, 5, 6, 7] rfl ?_
          exact J111 p18_4 p18_6 (q_r.mono r18_6 (by decide)) (by have o0 := iA18; have o1 := c21; have o2 := (by have q := (q_mulN (lo := 0) (hi := 38) e31 rl_2 r_2 (by decide)).1; rw [tl_2] at q; exact q); have o3 := (q_addN (lo := 1) (hi := 39) e33 r_3 rl_1 (by decide)).1; have o4 := r18_6; have o5 := r_2; have o6 := r_3; have o7 := r_4; have o8 := rA1; have l9 := tl_1; unfold q_r at o4 o5 o6 o7 o8; omega)
      refine q_lv [2, 3, 4, 5, 6, 7, 1, 0] rfl ?_
      exact J18 _ p6_4 0 0 (q_r.mono rl_0 (by decide)) (q_r.mono rl_0 (by decide)) (by have l0 := tl_0; omega) (Nat.lt_succ_self _)
  refine q_lv [2, 3, 4, 5, 1, 0] rfl ?_
  exact J6 _ 0 0 (q_r.mono rl_0 (by decide)) (Nat.lt_succ_self _)
theorem dX12_copies_0 : decode cX12_copies 0 = .ok (.iconst 0, 1) := by decide +kernel
theorem dX12_copies_1 : decode cX12_copies 1 = .ok (.istore_n 2, 1) := by decide +kernel
theorem dX12_copies_2 : decode cX12_copies 2 = .ok (.iload_n 2, 1) := by decide +kernel
theorem dX12_copies_3 : decode cX12_copies 3 = .ok (.sipush 549, 3) := by decide +kernel
theorem dX12_copies_6 : decode cX12_copies 6 = .ok (.if_icmp .ge 15, 3) := by decide +kernel
theorem dX12_copies_9 : decode cX12_copies 9 = .ok (.aload_n 1, 1) := by decide +kernel
theorem dX12_copies_10 : decode cX12_copies 10 = .ok (.iload_n 2, 1) := by decide +kernel
theorem dX12_copies_11 : decode cX12_copies 11 = .ok (.aload_n 0, 1) := by decide +kernel
theorem dX12_copies_12 : decode cX12_copies 12 = .ok (.iload_n 2, 1) := by decide +kernel
theorem dX12_copies_13 : decode cX12_copies 13 = .ok (.iaload, 1) := by decide +kernel
theorem dX12_copies_14 : decode cX12_copies 14 = .ok (.iastore, 1) := by decide +kernel
theorem dX12_copies_15 : decode cX12_copies 15 = .ok (.iinc 2 1, 3) := by decide +kernel
theorem dX12_copies_18 : decode cX12_copies 18 = .ok (.goto (-16), 3) := by decide +kernel
theorem dX12_copies_21 : decode cX12_copies 21 = .ok (.return_, 1) := by decide +kernel
def md_X12_copies_100_101 : List (Nat × Nat) := [(101, 0)]
set_option maxRecDepth 100000 in
set_option maxHeartbeats 4000000 in
theorem c_X12_copies_100_101 {l : Launch} {D : q_D} (τ : q_T) (σ : q_V) (a0 : Nat) (a1 : Nat) (hI : q_I τ σ) (tA0 : τ a0 = some (100, 549)) (tA1 : τ a1 = some (101, 549)) : q_Cv l D yX12_copies cX12_copies 3 none 0 0 τ σ [.ref a0, .ref a1] (fun σ1 => q_S md_X12_copies_100_101 τ σ σ1 ∧ (fx_N σ1 = f_X12_copies_100_101 (fx_N σ) a0 a1) ∧ (∀ j : Nat, j < 549 → σ1 a1 j = σ a0 j)) := by
  refine q_metv rfl (Nat.le_of_ble_eq_true rfl) (fun X hG hE => ?_)
  show q_O X 0 0 τ σ 0 [(0, .ref a0), (1, .ref a1)] []
  have hS0 : q_S md_X12_copies_100_101 τ σ σ := q_S.rf hI
  obtain ⟨Fv, hF⟩ : ∃ z, fx_eq z (f_X12_copies_100_101 (fx_N σ) a0 a1) := ⟨_, fx_rf⟩
  have hF0 := hF
  unfold f_X12_copies_100_101 at hF
  refine q_iconst (pc := 0) hG dX12_copies_0 ki_0 ?_
  refine q_istore_n (pc := 1) [(2, .int 0), (0, .ref a0), (1, .ref a1)] hG dX12_copies_1 (by decide) rfl ?_
  have J2 : ∀ (n2 : Nat) (p2_2 : Int32) (σ2 : q_V), (q_r p2_2 0 549) → (q_S md_X12_copies_100_101 τ σ σ2) → (∀ j : Nat, (j : Int) < p2_2.toInt → σ2 a1 j = σ a0 j) → (fx_eq Fv (kL_X12_copies_100_101_2 a0 a1 n2 p2_2.toInt (fx_N σ2))) → ((549 - p2_2.toInt).toNat < n2) → q_O X 0 0 τ σ2 2 [(0, .ref a0), (1, .ref a1), (2, .int p2_2)] [] := by
    intro n2
    induction n2 with
    | zero => intro p2_2 σ2 r2_2 hS2 iC2 hF hm2; exact absurd hm2 (Nat.not_lt_zero _)
    | succ n2 ih2 =>
      intro p2_2 σ2 r2_2 hS2 iC2 hF hm2
      replace hF := (show fx_eq Fv (kB_X12_copies_100_101_2 (kL_X12_copies_100_101_2 a0 a1 n2) a0 a1 p2_2.toInt (fx_N σ2)) from hF)
      unfold kB_X12_copies_100_101_2 at hF
      refine q_iload_n (pc := 2) hG dX12_copies_2 2 rfl ?_
      refine q_sipush (pc := 3) hG dX12_copies_3 ks_549 ?_
      refine q_icmp_ge (pc := 6) hG 21 dX12_copies_6 rfl ?_ ?_
      · intro c6
        replace hF := fx_lt2 hF rfl tl_549 c6
        have r_1 := q_rge r2_2 rl_549 c6
        exact q_vrt hG hE dX12_copies_21 ⟨hS2, (fx_end hF hF0), (fun j hj => iC2 j (by have o0 := c6; have o1 := r_1; have l2 := tl_549; unfold q_r at o1; omega))⟩
      intro c6
      replace hF := fx_lt1 hF rfl tl_549 c6
      refine q_aload_n (pc := 9) hG dX12_copies_9 1 rfl ?_
      refine q_iload_n (pc := 10) hG dX12_copies_10 2 rfl ?_
      refine q_aload_n (pc := 11) hG dX12_copies_11 0 rfl ?_
      refine q_iload_n (pc := 12) hG dX12_copies_12 2 rfl ?_
      have r_2 := q_rlt r2_2 rl_549 c6 548 (by decide)
      refine q_nald (pc := 13) hG dX12_copies_13 hS2.1 tA0 (q_ix r_2 (by decide)) (fun v13 f13 => ?_)
      replace hF := fx_I hF f13 rfl
      have f_3 := (hS2.2 _ _ _ _ tA0 rfl).symm.trans f13
      refine q_iast (pc := 14) hG dX12_copies_14 hS2 ai_101 tA1 (q_ix r_2 (by decide)) (q_r_any v13) (by decide) rfl (fun s14 u14 w14 => ?_)
      replace hF := fx_P hF u14 rfl rfl
      have m14 : s14 a1 p2_2.toInt.toNat = .int v13 := by rw [u14]; exact q_up_same
      obtain ⟨v15, e15⟩ : ∃ z : Int32, z = p2_2 + Int32.ofInt 1 := ⟨_, rfl⟩
      have h15 := q_incN (lo := 1) (hi := 549) r_2 (by decide) (by decide) e15
      replace hF := fx_add hF rfl rfl h15.1
      refine q_iinc (pc := 15) [(2, .int v15), (0, .ref a0), (1, .ref a1)] hG dX12_copies_15 2 rfl e15 (by decide) rfl ?_
      refine q_goto (pc := 18) 2 hG dX12_copies_18 rfl ?_
      refine q_lv [1, 2, 0] rfl ?_
      exact ih2 v15 s14 (q_r.mono h15.2 (by decide)) w14 (q_cpyM iC2 u14 f_3 (by have o0 := c6; have o1 := h15.1; have o2 := r_2; have o3 := h15.2; have l4 := tl_549; unfold q_r at o2 o3; omega) (by have o0 := c6; have o1 := h15.1; have o2 := r_2; have o3 := h15.2; have l4 := tl_549; unfold q_r at o2 o3; omega)) hF (q_measU hm2 (by have o0 := c6; have o1 := h15.1; have o2 := r_2; have o3 := h15.2; have l4 := tl_549; unfold q_r at o2 o3; omega) (h15.2).2)
  refine q_lv [1, 2, 0] rfl ?_
  exact J2 ((549 - (0 : Int32).toInt).toNat + 1) 0 σ (q_r.mono rl_0 (by decide)) hS0 (fun j hj => absurd hj (by have q := tl_0; omega)) (by rw [tl_0]; exact hF) (Nat.lt_succ_self _)
def md_X12_copies_100_102 : List (Nat × Nat) := [(102, 0)]
set_option maxRecDepth 100000 in
set_option maxHeartbeats 4000000 in
theorem c_X12_copies_100_102 {l : Launch} {D : q_D} (τ : q_T) (σ : q_V) (a0 : Nat) (a1 : Nat) (hI : q_I τ σ) (tA0 : τ a0 = some (100, 549)) (tA1 : τ a1 = some (102, 549)) : q_Cv l D yX12_copies cX12_copies 3 none 0 0 τ σ [.ref a0, .ref a1] (fun σ1 => q_S md_X12_copies_100_102 τ σ σ1 ∧ (fx_N σ1 = f_X12_copies_100_102 (fx_N σ) a0 a1) ∧ (∀ j : Nat, j < 549 → σ1 a1 j = σ a0 j)) := by
  refine q_metv rfl (Nat.le_of_ble_eq_true rfl) (fun X hG hE => ?_)
  show q_O X 0 0 τ σ 0 [(0, .ref a0), (1, .ref a1)] []
  have hS0 : q_S md_X12_copies_100_102 τ σ σ := q_S.rf hI
  obtain ⟨Fv, hF⟩ : ∃ z, fx_eq z (f_X12_copies_100_102 (fx_N σ) a0 a1) := ⟨_, fx_rf⟩
  have hF0 := hF
  unfold f_X12_copies_100_102 at hF
  refine q_iconst (pc := 0) hG dX12_copies_0 ki_0 ?_
  refine q_istore_n (pc := 1) [(2, .int 0), (0, .ref a0), (1, .ref a1)] hG dX12_copies_1 (by decide) rfl ?_
  have J2 : ∀ (n2 : Nat) (p2_2 : Int32) (σ2 : q_V), (q_r p2_2 0 549) → (q_S md_X12_copies_100_102 τ σ σ2) → (∀ j : Nat, (j : Int) < p2_2.toInt → σ2 a1 j = σ a0 j) → (fx_eq Fv (kL_X12_copies_100_102_2 a0 a1 n2 p2_2.toInt (fx_N σ2))) → ((549 - p2_2.toInt).toNat < n2) → q_O X 0 0 τ σ2 2 [(0, .ref a0), (1, .ref a1), (2, .int p2_2)] [] := by
    intro n2
    induction n2 with
    | zero => intro p2_2 σ2 r2_2 hS2 iC2 hF hm2; exact absurd hm2 (Nat.not_lt_zero _)
    | succ n2 ih2 =>
      intro p2_2 σ2 r2_2 hS2 iC2 hF hm2
      replace hF := (show fx_eq Fv (kB_X12_copies_100_102_2 (kL_X12_copies_100_102_2 a0 a1 n2) a0 a1 p2_2.toInt (fx_N σ2)) from hF)
      unfold kB_X12_copies_100_102_2 at hF
      refine q_iload_n (pc := 2) hG dX12_copies_2 2 rfl ?_
      refine q_sipush (pc := 3) hG dX12_copies_3 ks_549 ?_
      refine q_icmp_ge (pc := 6) hG 21 dX12_copies_6 rfl ?_ ?_
      · intro c6
        replace hF := fx_lt2 hF rfl tl_549 c6
        have r_1 := q_rge r2_2 rl_549 c6
        exact q_vrt hG hE dX12_copies_21 ⟨hS2, (fx_end hF hF0), (fun j hj => iC2 j (by have o0 := c6; have o1 := r_1; have l2 := tl_549; unfold q_r at o1; omega))⟩
      intro c6
      replace hF := fx_lt1 hF rfl tl_549 c6
      refine q_aload_n (pc := 9) hG dX12_copies_9 1 rfl ?_
      refine q_iload_n (pc := 10) hG dX12_copies_10 2 rfl ?_
      refine q_aload_n (pc := 11) hG dX12_copies_11 0 rfl ?_
      refine q_iload_n (pc := 12) hG dX12_copies_12 2 rfl ?_
      have r_2 := q_rlt r2_2 rl_549 c6 548 (by decide)
      refine q_nald (pc := 13) hG dX12_copies_13 hS2.1 tA0 (q_ix r_2 (by decide)) (fun v13 f13 => ?_)
      replace hF := fx_I hF f13 rfl
      have f_3 := (hS2.2 _ _ _ _ tA0 rfl).symm.trans f13
      refine q_iast (pc := 14) hG dX12_copies_14 hS2 ai_102 tA1 (q_ix r_2 (by decide)) (q_r_any v13) (by decide) rfl (fun s14 u14 w14 => ?_)
      replace hF := fx_P hF u14 rfl rfl
      have m14 : s14 a1 p2_2.toInt.toNat = .int v13 := by rw [u14]; exact q_up_same
      obtain ⟨v15, e15⟩ : ∃ z : Int32, z = p2_2 + Int32.ofInt 1 := ⟨_, rfl⟩
      have h15 := q_incN (lo := 1) (hi := 549) r_2 (by decide) (by decide) e15
      replace hF := fx_add hF rfl rfl h15.1
      refine q_iinc (pc := 15) [(2, .int v15), (0, .ref a0), (1, .ref a1)] hG dX12_copies_15 2 rfl e15 (by decide) rfl ?_
      refine q_goto (pc := 18) 2 hG dX12_copies_18 rfl ?_
      refine q_lv [1, 2, 0] rfl ?_
      exact ih2 v15 s14 (q_r.mono h15.2 (by decide)) w14 (q_cpyM iC2 u14 f_3 (by have o0 := c6; have o1 := h15.1; have o2 := r_2; have o3 := h15.2; have l4 := tl_549; unfold q_r at o2 o3; omega) (by have o0 := c6; have o1 := h15.1; have o2 := r_2; have o3 := h15.2; have l4 := tl_549; unfold q_r at o2 o3; omega)) hF (q_measU hm2 (by have o0 := c6; have o1 := h15.1; have o2 := r_2; have o3 := h15.2; have l4 := tl_549; unfold q_r at o2 o3; omega) (h15.2).2)
  refine q_lv [1, 2, 0] rfl ?_
  exact J2 ((549 - (0 : Int32).toInt).toNat + 1) 0 σ (q_r.mono rl_0 (by decide)) hS0 (fun j hj => absurd hj (by have q := tl_0; omega)) (by rw [tl_0]; exact hF) (Nat.lt_succ_self _)
def md_X12_copies_101_100 : List (Nat × Nat) := [(100, 0)]
set_option maxRecDepth 100000 in
set_option maxHeartbeats 4000000 in
theorem c_X12_copies_101_100 {l : Launch} {D : q_D} (τ : q_T) (σ : q_V) (a0 : Nat) (a1 : Nat) (hI : q_I τ σ) (tA0 : τ a0 = some (101, 549)) (tA1 : τ a1 = some (100, 549)) (hq : ∀ j : Nat, j < 549 → q_v τ (q_f 100 j) (σ a0 j)) : q_Cv l D yX12_copies cX12_copies 3 none 0 0 τ σ [.ref a0, .ref a1] (fun σ1 => q_S md_X12_copies_101_100 τ σ σ1 ∧ (fx_N σ1 = f_X12_copies_101_100 (fx_N σ) a0 a1) ∧ (∀ j : Nat, j < 549 → σ1 a1 j = σ a0 j)) := by
  refine q_metv rfl (Nat.le_of_ble_eq_true rfl) (fun X hG hE => ?_)
  show q_O X 0 0 τ σ 0 [(0, .ref a0), (1, .ref a1)] []
  have hS0 : q_S md_X12_copies_101_100 τ σ σ := q_S.rf hI
  obtain ⟨Fv, hF⟩ : ∃ z, fx_eq z (f_X12_copies_101_100 (fx_N σ) a0 a1) := ⟨_, fx_rf⟩
  have hF0 := hF
  unfold f_X12_copies_101_100 at hF
  refine q_iconst (pc := 0) hG dX12_copies_0 ki_0 ?_
  refine q_istore_n (pc := 1) [(2, .int 0), (0, .ref a0), (1, .ref a1)] hG dX12_copies_1 (by decide) rfl ?_
  have J2 : ∀ (n2 : Nat) (p2_2 : Int32) (σ2 : q_V), (q_r p2_2 0 549) → (q_S md_X12_copies_101_100 τ σ σ2) → (∀ j : Nat, (j : Int) < p2_2.toInt → σ2 a1 j = σ a0 j) → (fx_eq Fv (kL_X12_copies_101_100_2 a0 a1 n2 p2_2.toInt (fx_N σ2))) → ((549 - p2_2.toInt).toNat < n2) → q_O X 0 0 τ σ2 2 [(0, .ref a0), (1, .ref a1), (2, .int p2_2)] [] := by
    intro n2
    induction n2 with
    | zero => intro p2_2 σ2 r2_2 hS2 iC2 hF hm2; exact absurd hm2 (Nat.not_lt_zero _)
    | succ n2 ih2 =>
      intro p2_2 σ2 r2_2 hS2 iC2 hF hm2
      replace hF := (show fx_eq Fv (kB_X12_copies_101_100_2 (kL_X12_copies_101_100_2 a0 a1 n2) a0 a1 p2_2.toInt (fx_N σ2)) from hF)
      unfold kB_X12_copies_101_100_2 at hF
      refine q_iload_n (pc := 2) hG dX12_copies_2 2 rfl ?_
      refine q_sipush (pc := 3) hG dX12_copies_3 ks_549 ?_
      refine q_icmp_ge (pc := 6) hG 21 dX12_copies_6 rfl ?_ ?_
      · intro c6
        replace hF := fx_lt2 hF rfl tl_549 c6
        have r_1 := q_rge r2_2 rl_549 c6
        exact q_vrt hG hE dX12_copies_21 ⟨hS2, (fx_end hF hF0), (fun j hj => iC2 j (by have o0 := c6; have o1 := r_1; have l2 := tl_549; unfold q_r at o1; omega))⟩
      intro c6
      replace hF := fx_lt1 hF rfl tl_549 c6
      refine q_aload_n (pc := 9) hG dX12_copies_9 1 rfl ?_
      refine q_iload_n (pc := 10) hG dX12_copies_10 2 rfl ?_
      refine q_aload_n (pc := 11) hG dX12_copies_11 0 rfl ?_
      refine q_iload_n (pc := 12) hG dX12_copies_12 2 rfl ?_
      have r_2 := q_rlt r2_2 rl_549 c6 548 (by decide)
      refine q_iald (pc := 13) hG dX12_copies_13 hS2.1 ai_101 tA0 (q_ix r_2 (by decide)) (fun v13 f13 g13 => ?_)
      replace hF := fx_I hF f13 rfl
      have f_3 := (hS2.2 _ _ _ _ tA0 rfl).symm.trans f13
      refine q_nastG (pc := 14) hG dX12_copies_14 hS2 tA1 (q_ix r_2 (by decide)) (by have q := hq p2_2.toInt.toNat (by have o0 := c6; have o1 := r_2; have l2 := tl_549; unfold q_r at o1; omega); rw [f_3] at q; exact q) rfl (fun s14 u14 w14 => ?_)
      replace hF := fx_P hF u14 rfl rfl
      have m14 : s14 a1 p2_2.toInt.toNat = .int v13 := by rw [u14]; exact q_up_same
      obtain ⟨v15, e15⟩ : ∃ z : Int32, z = p2_2 + Int32.ofInt 1 := ⟨_, rfl⟩
      have h15 := q_incN (lo := 1) (hi := 549) r_2 (by decide) (by decide) e15
      replace hF := fx_add hF rfl rfl h15.1
      refine q_iinc (pc := 15) [(2, .int v15), (0, .ref a0), (1, .ref a1)] hG dX12_copies_15 2 rfl e15 (by decide) rfl ?_
      refine q_goto (pc := 18) 2 hG dX12_copies_18 rfl ?_
      refine q_lv [1, 2, 0] rfl ?_
      exact ih2 v15 s14 (q_r.mono h15.2 (by decide)) w14 (q_cpyM iC2 u14 f_3 (by have o0 := c6; have o1 := h15.1; have o2 := r_2; have o3 := h15.2; have l4 := tl_549; unfold q_r at o2 o3; omega) (by have o0 := c6; have o1 := h15.1; have o2 := r_2; have o3 := h15.2; have l4 := tl_549; unfold q_r at o2 o3; omega)) hF (q_measU hm2 (by have o0 := c6; have o1 := h15.1; have o2 := r_2; have o3 := h15.2; have l4 := tl_549; unfold q_r at o2 o3; omega) (h15.2).2)
  refine q_lv [1, 2, 0] rfl ?_
  exact J2 ((549 - (0 : Int32).toInt).toNat + 1) 0 σ (q_r.mono rl_0 (by decide)) hS0 (fun j hj => absurd hj (by have q := tl_0; omega)) (by rw [tl_0]; exact hF) (Nat.lt_succ_self _)
def md_X12_copies_102_100 : List (Nat × Nat) := [(100, 0)]
set_option maxRecDepth 100000 in
set_option maxHeartbeats 4000000 in
theorem c_X12_copies_102_100 {l : Launch} {D : q_D} (τ : q_T) (σ : q_V) (a0 : Nat) (a1 : Nat) (hI : q_I τ σ) (tA0 : τ a0 = some (102, 549)) (tA1 : τ a1 = some (100, 549)) (hq : ∀ j : Nat, j < 549 → q_v τ (q_f 100 j) (σ a0 j)) : q_Cv l D yX12_copies cX12_copies 3 none 0 0 τ σ [.ref a0, .ref a1] (fun σ1 => q_S md_X12_copies_102_100 τ σ σ1 ∧ (fx_N σ1 = f_X12_copies_102_100 (fx_N σ) a0 a1) ∧ (∀ j : Nat, j < 549 → σ1 a1 j = σ a0 j)) := by
  refine q_metv rfl (Nat.le_of_ble_eq_true rfl) (fun X hG hE => ?_)
  show q_O X 0 0 τ σ 0 [(0, .ref a0), (1, .ref a1)] []
  have hS0 : q_S md_X12_copies_102_100 τ σ σ := q_S.rf hI
  obtain ⟨Fv, hF⟩ : ∃ z, fx_eq z (f_X12_copies_102_100 (fx_N σ) a0 a1) := ⟨_, fx_rf⟩
  have hF0 := hF
  unfold f_X12_copies_102_100 at hF
  refine q_iconst (pc := 0) hG dX12_copies_0 ki_0 ?_
  refine q_istore_n (pc := 1) [(2, .int 0), (0, .ref a0), (1, .ref a1)] hG dX12_copies_1 (by decide) rfl ?_
  have J2 : ∀ (n2 : Nat) (p2_2 : Int32) (σ2 : q_V), (q_r p2_2 0 549) → (q_S md_X12_copies_102_100 τ σ σ2) → (∀ j : Nat, (j : Int) < p2_2.toInt → σ2 a1 j = σ a0 j) → (fx_eq Fv (kL_X12_copies_102_100_2 a0 a1 n2 p2_2.toInt (fx_N σ2))) → ((549 - p2_2.toInt).toNat < n2) → q_O X 0 0 τ σ2 2 [(0, .ref a0), (1, .ref a1), (2, .int p2_2)] [] := by
    intro n2
    induction n2 with
    | zero => intro p2_2 σ2 r2_2 hS2 iC2 hF hm2; exact absurd hm2 (Nat.not_lt_zero _)
    | succ n2 ih2 =>
      intro p2_2 σ2 r2_2 hS2 iC2 hF hm2
      replace hF := (show fx_eq Fv (kB_X12_copies_102_100_2 (kL_X12_copies_102_100_2 a0 a1 n2) a0 a1 p2_2.toInt (fx_N σ2)) from hF)
      unfold kB_X12_copies_102_100_2 at hF
      refine q_iload_n (pc := 2) hG dX12_copies_2 2 rfl ?_
      refine q_sipush (pc := 3) hG dX12_copies_3 ks_549 ?_
      refine q_icmp_ge (pc := 6) hG 21 dX12_copies_6 rfl ?_ ?_
      · intro c6
        replace hF := fx_lt2 hF rfl tl_549 c6
        have r_1 := q_rge r2_2 rl_549 c6
        exact q_vrt hG hE dX12_copies_21 ⟨hS2, (fx_end hF hF0), (fun j hj => iC2 j (by have o0 := c6; have o1 := r_1; have l2 := tl_549; unfold q_r at o1; omega))⟩
      intro c6
      replace hF := fx_lt1 hF rfl tl_549 c6
      refine q_aload_n (pc := 9) hG dX12_copies_9 1 rfl ?_
      refine q_iload_n (pc := 10) hG dX12_copies_10 2 rfl ?_
      refine q_aload_n (pc := 11) hG dX12_copies_11 0 rfl ?_
      refine q_iload_n (pc := 12) hG dX12_copies_12 2 rfl ?_
      have r_2 := q_rlt r2_2 rl_549 c6 548 (by decide)
      refine q_iald (pc := 13) hG dX12_copies_13 hS2.1 ai_102 tA0 (q_ix r_2 (by decide)) (fun v13 f13 g13 => ?_)
      replace hF := fx_I hF f13 rfl
      have f_3 := (hS2.2 _ _ _ _ tA0 rfl).symm.trans f13
      refine q_nastG (pc := 14) hG dX12_copies_14 hS2 tA1 (q_ix r_2 (by decide)) (by have q := hq p2_2.toInt.toNat (by have o0 := c6; have o1 := r_2; have l2 := tl_549; unfold q_r at o1; omega); rw [f_3] at q; exact q) rfl (fun s14 u14 w14 => ?_)
      replace hF := fx_P hF u14 rfl rfl
      have m14 : s14 a1 p2_2.toInt.toNat = .int v13 := by rw [u14]; exact q_up_same
      obtain ⟨v15, e15⟩ : ∃ z : Int32, z = p2_2 + Int32.ofInt 1 := ⟨_, rfl⟩
      have h15 := q_incN (lo := 1) (hi := 549) r_2 (by decide) (by decide) e15
      replace hF := fx_add hF rfl rfl h15.1
      refine q_iinc (pc := 15) [(2, .int v15), (0, .ref a0), (1, .ref a1)] hG dX12_copies_15 2 rfl e15 (by decide) rfl ?_
      refine q_goto (pc := 18) 2 hG dX12_copies_18 rfl ?_
      refine q_lv [1, 2, 0] rfl ?_
      exact ih2 v15 s14 (q_r.mono h15.2 (by decide)) w14 (q_cpyM iC2 u14 f_3 (by have o0 := c6; have o1 := h15.1; have o2 := r_2; have o3 := h15.2; have l4 := tl_549; unfold q_r at o2 o3; omega) (by have o0 := c6; have o1 := h15.1; have o2 := r_2; have o3 := h15.2; have l4 := tl_549; unfold q_r at o2 o3; omega)) hF (q_measU hm2 (by have o0 := c6; have o1 := h15.1; have o2 := r_2; have o3 := h15.2; have l4 := tl_549; unfold q_r at o2 o3; omega) (h15.2).2)
  refine q_lv [1, 2, 0] rfl ?_
  exact J2 ((549 - (0 : Int32).toInt).toNat + 1) 0 σ (q_r.mono rl_0 (by decide)) hS0 (fun j hj => absurd hj (by have q := tl_0; omega)) (by rw [tl_0]; exact hF) (Nat.lt_succ_self _)
