/-! laid by wip/p2/build.py -/
theorem dX12_reckon_0 : decode cX12_reckon 0 = .ok (.iload_n 0, 1) := by decide +kernel
theorem dX12_reckon_1 : decode cX12_reckon 1 = .ok (.tableswitch 85 2 8 #[43, 47, 51, 55, 59, 63, 74], 43) := by decide +kernel
theorem dX12_reckon_44 : decode cX12_reckon 44 = .ok (.iload_n 1, 1) := by decide +kernel
theorem dX12_reckon_45 : decode cX12_reckon 45 = .ok (.iload_n 2, 1) := by decide +kernel
theorem dX12_reckon_46 : decode cX12_reckon 46 = .ok (.iadd, 1) := by decide +kernel
theorem dX12_reckon_47 : decode cX12_reckon 47 = .ok (.ireturn, 1) := by decide +kernel
theorem dX12_reckon_48 : decode cX12_reckon 48 = .ok (.iload_n 1, 1) := by decide +kernel
theorem dX12_reckon_49 : decode cX12_reckon 49 = .ok (.iload_n 2, 1) := by decide +kernel
theorem dX12_reckon_50 : decode cX12_reckon 50 = .ok (.isub, 1) := by decide +kernel
theorem dX12_reckon_51 : decode cX12_reckon 51 = .ok (.ireturn, 1) := by decide +kernel
theorem dX12_reckon_52 : decode cX12_reckon 52 = .ok (.iload_n 1, 1) := by decide +kernel
theorem dX12_reckon_53 : decode cX12_reckon 53 = .ok (.iload_n 2, 1) := by decide +kernel
theorem dX12_reckon_54 : decode cX12_reckon 54 = .ok (.imul, 1) := by decide +kernel
theorem dX12_reckon_55 : decode cX12_reckon 55 = .ok (.ireturn, 1) := by decide +kernel
theorem dX12_reckon_56 : decode cX12_reckon 56 = .ok (.iload_n 1, 1) := by decide +kernel
theorem dX12_reckon_57 : decode cX12_reckon 57 = .ok (.iload_n 2, 1) := by decide +kernel
theorem dX12_reckon_58 : decode cX12_reckon 58 = .ok (.idiv, 1) := by decide +kernel
theorem dX12_reckon_59 : decode cX12_reckon 59 = .ok (.ireturn, 1) := by decide +kernel
theorem dX12_reckon_60 : decode cX12_reckon 60 = .ok (.iload_n 1, 1) := by decide +kernel
theorem dX12_reckon_61 : decode cX12_reckon 61 = .ok (.iload_n 2, 1) := by decide +kernel
theorem dX12_reckon_62 : decode cX12_reckon 62 = .ok (.irem, 1) := by decide +kernel
theorem dX12_reckon_63 : decode cX12_reckon 63 = .ok (.ireturn, 1) := by decide +kernel
theorem dX12_reckon_64 : decode cX12_reckon 64 = .ok (.iload_n 1, 1) := by decide +kernel
theorem dX12_reckon_65 : decode cX12_reckon 65 = .ok (.iload_n 2, 1) := by decide +kernel
theorem dX12_reckon_66 : decode cX12_reckon 66 = .ok (.if_icmp .ge 7, 3) := by decide +kernel
theorem dX12_reckon_69 : decode cX12_reckon 69 = .ok (.iconst 1, 1) := by decide +kernel
theorem dX12_reckon_70 : decode cX12_reckon 70 = .ok (.goto 4, 3) := by decide +kernel
theorem dX12_reckon_73 : decode cX12_reckon 73 = .ok (.iconst 0, 1) := by decide +kernel
theorem dX12_reckon_74 : decode cX12_reckon 74 = .ok (.ireturn, 1) := by decide +kernel
theorem dX12_reckon_75 : decode cX12_reckon 75 = .ok (.iload_n 1, 1) := by decide +kernel
theorem dX12_reckon_76 : decode cX12_reckon 76 = .ok (.iload_n 2, 1) := by decide +kernel
theorem dX12_reckon_77 : decode cX12_reckon 77 = .ok (.if_icmp .le 7, 3) := by decide +kernel
theorem dX12_reckon_80 : decode cX12_reckon 80 = .ok (.iconst 1, 1) := by decide +kernel
theorem dX12_reckon_81 : decode cX12_reckon 81 = .ok (.goto 4, 3) := by decide +kernel
theorem dX12_reckon_84 : decode cX12_reckon 84 = .ok (.iconst 0, 1) := by decide +kernel
theorem dX12_reckon_85 : decode cX12_reckon 85 = .ok (.ireturn, 1) := by decide +kernel
theorem dX12_reckon_86 : decode cX12_reckon 86 = .ok (.iload_n 1, 1) := by decide +kernel
theorem dX12_reckon_87 : decode cX12_reckon 87 = .ok (.iload_n 2, 1) := by decide +kernel
theorem dX12_reckon_88 : decode cX12_reckon 88 = .ok (.if_icmp .ne 7, 3) := by decide +kernel
theorem dX12_reckon_91 : decode cX12_reckon 91 = .ok (.iconst 1, 1) := by decide +kernel
theorem dX12_reckon_92 : decode cX12_reckon 92 = .ok (.goto 4, 3) := by decide +kernel
theorem dX12_reckon_95 : decode cX12_reckon 95 = .ok (.iconst 0, 1) := by decide +kernel
theorem dX12_reckon_96 : decode cX12_reckon 96 = .ok (.ireturn, 1) := by decide +kernel
set_option maxRecDepth 100000 in
set_option maxHeartbeats 4000000 in
theorem c_X12_reckon {l : Launch} {D : q_D} (τ : q_T) (σ : q_V) (x0 : Int32) (x1 : Int32) (x2 : Int32) (hI : q_I τ σ) (hz : x0.toInt = 5 ∨ x0.toInt = 6 → x2.toInt ≠ 0) : q_Cp l D yX12_reckon cX12_reckon 3 (some .int) 0 0 τ σ [.int x0, .int x1, .int x2] (fun r => (q_r r (-2147483648) 2147483647) ∧ (r.toInt = f_X12_reckon (fx_N σ) x0.toInt x1.toInt x2.toInt)) := by
  refine q_meti rfl (Nat.le_of_ble_eq_true rfl) (fun X hG hE => ?_)
  show q_O X 0 0 τ σ 0 [(0, .int x0), (1, .int x1), (2, .int x2)] []
  obtain ⟨Fv, hF⟩ : ∃ z, fx_eq z (f_X12_reckon (fx_N σ) x0.toInt x1.toInt x2.toInt) := ⟨_, fx_rf⟩
  have hF0 := hF
  unfold f_X12_reckon at hF
  refine q_iload_n (pc := 0) hG dX12_reckon_0 0 rfl ?_
  by_cases z1_2 : x0.toInt = 2
  · skip
    replace hF := fx_eq1 hF rfl rfl z1_2
    refine q_tsIn (pc := 1) 2 44 hG dX12_reckon_1 z1_2 (by decide) rfl rfl ?_
    refine q_iload_n (pc := 44) hG dX12_reckon_44 1 rfl ?_
    refine q_iload_n (pc := 45) hG dX12_reckon_45 2 rfl ?_
    refine q_iadd (pc := 46) hG dX12_reckon_46 (fun v46 e46 => ?_)
    replace hF := fx_B_add hF rfl rfl e46
    exact q_irt hG hE dX12_reckon_47 ⟨rfl, (q_r_any v46), (fx_end hF hF0)⟩
  by_cases z1_3 : x0.toInt = 3
  · skip
    replace hF := fx_eq2 hF rfl rfl z1_2
    replace hF := fx_eq1 hF rfl rfl z1_3
    refine q_tsIn (pc := 1) 3 48 hG dX12_reckon_1 z1_3 (by decide) rfl rfl ?_
    refine q_iload_n (pc := 48) hG dX12_reckon_48 1 rfl ?_
    refine q_iload_n (pc := 49) hG dX12_reckon_49 2 rfl ?_
    refine q_isub (pc := 50) hG dX12_reckon_50 (fun v50 e50 => ?_)
    replace hF := fx_B_sub hF rfl rfl e50
    exact q_irt hG hE dX12_reckon_51 ⟨rfl, (q_r_any v50), (fx_end hF hF0)⟩
  by_cases z1_4 : x0.toInt = 4
  · skip
    replace hF := fx_eq2 hF rfl rfl z1_2
    replace hF := fx_eq2 hF rfl rfl z1_3
    replace hF := fx_eq1 hF rfl rfl z1_4
    refine q_tsIn (pc := 1) 4 52 hG dX12_reckon_1 z1_4 (by decide) rfl rfl ?_
    refine q_iload_n (pc := 52) hG dX12_reckon_52 1 rfl ?_
    refine q_iload_n (pc := 53) hG dX12_reckon_53 2 rfl ?_
    refine q_imul (pc := 54) hG dX12_reckon_54 (fun v54 e54 => ?_)
    replace hF := fx_B_mul hF rfl rfl e54
    exact q_irt hG hE dX12_reckon_55 ⟨rfl, (q_r_any v54), (fx_end hF hF0)⟩
  by_cases z1_5 : x0.toInt = 5
  · skip
    replace hF := fx_eq2 hF rfl rfl z1_2
    replace hF := fx_eq2 hF rfl rfl z1_3
    replace hF := fx_eq2 hF rfl rfl z1_4
    replace hF := fx_eq1 hF rfl rfl z1_5
    refine q_tsIn (pc := 1) 5 56 hG dX12_reckon_1 z1_5 (by decide) rfl rfl ?_
    refine q_iload_n (pc := 56) hG dX12_reckon_56 1 rfl ?_
    refine q_iload_n (pc := 57) hG dX12_reckon_57 2 rfl ?_
    refine q_idiv (pc := 58) hG dX12_reckon_58 (q_nz (hz (by omega))) (fun v58 e58 => ?_)
    replace hF := fx_B_div hF rfl rfl e58
    exact q_irt hG hE dX12_reckon_59 ⟨rfl, (q_r_any v58), (fx_end hF hF0)⟩
  by_cases z1_6 : x0.toInt = 6
  · skip
    replace hF := fx_eq2 hF rfl rfl z1_2
    replace hF := fx_eq2 hF rfl rfl z1_3
    replace hF := fx_eq2 hF rfl rfl z1_4
    replace hF := fx_eq2 hF rfl rfl z1_5
    replace hF := fx_eq1 hF rfl rfl z1_6
    refine q_tsIn (pc := 1) 6 60 hG dX12_reckon_1 z1_6 (by decide) rfl rfl ?_
    refine q_iload_n (pc := 60) hG dX12_reckon_60 1 rfl ?_
    refine q_iload_n (pc := 61) hG dX12_reckon_61 2 rfl ?_
    refine q_irem (pc := 62) hG dX12_reckon_62 (q_nz (hz (by omega))) (fun v62 e62 => ?_)
    replace hF := fx_B_rem hF rfl rfl e62
    exact q_irt hG hE dX12_reckon_63 ⟨rfl, (q_r_any v62), (fx_end hF hF0)⟩
  by_cases z1_7 : x0.toInt = 7
  · skip
    replace hF := fx_eq2 hF rfl rfl z1_2
    replace hF := fx_eq2 hF rfl rfl z1_3
    replace hF := fx_eq2 hF rfl rfl z1_4
    replace hF := fx_eq2 hF rfl rfl z1_5
    replace hF := fx_eq2 hF rfl rfl z1_6
    replace hF := fx_eq1 hF rfl rfl z1_7
    refine q_tsIn (pc := 1) 7 64 hG dX12_reckon_1 z1_7 (by decide) rfl rfl ?_
    refine q_iload_n (pc := 64) hG dX12_reckon_64 1 rfl ?_
    refine q_iload_n (pc := 65) hG dX12_reckon_65 2 rfl ?_
    refine q_icmp_ge (pc := 66) hG 73 dX12_reckon_66 rfl ?_ ?_
    · intro c66
      replace hF := fx_lt2 hF rfl rfl c66
      refine q_iconst (pc := 73) hG dX12_reckon_73 ki_0 ?_
      exact q_irt hG hE dX12_reckon_74 ⟨rfl, (q_r.mono rl_0 (by decide)), (by rw [tl_0]; exact fx_end hF hF0)⟩
    intro c66
    replace hF := fx_lt1 hF rfl rfl c66
    refine q_iconst (pc := 69) hG dX12_reckon_69 ki_1 ?_
    refine q_goto (pc := 70) 74 hG dX12_reckon_70 rfl ?_
    exact q_irt hG hE dX12_reckon_74 ⟨rfl, (q_r.mono rl_1 (by decide)), (by rw [tl_1]; exact fx_end hF hF0)⟩
  by_cases z1_8 : x0.toInt = 8
  · skip
    replace hF := fx_eq2 hF rfl rfl z1_2
    replace hF := fx_eq2 hF rfl rfl z1_3
    replace hF := fx_eq2 hF rfl rfl z1_4
    replace hF := fx_eq2 hF rfl rfl z1_5
    replace hF := fx_eq2 hF rfl rfl z1_6
    replace hF := fx_eq2 hF rfl rfl z1_7
    replace hF := fx_eq1 hF rfl rfl z1_8
    refine q_tsIn (pc := 1) 8 75 hG dX12_reckon_1 z1_8 (by decide) rfl rfl ?_
    refine q_iload_n (pc := 75) hG dX12_reckon_75 1 rfl ?_
    refine q_iload_n (pc := 76) hG dX12_reckon_76 2 rfl ?_
    refine q_icmp_le (pc := 77) hG 84 dX12_reckon_77 rfl ?_ ?_
    · intro c77
      replace hF := fx_lt2 hF rfl rfl c77
      refine q_iconst (pc := 84) hG dX12_reckon_84 ki_0 ?_
      exact q_irt hG hE dX12_reckon_85 ⟨rfl, (q_r.mono rl_0 (by decide)), (by rw [tl_0]; exact fx_end hF hF0)⟩
    intro c77
    replace hF := fx_lt1 hF rfl rfl c77
    refine q_iconst (pc := 80) hG dX12_reckon_80 ki_1 ?_
    refine q_goto (pc := 81) 85 hG dX12_reckon_81 rfl ?_
    exact q_irt hG hE dX12_reckon_85 ⟨rfl, (q_r.mono rl_1 (by decide)), (by rw [tl_1]; exact fx_end hF hF0)⟩
  replace hF := fx_eq2 hF rfl rfl z1_2
  replace hF := fx_eq2 hF rfl rfl z1_3
  replace hF := fx_eq2 hF rfl rfl z1_4
  replace hF := fx_eq2 hF rfl rfl z1_5
  replace hF := fx_eq2 hF rfl rfl z1_6
  replace hF := fx_eq2 hF rfl rfl z1_7
  replace hF := fx_eq2 hF rfl rfl z1_8
  refine q_tsOut (pc := 1) 86 hG dX12_reckon_1 (by have q := (q_r_any x0); unfold q_r at q; omega) rfl ?_
  refine q_iload_n (pc := 86) hG dX12_reckon_86 1 rfl ?_
  refine q_iload_n (pc := 87) hG dX12_reckon_87 2 rfl ?_
  refine q_icmp_ne (pc := 88) hG 95 dX12_reckon_88 rfl ?_ ?_
  · intro c88
    replace hF := fx_eq2 hF rfl rfl c88
    refine q_iconst (pc := 95) hG dX12_reckon_95 ki_0 ?_
    exact q_irt hG hE dX12_reckon_96 ⟨rfl, (q_r.mono rl_0 (by decide)), (by rw [tl_0]; exact fx_end hF hF0)⟩
  intro c88
  replace hF := fx_eq1 hF rfl rfl c88
  refine q_iconst (pc := 91) hG dX12_reckon_91 ki_1 ?_
  refine q_goto (pc := 92) 96 hG dX12_reckon_92 rfl ?_
  exact q_irt hG hE dX12_reckon_96 ⟨rfl, (q_r.mono rl_1 (by decide)), (by rw [tl_1]; exact fx_end hF hF0)⟩
theorem dX12_comesTo_0 : decode cX12_comesTo 0 = .ok (.iconst 0, 1) := by decide +kernel
theorem dX12_comesTo_1 : decode cX12_comesTo 1 = .ok (.istore_n 3, 1) := by decide +kernel
theorem dX12_comesTo_2 : decode cX12_comesTo 2 = .ok (.sipush 260, 3) := by decide +kernel
theorem dX12_comesTo_5 : decode cX12_comesTo 5 = .ok (.iload_n 1, 1) := by decide +kernel
theorem dX12_comesTo_6 : decode cX12_comesTo 6 = .ok (.sipush 260, 3) := by decide +kernel
theorem dX12_comesTo_9 : decode cX12_comesTo 9 = .ok (.idiv, 1) := by decide +kernel
theorem dX12_comesTo_10 : decode cX12_comesTo 10 = .ok (.imul, 1) := by decide +kernel
theorem dX12_comesTo_11 : decode cX12_comesTo 11 = .ok (.istore 4, 2) := by decide +kernel
theorem dX12_comesTo_13 : decode cX12_comesTo 13 = .ok (.iload_n 1, 1) := by decide +kernel
theorem dX12_comesTo_14 : decode cX12_comesTo 14 = .ok (.istore 5, 2) := by decide +kernel
theorem dX12_comesTo_16 : decode cX12_comesTo 16 = .ok (.iload 5, 2) := by decide +kernel
theorem dX12_comesTo_18 : decode cX12_comesTo 18 = .ok (.iload_n 2, 1) := by decide +kernel
theorem dX12_comesTo_19 : decode cX12_comesTo 19 = .ok (.if_icmp .ge 214, 3) := by decide +kernel
theorem dX12_comesTo_22 : decode cX12_comesTo 22 = .ok (.aload_n 0, 1) := by decide +kernel
theorem dX12_comesTo_23 : decode cX12_comesTo 23 = .ok (.getfield 41, 3) := by decide +kernel
theorem dX12_comesTo_26 : decode cX12_comesTo 26 = .ok (.iload 5, 2) := by decide +kernel
theorem dX12_comesTo_28 : decode cX12_comesTo 28 = .ok (.iaload, 1) := by decide +kernel
theorem dX12_comesTo_29 : decode cX12_comesTo 29 = .ok (.ldc 153, 2) := by decide +kernel
theorem dX12_comesTo_31 : decode cX12_comesTo 31 = .ok (.idiv, 1) := by decide +kernel
theorem dX12_comesTo_32 : decode cX12_comesTo 32 = .ok (.istore 6, 2) := by decide +kernel
theorem dX12_comesTo_34 : decode cX12_comesTo 34 = .ok (.aload_n 0, 1) := by decide +kernel
theorem dX12_comesTo_35 : decode cX12_comesTo 35 = .ok (.getfield 41, 3) := by decide +kernel
theorem dX12_comesTo_38 : decode cX12_comesTo 38 = .ok (.iload 5, 2) := by decide +kernel
theorem dX12_comesTo_40 : decode cX12_comesTo 40 = .ok (.iaload, 1) := by decide +kernel
theorem dX12_comesTo_41 : decode cX12_comesTo 41 = .ok (.ldc 153, 2) := by decide +kernel
theorem dX12_comesTo_43 : decode cX12_comesTo 43 = .ok (.irem, 1) := by decide +kernel
theorem dX12_comesTo_44 : decode cX12_comesTo 44 = .ok (.istore 7, 2) := by decide +kernel
theorem dX12_comesTo_46 : decode cX12_comesTo 46 = .ok (.iload 5, 2) := by decide +kernel
theorem dX12_comesTo_48 : decode cX12_comesTo 48 = .ok (.iconst 1, 1) := by decide +kernel
theorem dX12_comesTo_49 : decode cX12_comesTo 49 = .ok (.iadd, 1) := by decide +kernel
theorem dX12_comesTo_50 : decode cX12_comesTo 50 = .ok (.istore 5, 2) := by decide +kernel
theorem dX12_comesTo_52 : decode cX12_comesTo 52 = .ok (.iload 6, 2) := by decide +kernel
theorem dX12_comesTo_54 : decode cX12_comesTo 54 = .ok (.ifCond .eq 9, 3) := by decide +kernel
theorem dX12_comesTo_57 : decode cX12_comesTo 57 = .ok (.iload 6, 2) := by decide +kernel
theorem dX12_comesTo_59 : decode cX12_comesTo 59 = .ok (.iconst 1, 1) := by decide +kernel
theorem dX12_comesTo_60 : decode cX12_comesTo 60 = .ok (.if_icmp .ne 33, 3) := by decide +kernel
theorem dX12_comesTo_63 : decode cX12_comesTo 63 = .ok (.aload_n 0, 1) := by decide +kernel
theorem dX12_comesTo_64 : decode cX12_comesTo 64 = .ok (.getfield 59, 3) := by decide +kernel
theorem dX12_comesTo_67 : decode cX12_comesTo 67 = .ok (.iload_n 3, 1) := by decide +kernel
theorem dX12_comesTo_68 : decode cX12_comesTo 68 = .ok (.iload 6, 2) := by decide +kernel
theorem dX12_comesTo_70 : decode cX12_comesTo 70 = .ok (.ifCond .ne 8, 3) := by decide +kernel
theorem dX12_comesTo_73 : decode cX12_comesTo 73 = .ok (.iload 7, 2) := by decide +kernel
theorem dX12_comesTo_75 : decode cX12_comesTo 75 = .ok (.goto 10, 3) := by decide +kernel
theorem dX12_comesTo_78 : decode cX12_comesTo 78 = .ok (.aload_n 0, 1) := by decide +kernel
theorem dX12_comesTo_79 : decode cX12_comesTo 79 = .ok (.getfield 62, 3) := by decide +kernel
theorem dX12_comesTo_82 : decode cX12_comesTo 82 = .ok (.iload 7, 2) := by decide +kernel
theorem dX12_comesTo_84 : decode cX12_comesTo 84 = .ok (.iaload, 1) := by decide +kernel
theorem dX12_comesTo_85 : decode cX12_comesTo 85 = .ok (.iastore, 1) := by decide +kernel
theorem dX12_comesTo_86 : decode cX12_comesTo 86 = .ok (.iload_n 3, 1) := by decide +kernel
theorem dX12_comesTo_87 : decode cX12_comesTo 87 = .ok (.iconst 1, 1) := by decide +kernel
theorem dX12_comesTo_88 : decode cX12_comesTo 88 = .ok (.iadd, 1) := by decide +kernel
theorem dX12_comesTo_89 : decode cX12_comesTo 89 = .ok (.istore_n 3, 1) := by decide +kernel
theorem dX12_comesTo_90 : decode cX12_comesTo 90 = .ok (.goto 140, 3) := by decide +kernel
theorem dX12_comesTo_93 : decode cX12_comesTo 93 = .ok (.iload 6, 2) := by decide +kernel
theorem dX12_comesTo_95 : decode cX12_comesTo 95 = .ok (.bipush 10, 2) := by decide +kernel
theorem dX12_comesTo_97 : decode cX12_comesTo 97 = .ok (.if_icmp .ne 24, 3) := by decide +kernel
theorem dX12_comesTo_100 : decode cX12_comesTo 100 = .ok (.aload_n 0, 1) := by decide +kernel
theorem dX12_comesTo_101 : decode cX12_comesTo 101 = .ok (.getfield 59, 3) := by decide +kernel
theorem dX12_comesTo_104 : decode cX12_comesTo 104 = .ok (.iload_n 3, 1) := by decide +kernel
theorem dX12_comesTo_105 : decode cX12_comesTo 105 = .ok (.iconst 1, 1) := by decide +kernel
theorem dX12_comesTo_106 : decode cX12_comesTo 106 = .ok (.isub, 1) := by decide +kernel
theorem dX12_comesTo_107 : decode cX12_comesTo 107 = .ok (.iconst 1, 1) := by decide +kernel
theorem dX12_comesTo_108 : decode cX12_comesTo 108 = .ok (.aload_n 0, 1) := by decide +kernel
theorem dX12_comesTo_109 : decode cX12_comesTo 109 = .ok (.getfield 59, 3) := by decide +kernel
theorem dX12_comesTo_112 : decode cX12_comesTo 112 = .ok (.iload_n 3, 1) := by decide +kernel
theorem dX12_comesTo_113 : decode cX12_comesTo 113 = .ok (.iconst 1, 1) := by decide +kernel
theorem dX12_comesTo_114 : decode cX12_comesTo 114 = .ok (.isub, 1) := by decide +kernel
theorem dX12_comesTo_115 : decode cX12_comesTo 115 = .ok (.iaload, 1) := by decide +kernel
theorem dX12_comesTo_116 : decode cX12_comesTo 116 = .ok (.isub, 1) := by decide +kernel
theorem dX12_comesTo_117 : decode cX12_comesTo 117 = .ok (.iastore, 1) := by decide +kernel
theorem dX12_comesTo_118 : decode cX12_comesTo 118 = .ok (.goto 112, 3) := by decide +kernel
theorem dX12_comesTo_121 : decode cX12_comesTo 121 = .ok (.iload 6, 2) := by decide +kernel
theorem dX12_comesTo_123 : decode cX12_comesTo 123 = .ok (.bipush 11, 2) := by decide +kernel
theorem dX12_comesTo_125 : decode cX12_comesTo 125 = .ok (.if_icmp .eq 10, 3) := by decide +kernel
theorem dX12_comesTo_128 : decode cX12_comesTo 128 = .ok (.iload 6, 2) := by decide +kernel
theorem dX12_comesTo_130 : decode cX12_comesTo 130 = .ok (.bipush 12, 2) := by decide +kernel
theorem dX12_comesTo_132 : decode cX12_comesTo 132 = .ok (.if_icmp .ne 43, 3) := by decide +kernel
theorem dX12_comesTo_135 : decode cX12_comesTo 135 = .ok (.aload_n 0, 1) := by decide +kernel
theorem dX12_comesTo_136 : decode cX12_comesTo 136 = .ok (.getfield 59, 3) := by decide +kernel
theorem dX12_comesTo_139 : decode cX12_comesTo 139 = .ok (.iload_n 3, 1) := by decide +kernel
theorem dX12_comesTo_140 : decode cX12_comesTo 140 = .ok (.iconst 1, 1) := by decide +kernel
theorem dX12_comesTo_141 : decode cX12_comesTo 141 = .ok (.isub, 1) := by decide +kernel
theorem dX12_comesTo_142 : decode cX12_comesTo 142 = .ok (.iaload, 1) := by decide +kernel
theorem dX12_comesTo_143 : decode cX12_comesTo 143 = .ok (.iload 6, 2) := by decide +kernel
theorem dX12_comesTo_145 : decode cX12_comesTo 145 = .ok (.bipush 12, 2) := by decide +kernel
theorem dX12_comesTo_147 : decode cX12_comesTo 147 = .ok (.if_icmp .ne 7, 3) := by decide +kernel
theorem dX12_comesTo_150 : decode cX12_comesTo 150 = .ok (.iconst 1, 1) := by decide +kernel
theorem dX12_comesTo_151 : decode cX12_comesTo 151 = .ok (.goto 4, 3) := by decide +kernel
theorem dX12_comesTo_154 : decode cX12_comesTo 154 = .ok (.iconst 0, 1) := by decide +kernel
theorem dX12_comesTo_155 : decode cX12_comesTo 155 = .ok (.if_icmp .ne 13, 3) := by decide +kernel
theorem dX12_comesTo_158 : decode cX12_comesTo 158 = .ok (.iload 4, 2) := by decide +kernel
theorem dX12_comesTo_160 : decode cX12_comesTo 160 = .ok (.iload 7, 2) := by decide +kernel
theorem dX12_comesTo_162 : decode cX12_comesTo 162 = .ok (.iadd, 1) := by decide +kernel
theorem dX12_comesTo_163 : decode cX12_comesTo 163 = .ok (.istore 5, 2) := by decide +kernel
theorem dX12_comesTo_165 : decode cX12_comesTo 165 = .ok (.goto 65, 3) := by decide +kernel
theorem dX12_comesTo_168 : decode cX12_comesTo 168 = .ok (.iload_n 3, 1) := by decide +kernel
theorem dX12_comesTo_169 : decode cX12_comesTo 169 = .ok (.iconst 1, 1) := by decide +kernel
theorem dX12_comesTo_170 : decode cX12_comesTo 170 = .ok (.isub, 1) := by decide +kernel
theorem dX12_comesTo_171 : decode cX12_comesTo 171 = .ok (.istore_n 3, 1) := by decide +kernel
theorem dX12_comesTo_172 : decode cX12_comesTo 172 = .ok (.goto 58, 3) := by decide +kernel
theorem dX12_comesTo_175 : decode cX12_comesTo 175 = .ok (.iload_n 3, 1) := by decide +kernel
theorem dX12_comesTo_176 : decode cX12_comesTo 176 = .ok (.iconst 1, 1) := by decide +kernel
theorem dX12_comesTo_177 : decode cX12_comesTo 177 = .ok (.isub, 1) := by decide +kernel
theorem dX12_comesTo_178 : decode cX12_comesTo 178 = .ok (.istore_n 3, 1) := by decide +kernel
theorem dX12_comesTo_179 : decode cX12_comesTo 179 = .ok (.iload 6, 2) := by decide +kernel
theorem dX12_comesTo_181 : decode cX12_comesTo 181 = .ok (.iconst 5, 1) := by decide +kernel
theorem dX12_comesTo_182 : decode cX12_comesTo 182 = .ok (.if_icmp .eq 10, 3) := by decide +kernel
theorem dX12_comesTo_185 : decode cX12_comesTo 185 = .ok (.iload 6, 2) := by decide +kernel
theorem dX12_comesTo_187 : decode cX12_comesTo 187 = .ok (.bipush 6, 2) := by decide +kernel
theorem dX12_comesTo_189 : decode cX12_comesTo 189 = .ok (.if_icmp .ne 14, 3) := by decide +kernel
theorem dX12_comesTo_192 : decode cX12_comesTo 192 = .ok (.aload_n 0, 1) := by decide +kernel
theorem dX12_comesTo_193 : decode cX12_comesTo 193 = .ok (.getfield 59, 3) := by decide +kernel
theorem dX12_comesTo_196 : decode cX12_comesTo 196 = .ok (.iload_n 3, 1) := by decide +kernel
theorem dX12_comesTo_197 : decode cX12_comesTo 197 = .ok (.iaload, 1) := by decide +kernel
theorem dX12_comesTo_198 : decode cX12_comesTo 198 = .ok (.ifCond .ne 5, 3) := by decide +kernel
theorem dX12_comesTo_201 : decode cX12_comesTo 201 = .ok (.iconst 0, 1) := by decide +kernel
theorem dX12_comesTo_202 : decode cX12_comesTo 202 = .ok (.ireturn, 1) := by decide +kernel
theorem dX12_comesTo_203 : decode cX12_comesTo 203 = .ok (.aload_n 0, 1) := by decide +kernel
theorem dX12_comesTo_204 : decode cX12_comesTo 204 = .ok (.getfield 59, 3) := by decide +kernel
theorem dX12_comesTo_207 : decode cX12_comesTo 207 = .ok (.iload_n 3, 1) := by decide +kernel
theorem dX12_comesTo_208 : decode cX12_comesTo 208 = .ok (.iconst 1, 1) := by decide +kernel
theorem dX12_comesTo_209 : decode cX12_comesTo 209 = .ok (.isub, 1) := by decide +kernel
theorem dX12_comesTo_210 : decode cX12_comesTo 210 = .ok (.iload 6, 2) := by decide +kernel
theorem dX12_comesTo_212 : decode cX12_comesTo 212 = .ok (.aload_n 0, 1) := by decide +kernel
theorem dX12_comesTo_213 : decode cX12_comesTo 213 = .ok (.getfield 59, 3) := by decide +kernel
theorem dX12_comesTo_216 : decode cX12_comesTo 216 = .ok (.iload_n 3, 1) := by decide +kernel
theorem dX12_comesTo_217 : decode cX12_comesTo 217 = .ok (.iconst 1, 1) := by decide +kernel
theorem dX12_comesTo_218 : decode cX12_comesTo 218 = .ok (.isub, 1) := by decide +kernel
theorem dX12_comesTo_219 : decode cX12_comesTo 219 = .ok (.iaload, 1) := by decide +kernel
theorem dX12_comesTo_220 : decode cX12_comesTo 220 = .ok (.aload_n 0, 1) := by decide +kernel
theorem dX12_comesTo_221 : decode cX12_comesTo 221 = .ok (.getfield 59, 3) := by decide +kernel
theorem dX12_comesTo_224 : decode cX12_comesTo 224 = .ok (.iload_n 3, 1) := by decide +kernel
theorem dX12_comesTo_225 : decode cX12_comesTo 225 = .ok (.iaload, 1) := by decide +kernel
theorem dX12_comesTo_226 : decode cX12_comesTo 226 = .ok (.invokestatic 236, 3) := by decide +kernel
theorem dX12_comesTo_229 : decode cX12_comesTo 229 = .ok (.iastore, 1) := by decide +kernel
theorem dX12_comesTo_230 : decode cX12_comesTo 230 = .ok (.goto (-214), 3) := by decide +kernel
theorem dX12_comesTo_233 : decode cX12_comesTo 233 = .ok (.aload_n 0, 1) := by decide +kernel
theorem dX12_comesTo_234 : decode cX12_comesTo 234 = .ok (.getfield 59, 3) := by decide +kernel
theorem dX12_comesTo_237 : decode cX12_comesTo 237 = .ok (.iconst 0, 1) := by decide +kernel
theorem dX12_comesTo_238 : decode cX12_comesTo 238 = .ok (.iaload, 1) := by decide +kernel
theorem dX12_comesTo_239 : decode cX12_comesTo 239 = .ok (.ireturn, 1) := by decide +kernel
def md_X12_comesTo : List (Nat × Nat) := [(162, 0)]
set_option maxRecDepth 100000 in
set_option maxHeartbeats 4000000 in
theorem c_X12_comesTo {l : Launch} {D : q_D} (τ : q_T) (σ : q_V) (a0 : Nat) (x1 : Int32) (x2 : Int32) (hI : q_I τ σ) (tA0 : τ a0 = some (10, 1)) (rA1 : q_r x1 0 260) (rA2 : q_r x2 0 260) (bc : Nat) (hbc : σ a0 21 = .ref bc) (Tbc : τ bc = some (156, 260)) (hle : x1.toInt ≤ x2.toInt) (hsg : q_seg σ bc x1.toInt.toNat x2.toInt.toNat) : q_Ci l D yX12_comesTo cX12_comesTo 8 (some .int) 1 22 τ σ [.ref a0, .int x1, .int x2] (fun r σ1 => q_S md_X12_comesTo τ σ σ1 ∧ (q_r r (-2147483648) 2147483647) ∧ ((r.toInt, fx_N σ1) = f_X12_comesTo (fx_N σ) a0 x1.toInt x2.toInt)) := by
  refine q_meti rfl (Nat.le_of_ble_eq_true rfl) (fun X hG hE => ?_)
  show q_O X 0 0 τ σ 0 [(0, .ref a0), (1, .int x1), (2, .int x2)] []
  have hS0 : q_S md_X12_comesTo τ σ σ := q_S.rf hI
  obtain ⟨Fv, hF⟩ : ∃ z, fx_eq z (f_X12_comesTo (fx_N σ) a0 x1.toInt x2.toInt) := ⟨_, fx_rf⟩
  have hF0 := hF
  unfold f_X12_comesTo at hF
  obtain ⟨d, hd0, hd⟩ := hsg
  obtain ⟨q_1b, q_1f, q_1T⟩ := (hI a0 10 1 tA0 27 (by decide)).ref (k := 162) (n := 260) rfl
  replace hF := fx_R hF q_1f rfl
  replace hF := fx_R hF hbc rfl
  refine q_iconst (pc := 0) hG dX12_comesTo_0 ki_0 ?_
  refine q_istore_n (pc := 1) [(3, .int 0), (0, .ref a0), (1, .int x1), (2, .int x2)] hG dX12_comesTo_1 (by decide) rfl ?_
  refine q_sipush (pc := 2) hG dX12_comesTo_2 ks_260 ?_
  refine q_iload_n (pc := 5) hG dX12_comesTo_5 2 rfl ?_
  refine q_sipush (pc := 6) hG dX12_comesTo_6 ks_260 ?_
  refine q_idiv (pc := 9) hG dX12_comesTo_9 (q_nzr rl_260 (by decide)) (fun v9 e9 => ?_)
  replace hF := fx_div hF rfl tl_260 (q_divP e9 rA1 rl_260 (by decide))
  refine q_imul (pc := 10) hG dX12_comesTo_10 (fun v10 e10 => ?_)
  have r_2 := (⟨by have q1 := q_divP e9 rA1 rl_260 (by decide); have q2 := rA1; have q3 := tl_260; rw [q3] at q1; unfold q_r at q2; omega, by have q1 := q_divP e9 rA1 rl_260 (by decide); have q2 := rA1; have q3 := tl_260; rw [q3] at q1; unfold q_r at q2; omega⟩ : q_r v9 0 1)
  replace hF := fx_mul hF tl_260 rfl (q_mulN (lo := 0) (hi := 260) e10 rl_260 r_2 (by decide)).1
  refine q_istore (pc := 11) [(4, .int v10), (3, .int 0), (0, .ref a0), (1, .int x1), (2, .int x2)] hG dX12_comesTo_11 (by decide) rfl ?_
  refine q_iload_n (pc := 13) hG dX12_comesTo_13 3 rfl ?_
  refine q_istore (pc := 14) [(5, .int x1), (4, .int v10), (3, .int 0), (0, .ref a0), (1, .int x1), (2, .int x2)] hG dX12_comesTo_14 (by decide) rfl ?_
  have J16 : ∀ (n16 : Nat) (p16_3 : Int32) (p16_5 : Int32) (σ16 : q_V), (q_r p16_3 0 260) → (q_r p16_5 0 260) → (q_S md_X12_comesTo τ σ σ16) → (x1.toInt ≤ p16_5.toInt ∧ p16_5.toInt ≤ x2.toInt ∧ p16_3.toInt = ((d (p16_5.toInt).toNat : Nat) : Int)) → (fx_eq Fv (kL_X12_comesTo_16 x2.toInt bc q_1b a0 v10.toInt n16 p16_3.toInt p16_5.toInt (fx_N σ16))) → ((260 - p16_5.toInt).toNat < n16) → q_O X 0 0 τ σ16 16 [(0, .ref a0), (2, .int x2), (3, .int p16_3), (4, .int v10), (5, .int p16_5)] [] := by
    intro n16
    induction n16 with
    | zero => intro p16_3 p16_5 σ16 r16_3 r16_5 hS16 iD16 hF hm16; exact absurd hm16 (Nat.not_lt_zero _)
    | succ n16 ih16 =>
      intro p16_3 p16_5 σ16 r16_3 r16_5 hS16 iD16 hF hm16
      replace hF := (show fx_eq Fv (kB_X12_comesTo_16 (kL_X12_comesTo_16 x2.toInt bc q_1b a0 v10.toInt n16) x2.toInt bc q_1b a0 v10.toInt p16_3.toInt p16_5.toInt (fx_N σ16)) from hF)
      unfold kB_X12_comesTo_16 at hF
      refine q_iload (pc := 16) hG dX12_comesTo_16 4 rfl ?_
      refine q_iload_n (pc := 18) hG dX12_comesTo_18 1 rfl ?_
      refine q_icmp_ge (pc := 19) hG 233 dX12_comesTo_19 rfl ?_ ?_
      · intro c19
        replace hF := fx_lt2 hF rfl rfl c19
        refine q_aload_n (pc := 233) hG dX12_comesTo_233 0 rfl ?_
        refine q_getV (pc := 234) (v := .ref q_1b) hG fl_X12_59 dX12_comesTo_234 tA0 (hS16.same tA0 rfl q_1f) ?_
        refine q_iconst (pc := 237) hG dX12_comesTo_237 ki_0 ?_
        refine q_iald (pc := 238) hG dX12_comesTo_238 hS16.1 ai_162 q_1T (q_ix rl_0 (by decide)) (fun v238 f238 g238 => ?_)
        replace hF := fx_I hF f238 (congrArg Int.toNat tl_0)
        exact q_irt hG hE dX12_comesTo_239 ⟨hS16, g238, (fx_end hF hF0)⟩
      intro c19
      replace hF := fx_lt1 hF rfl rfl c19
      refine q_aload_n (pc := 22) hG dX12_comesTo_22 0 rfl ?_
      refine q_getV (pc := 23) (v := .ref bc) hG fl_X12_41 dX12_comesTo_23 tA0 (hS16.same tA0 rfl hbc) ?_
      refine q_iload (pc := 26) hG dX12_comesTo_26 4 rfl ?_
      have r_3 := q_rlt r16_5 rA2 c19 259 (by decide)
      refine q_iald (pc := 28) hG dX12_comesTo_28 hS16.1 ai_156 Tbc (q_ix r_3 (by decide)) (fun v28 f28 g28 => ?_)
      replace hF := fx_I hF f28 rfl
      have f_4 := (hS16.2 _ _ _ _ Tbc rfl).symm.trans f28
      have r_5 := (q_mulN (lo := 0) (hi := 260) e10 rl_260 r_2 (by decide)).2
      have r_6 := q_rgt rA2 r16_5 c19 1 (by decide)
      obtain ⟨c28, ec28, hc0, hdk, hcs⟩ := hd p16_5.toInt.toNat (by have o0 := hle; have o1 := (show v9.toInt = x1.toInt / 260 from (by have q := q_divP e9 rA1 rl_260 (by decide); rw [tl_260] at q; exact q)); have o2 := (by have q := (q_mulN (lo := 0) (hi := 260) e10 rl_260 r_2 (by decide)).1; rw [tl_260] at q; exact q); have o3 := iD16; have o4 := c19; have o5 := r16_3; have o6 := r_3; have o7 := r_5; have o8 := r_2; have o9 := rA1; have o10 := r_6; have l11 := tl_260; unfold q_r at o5 o6 o7 o8 o9 o10; omega) (by have o0 := hle; have o1 := (show v9.toInt = x1.toInt / 260 from (by have q := q_divP e9 rA1 rl_260 (by decide); rw [tl_260] at q; exact q)); have o2 := (by have q := (q_mulN (lo := 0) (hi := 260) e10 rl_260 r_2 (by decide)).1; rw [tl_260] at q; exact q); have o3 := iD16; have o4 := c19; have o5 := r16_3; have o6 := r_3; have o7 := r_5; have o8 := r_2; have o9 := rA1; have o10 := r_6; have l11 := tl_260; unfold q_r at o5 o6 o7 o8 o9 o10; omega)
      cases (f_4).symm.trans ec28
      have c28z := q_zge (q_r_any v28) hc0
      refine q_ldc (pc := 29) hG w916 dX12_comesTo_29 ?_
      refine q_idiv (pc := 31) hG dX12_comesTo_31 (q_nzr rl_1048576 (by decide)) (fun v31 e31 => ?_)
      replace hF := fx_div hF rfl tl_1048576 (q_divP e31 c28z rl_1048576 (by decide))
      refine q_istore (pc := 32) [(6, .int v31), (0, .ref a0), (2, .int x2), (3, .int p16_3), (4, .int v10), (5, .int p16_5)] hG dX12_comesTo_32 (by decide) rfl ?_
      refine q_aload_n (pc := 34) hG dX12_comesTo_34 1 rfl ?_
      refine q_getV (pc := 35) (v := .ref bc) hG fl_X12_41 dX12_comesTo_35 tA0 (hS16.same tA0 rfl hbc) ?_
      refine q_iload (pc := 38) hG dX12_comesTo_38 5 rfl ?_
      refine q_ialdV (pc := 40) (v := .int v28) hG dX12_comesTo_40 Tbc (by decide) (by decide) (q_ix r_3 (by decide)) (hS16.same Tbc rfl f_4) ?_
      refine q_ldc (pc := 41) hG w916 dX12_comesTo_41 ?_
      refine q_irem (pc := 43) hG dX12_comesTo_43 (q_nzr rl_1048576 (by decide)) (fun v43 e43 => ?_)
      replace hF := fx_mod hF rfl tl_1048576 (q_remP e43 c28z rl_1048576 (by decide)).1
      refine q_istore (pc := 44) [(7, .int v43), (6, .int v31), (0, .ref a0), (2, .int x2), (3, .int p16_3), (4, .int v10), (5, .int p16_5)] hG dX12_comesTo_44 (by decide) rfl ?_
      refine q_iload (pc := 46) hG dX12_comesTo_46 6 rfl ?_
      refine q_iconst (pc := 48) hG dX12_comesTo_48 ki_1 ?_
      refine q_iadd (pc := 49) hG dX12_comesTo_49 (fun v49 e49 => ?_)
      replace hF := fx_add hF rfl tl_1 (q_addN (lo := 1) (hi := 260) e49 r_3 rl_1 (by decide)).1
      refine q_istore (pc := 50) [(5, .int v49), (7, .int v43), (6, .int v31), (0, .ref a0), (2, .int x2), (3, .int p16_3), (4, .int v10)] hG dX12_comesTo_50 (by decide) rfl ?_
      refine q_iload (pc := 52) hG dX12_comesTo_52 2 rfl ?_
      have J230 : ∀ (p230_3 : Int32) (p230_5 : Int32) (σ230 : q_V), (q_r p230_3 0 260) → (q_r p230_5 0 260) → (q_S md_X12_comesTo τ σ σ230) → (x1.toInt ≤ p230_5.toInt ∧ p230_5.toInt ≤ x2.toInt ∧ p230_3.toInt = ((d (p230_5.toInt).toNat : Nat) : Int) ∧ p16_5.toInt < p230_5.toInt) → (fx_eq Fv (kJ_X12_comesTo_230 (kL_X12_comesTo_16 x2.toInt bc q_1b a0 v10.toInt n16) p230_3.toInt p230_5.toInt (fx_N σ230))) → q_O X 0 0 τ σ230 230 [(0, .ref a0), (2, .int x2), (3, .int p230_3), (4, .int v10), (5, .int p230_5)] [] := by
        intro p230_3 p230_5 σ230 r230_3 r230_5 hS230 iD230 hF
        unfold kJ_X12_comesTo_230 at hF
        refine q_goto (pc := 230) 16 hG dX12_comesTo_230 rfl ?_
        refine q_lv [0, 1, 2, 3, 4] rfl ?_
        have r_7 := (⟨by have q1 := q_divP e31 c28z rl_1048576 (by decide); have q2 := c28z; have q3 := tl_1048576; rw [q3] at q1; unfold q_r at q2; omega, by have q1 := q_divP e31 c28z rl_1048576 (by decide); have q2 := c28z; have q3 := tl_1048576; rw [q3] at q1; unfold q_r at q2; omega⟩ : q_r v31 0 2047)
        have r_8 := q_r.mono (c := 0) (d := 1048575) (q_remP e43 c28z rl_1048576 (by decide)).2.1 (by decide)
        have r_9 := (q_addN (lo := 1) (hi := 260) e49 r_3 rl_1 (by decide)).2
        exact ih16 p230_3 p230_5 σ230 r230_3 r230_5 hS230 (by have o0 := hle; have o1 := (show v9.toInt = x1.toInt / 260 from (by have q := q_divP e9 rA1 rl_260 (by decide); rw [tl_260] at q; exact q)); have o2 := (by have q := (q_mulN (lo := 0) (hi := 260) e10 rl_260 r_2 (by decide)).1; rw [tl_260] at q; exact q); have o3 := c19; have o4 := hcs; have o5 := hdk; have o6 := (show v31.toInt = v28.toInt / 1048576 from (by have q := q_divP e31 c28z rl_1048576 (by decide); rw [tl_1048576] at q; exact q)); have o7 := (q_remP e43 c28z rl_1048576 (by decide)).2.2; have o8 := (show v43.toInt = v28.toInt % 1048576 from (by have q := (q_remP e43 c28z rl_1048576 (by decide)).1; rw [tl_1048576] at q; exact q)); have o9 := (q_remL e43 c28z rl_1048576 (by decide)); have o10 := (q_addN (lo := 1) (hi := 260) e49 r_3 rl_1 (by decide)).1; have o11 := iD230; have o12 := iD16; have o13 := r16_3; have o14 := r_3; have o15 := r230_3; have o16 := r230_5; have o17 := r_5; have o18 := c28z; have o19 := r_7; have o20 := r_8; have o21 := r_9; have o22 := r_2; have o23 := rA1; have o24 := r_6; have l25 := tl_1; have l26 := tl_260; have l27 := tl_1048576; unfold q_r at o13 o14 o15 o16 o17 o18 o19 o20 o21 o22 o23 o24; omega) hF (q_measU hm16 (by have o0 := iD16; have o1 := c19; have o2 := hcs; have o3 := hdk; have o4 := (show v31.toInt = v28.toInt / 1048576 from (by have q := q_divP e31 c28z rl_1048576 (by decide); rw [tl_1048576] at q; exact q)); have o5 := (q_remP e43 c28z rl_1048576 (by decide)).2.2; have o6 := (show v43.toInt = v28.toInt % 1048576 from (by have q := (q_remP e43 c28z rl_1048576 (by decide)).1; rw [tl_1048576] at q; exact q)); have o7 := (q_remL e43 c28z rl_1048576 (by decide)); have o8 := (q_addN (lo := 1) (hi := 260) e49 r_3 rl_1 (by decide)).1; have o9 := iD230; have o10 := hle; have o11 := (show v9.toInt = x1.toInt / 260 from (by have q := q_divP e9 rA1 rl_260 (by decide); rw [tl_260] at q; exact q)); have o12 := (by have q := (q_mulN (lo := 0) (hi := 260) e10 rl_260 r_2 (by decide)).1; rw [tl_260] at q; exact q); have o13 := r16_3; have o14 := r_3; have o15 := r230_3; have o16 := r230_5; have o17 := r_5; have o18 := c28z; have o19 := r_7; have o20 := r_8; have o21 := r_9; have o22 := r_2; have o23 := rA1; have o24 := r_6; have l25 := tl_1; have l26 := tl_260; have l27 := tl_1048576; unfold q_r at o13 o14 o15 o16 o17 o18 o19 o20 o21 o22 o23 o24; omega) (r230_5).2)
      have J63 : (v31.toInt = 0 ∨ v31.toInt = 1) → (fx_eq Fv (kJ_X12_comesTo_63 v31.toInt (fx_N σ16) q_1b p16_3.toInt (kL_X12_comesTo_16 x2.toInt bc q_1b a0 v10.toInt n16) v49.toInt v43.toInt a0)) → q_O X 0 0 τ σ16 63 [(0, .ref a0), (2, .int x2), (3, .int p16_3), (4, .int v10), (5, .int v49), (6, .int v31), (7, .int v43)] [] := by
        intro iO63 hF
        unfold kJ_X12_comesTo_63 at hF
        refine q_aload_n (pc := 63) hG dX12_comesTo_63 0 rfl ?_
        refine q_getV (pc := 64) (v := .ref q_1b) hG fl_X12_59 dX12_comesTo_64 tA0 (hS16.same tA0 rfl q_1f) ?_
        refine q_iload_n (pc := 67) hG dX12_comesTo_67 2 rfl ?_
        refine q_iload (pc := 68) hG dX12_comesTo_68 5 rfl ?_
        have J85 : ∀ (p85_s0 : Int32), (fx_eq Fv (kJ_X12_comesTo_85 (fx_N σ16) q_1b p16_3.toInt (kL_X12_comesTo_16 x2.toInt bc q_1b a0 v10.toInt n16) v49.toInt p85_s0.toInt)) → q_O X 0 0 τ σ16 85 [(0, .ref a0), (2, .int x2), (3, .int p16_3), (4, .int v10), (5, .int v49)] [.int p85_s0, .int p16_3, .ref q_1b] := by
          intro p85_s0 hF
          unfold kJ_X12_comesTo_85 at hF
          have r_10 := (⟨by have q1 := q_divP e31 c28z rl_1048576 (by decide); have q2 := c28z; have q3 := tl_1048576; rw [q3] at q1; unfold q_r at q2; omega, by have q1 := q_divP e31 c28z rl_1048576 (by decide); have q2 := c28z; have q3 := tl_1048576; rw [q3] at q1; unfold q_r at q2; omega⟩ : q_r v31 0 2047)
          have r_11 := q_r.mono (c := 0) (d := 1048575) (q_remP e43 c28z rl_1048576 (by decide)).2.1 (by decide)
          have r_12 := (q_addN (lo := 1) (hi := 260) e49 r_3 rl_1 (by decide)).2
          refine q_iast (pc := 85) hG dX12_comesTo_85 hS16 ai_162 q_1T (by have o0 := iD16; have o1 := c19; have o2 := hcs; have o3 := hdk; have o4 := (show v31.toInt = v28.toInt / 1048576 from (by have q := q_divP e31 c28z rl_1048576 (by decide); rw [tl_1048576] at q; exact q)); have o5 := (q_remP e43 c28z rl_1048576 (by decide)).2.2; have o6 := (show v43.toInt = v28.toInt % 1048576 from (by have q := (q_remP e43 c28z rl_1048576 (by decide)).1; rw [tl_1048576] at q; exact q)); have o7 := (q_remL e43 c28z rl_1048576 (by decide)); have o8 := (q_addN (lo := 1) (hi := 260) e49 r_3 rl_1 (by decide)).1; have o9 := iO63; have o10 := hle; have o11 := (show v9.toInt = x1.toInt / 260 from (by have q := q_divP e9 rA1 rl_260 (by decide); rw [tl_260] at q; exact q)); have o12 := (by have q := (q_mulN (lo := 0) (hi := 260) e10 rl_260 r_2 (by decide)).1; rw [tl_260] at q; exact q); have o13 := r16_3; have o14 := r_3; have o15 := r_5; have o16 := c28z; have o17 := r_10; have o18 := r_11; have o19 := r_12; have o20 := r_2; have o21 := rA1; have o22 := r_6; have l23 := tl_1; have l24 := tl_260; have l25 := tl_1048576; unfold q_r at o13 o14 o15 o16 o17 o18 o19 o20 o21 o22; omega) (q_r_any p85_s0) (by decide) rfl (fun s85 u85 w85 => ?_)
          replace hF := fx_P hF u85 rfl rfl
          have m85 : s85 q_1b p16_3.toInt.toNat = .int p85_s0 := by rw [u85]; exact q_up_same
          refine q_iload_n (pc := 86) hG dX12_comesTo_86 2 rfl ?_
          refine q_iconst (pc := 87) hG dX12_comesTo_87 ki_1 ?_
          refine q_iadd (pc := 88) hG dX12_comesTo_88 (fun v88 e88 => ?_)
          replace hF := fx_add hF rfl tl_1 (q_addN (lo := 1) (hi := 261) e88 r16_3 rl_1 (by decide)).1
          refine q_istore_n (pc := 89) [(3, .int v88), (0, .ref a0), (2, .int x2), (4, .int v10), (5, .int v49)] hG dX12_comesTo_89 (by decide) rfl ?_
          refine q_goto (pc := 90) 230 hG dX12_comesTo_90 rfl ?_
          refine q_lv [1, 2, 0, 3, 4] rfl ?_
          have r_13 := (q_addN (lo := 1) (hi := 261) e88 r16_3 rl_1 (by decide)).2
          exact J230 v88 v49 s85 (show q_r v88 0 260 from ⟨(by have o0 := (q_addN (lo := 1) (hi := 261) e88 r16_3 rl_1 (by decide)).1; have o1 := iD16; have o2 := c19; have o3 := hcs; have o4 := hdk; have o5 := (show v31.toInt = v28.toInt / 1048576 from (by have q := q_divP e31 c28z rl_1048576 (by decide); rw [tl_1048576] at q; exact q)); have o6 := (q_remP e43 c28z rl_1048576 (by decide)).2.2; have o7 := (show v43.toInt = v28.toInt % 1048576 from (by have q := (q_remP e43 c28z rl_1048576 (by decide)).1; rw [tl_1048576] at q; exact q)); have o8 := (q_remL e43 c28z rl_1048576 (by decide)); have o9 := (q_addN (lo := 1) (hi := 260) e49 r_3 rl_1 (by decide)).1; have o10 := iO63; have o11 := hle; have o12 := (show v9.toInt = x1.toInt / 260 from (by have q := q_divP e9 rA1 rl_260 (by decide); rw [tl_260] at q; exact q)); have o13 := (by have q := (q_mulN (lo := 0) (hi := 260) e10 rl_260 r_2 (by decide)).1; rw [tl_260] at q; exact q); have o14 := r16_3; have o15 := r_3; have o16 := r_5; have o17 := c28z; have o18 := r_10; have o19 := r_11; have o20 := r_12; have o21 := r_13; have o22 := r_2; have o23 := rA1; have o24 := r_6; have l25 := tl_1; have l26 := tl_260; have l27 := tl_1048576; unfold q_r at o14 o15 o16 o17 o18 o19 o20 o21 o22 o23 o24; omega), (by have o0 := (q_addN (lo := 1) (hi := 261) e88 r16_3 rl_1 (by decide)).1; have o1 := iD16; have o2 := c19; have o3 := hcs; have o4 := hdk; have o5 := (show v31.toInt = v28.toInt / 1048576 from (by have q := q_divP e31 c28z rl_1048576 (by decide); rw [tl_1048576] at q; exact q)); have o6 := (q_remP e43 c28z rl_1048576 (by decide)).2.2; have o7 := (show v43.toInt = v28.toInt % 1048576 from (by have q := (q_remP e43 c28z rl_1048576 (by decide)).1; rw [tl_1048576] at q; exact q)); have o8 := (q_remL e43 c28z rl_1048576 (by decide)); have o9 := (q_addN (lo := 1) (hi := 260) e49 r_3 rl_1 (by decide)).1; have o10 := iO63; have o11 := hle; have o12 := (show v9.toInt = x1.toInt / 260 from (by have q := q_divP e9 rA1 rl_260 (by decide); rw [tl_260] at q; exact q)); have o13 := (by have q := (q_mulN (lo := 0) (hi := 260) e10 rl_260 r_2 (by decide)).1; rw [tl_260] at q; exact q); have o14 := r16_3; have o15 := r_3; have o16 := r_5; have o17 := c28z; have o18 := r_10; have o19 := r_11; have o20 := r_12; have o21 := r_13; have o22 := r_2; have o23 := rA1; have o24 := r_6; have l25 := tl_1; have l26 := tl_260; have l27 := tl_1048576; unfold q_r at o14 o15 o16 o17 o18 o19 o20 o21 o22 o23 o24; omega)⟩) (q_r.mono r_12 (by decide)) w85 (by have o0 := hle; have o1 := (show v9.toInt = x1.toInt / 260 from (by have q := q_divP e9 rA1 rl_260 (by decide); rw [tl_260] at q; exact q)); have o2 := (by have q := (q_mulN (lo := 0) (hi := 260) e10 rl_260 r_2 (by decide)).1; rw [tl_260] at q; exact q); have o3 := iD16; have o4 := c19; have o5 := hcs; have o6 := hdk; have o7 := (show v31.toInt = v28.toInt / 1048576 from (by have q := q_divP e31 c28z rl_1048576 (by decide); rw [tl_1048576] at q; exact q)); have o8 := (q_remP e43 c28z rl_1048576 (by decide)).2.2; have o9 := (show v43.toInt = v28.toInt % 1048576 from (by have q := (q_remP e43 c28z rl_1048576 (by decide)).1; rw [tl_1048576] at q; exact q)); have o10 := (q_remL e43 c28z rl_1048576 (by decide)); have o11 := (q_addN (lo := 1) (hi := 260) e49 r_3 rl_1 (by decide)).1; have o12 := iO63; have o13 := (q_addN (lo := 1) (hi := 261) e88 r16_3 rl_1 (by decide)).1; have o14 := r16_3; have o15 := r_3; have o16 := r_5; have o17 := c28z; have o18 := r_10; have o19 := r_11; have o20 := r_12; have o21 := r_13; have o22 := r_2; have o23 := rA1; have o24 := r_6; have l25 := tl_1; have l26 := tl_260; have l27 := tl_1048576; unfold q_r at o14 o15 o16 o17 o18 o19 o20 o21 o22 o23 o24; have e1 : (v49.toInt).toNat = p16_5.toInt.toNat + 1 := (by omega); rw [e1]; omega) hF
        refine q_if_ne (pc := 70) hG 78 dX12_comesTo_70 rfl ?_ ?_
        · intro c70
          have r_14 := (⟨by have q1 := q_divP e31 c28z rl_1048576 (by decide); have q2 := c28z; have q3 := tl_1048576; rw [q3] at q1; unfold q_r at q2; omega, by have q1 := q_divP e31 c28z rl_1048576 (by decide); have q2 := c28z; have q3 := tl_1048576; rw [q3] at q1; unfold q_r at q2; omega⟩ : q_r v31 0 2047)
          replace hF := fx_eq2 hF rfl rfl c70
          refine q_aload_n (pc := 78) hG dX12_comesTo_78 0 rfl ?_
          refine q_getR (pc := 79) (k2 := 163) (n2 := 9) hG fl_X12_62 dX12_comesTo_79 hS16.1 tA0 ff_10_28 (fun b79 f79 T79 => ?_)
          replace hF := fx_R hF f79 rfl
          have f_15 := (hS16.2 _ _ _ _ tA0 rfl).symm.trans f79
          refine q_iload (pc := 82) hG dX12_comesTo_82 6 rfl ?_
          have r_16 := q_neL (c := 1) r_14 c70 (by decide)
          have r_17 := q_r.mono (c := 0) (d := 1048575) (q_remP e43 c28z rl_1048576 (by decide)).2.1 (by decide)
          have r_18 := (q_addN (lo := 1) (hi := 260) e49 r_3 rl_1 (by decide)).2
          refine q_iald (pc := 84) hG dX12_comesTo_84 hS16.1 ai_163 T79 (by have o0 := (q_remP e43 c28z rl_1048576 (by decide)).2.2; have o1 := (show v43.toInt = v28.toInt % 1048576 from (by have q := (q_remP e43 c28z rl_1048576 (by decide)).1; rw [tl_1048576] at q; exact q)); have o2 := (q_remL e43 c28z rl_1048576 (by decide)); have o3 := hcs; have o4 := hdk; have o5 := (show v31.toInt = v28.toInt / 1048576 from (by have q := q_divP e31 c28z rl_1048576 (by decide); rw [tl_1048576] at q; exact q)); have o6 := (q_addN (lo := 1) (hi := 260) e49 r_3 rl_1 (by decide)).1; have o7 := iO63; have o8 := c70; have o9 := iD16; have o10 := c19; have o11 := hle; have o12 := (show v9.toInt = x1.toInt / 260 from (by have q := q_divP e9 rA1 rl_260 (by decide); rw [tl_260] at q; exact q)); have o13 := (by have q := (q_mulN (lo := 0) (hi := 260) e10 rl_260 r_2 (by decide)).1; rw [tl_260] at q; exact q); have o14 := r16_3; have o15 := r_3; have o16 := r_5; have o17 := c28z; have o18 := r_16; have o19 := r_17; have o20 := r_18; have o21 := r_2; have o22 := rA1; have o23 := r_6; have l24 := tl_1; have l25 := tl_260; have l26 := tl_1048576; unfold q_r at o14 o15 o16 o17 o18 o19 o20 o21 o22 o23; omega) (fun v84 f84 g84 => ?_)
          replace hF := fx_I hF f84 rfl
          have f_19 := (hS16.2 _ _ _ _ T79 rfl).symm.trans f84
          refine q_lv [0, 1, 2, 3, 4] rfl ?_
          exact J85 v84 hF
        intro c70
        have r_20 := (⟨by have q1 := q_divP e31 c28z rl_1048576 (by decide); have q2 := c28z; have q3 := tl_1048576; rw [q3] at q1; unfold q_r at q2; omega, by have q1 := q_divP e31 c28z rl_1048576 (by decide); have q2 := c28z; have q3 := tl_1048576; rw [q3] at q1; unfold q_r at q2; omega⟩ : q_r v31 0 2047)
        replace hF := fx_eq1 hF rfl rfl c70
        refine q_iload (pc := 73) hG dX12_comesTo_73 6 rfl ?_
        refine q_goto (pc := 75) 85 hG dX12_comesTo_75 rfl ?_
        refine q_lv [0, 1, 2, 3, 4] rfl ?_
        exact J85 v43 hF
      refine q_if_eq (pc := 54) hG 63 dX12_comesTo_54 rfl ?_ ?_
      · intro c54
        have r_21 := (⟨by have q1 := q_divP e31 c28z rl_1048576 (by decide); have q2 := c28z; have q3 := tl_1048576; rw [q3] at q1; unfold q_r at q2; omega, by have q1 := q_divP e31 c28z rl_1048576 (by decide); have q2 := c28z; have q3 := tl_1048576; rw [q3] at q1; unfold q_r at q2; omega⟩ : q_r v31 0 2047)
        replace hF := fx_eq1 hF rfl rfl c54
        refine q_lv [3, 4, 5, 6, 0, 2, 1] rfl ?_
        have r_22 := q_zeq c54
        have r_23 := q_r.mono (c := 0) (d := 1048575) (q_remP e43 c28z rl_1048576 (by decide)).2.1 (by decide)
        have r_24 := (q_addN (lo := 1) (hi := 260) e49 r_3 rl_1 (by decide)).2
        exact J63 (by have o0 := (show v31.toInt = v28.toInt / 1048576 from (by have q := q_divP e31 c28z rl_1048576 (by decide); rw [tl_1048576] at q; exact q)); have o1 := (q_remP e43 c28z rl_1048576 (by decide)).2.2; have o2 := (show v43.toInt = v28.toInt % 1048576 from (by have q := (q_remP e43 c28z rl_1048576 (by decide)).1; rw [tl_1048576] at q; exact q)); have o3 := (q_remL e43 c28z rl_1048576 (by decide)); have o4 := c54; have o5 := hcs; have o6 := hdk; have o7 := (q_addN (lo := 1) (hi := 260) e49 r_3 rl_1 (by decide)).1; have o8 := iD16; have o9 := c19; have o10 := hle; have o11 := (show v9.toInt = x1.toInt / 260 from (by have q := q_divP e9 rA1 rl_260 (by decide); rw [tl_260] at q; exact q)); have o12 := (by have q := (q_mulN (lo := 0) (hi := 260) e10 rl_260 r_2 (by decide)).1; rw [tl_260] at q; exact q); have o13 := r16_3; have o14 := r_3; have o15 := r_5; have o16 := c28z; have o17 := r_22; have o18 := r_23; have o19 := r_24; have o20 := r_2; have o21 := rA1; have o22 := r_6; have l23 := tl_1; have l24 := tl_260; have l25 := tl_1048576; unfold q_r at o13 o14 o15 o16 o17 o18 o19 o20 o21 o22; omega) hF
      intro c54
      have r_25 := (⟨by have q1 := q_divP e31 c28z rl_1048576 (by decide); have q2 := c28z; have q3 := tl_1048576; rw [q3] at q1; unfold q_r at q2; omega, by have q1 := q_divP e31 c28z rl_1048576 (by decide); have q2 := c28z; have q3 := tl_1048576; rw [q3] at q1; unfold q_r at q2; omega⟩ : q_r v31 0 2047)
      replace hF := fx_eq2 hF rfl rfl c54
      refine q_iload (pc := 57) hG dX12_comesTo_57 2 rfl ?_
      refine q_iconst (pc := 59) hG dX12_comesTo_59 ki_1 ?_
      refine q_icmp_ne (pc := 60) hG 93 dX12_comesTo_60 rfl ?_ ?_
      · intro c60
        have r_26 := q_neL (c := 1) r_25 c54 (by decide)
        replace hF := fx_eq2 hF rfl tl_1 c60
        refine q_iload (pc := 93) hG dX12_comesTo_93 2 rfl ?_
        refine q_bipush (pc := 95) hG dX12_comesTo_95 kb_10 ?_
        refine q_icmp_ne (pc := 97) hG 121 dX12_comesTo_97 rfl ?_ ?_
        · intro c97
          have r_27 := q_neL (c := 2) r_26 (q_nel c60 tl_1) (by decide)
          replace hF := fx_eq2 hF rfl tl_10 c97
          refine q_iload (pc := 121) hG dX12_comesTo_121 2 rfl ?_
          refine q_bipush (pc := 123) hG dX12_comesTo_123 kb_11 ?_
          have J135 : (v31.toInt = 11 ∨ v31.toInt = 12) → (fx_eq Fv (kJ_X12_comesTo_135 p16_3.toInt (fx_N σ16) q_1b v31.toInt v10.toInt v43.toInt (kL_X12_comesTo_16 x2.toInt bc q_1b a0 v10.toInt n16) v49.toInt)) → q_O X 0 0 τ σ16 135 [(0, .ref a0), (2, .int x2), (3, .int p16_3), (4, .int v10), (5, .int v49), (6, .int v31), (7, .int v43)] [] := by
            intro iO135 hF
            unfold kJ_X12_comesTo_135 at hF
            refine q_aload_n (pc := 135) hG dX12_comesTo_135 0 rfl ?_
            refine q_getV (pc := 136) (v := .ref q_1b) hG fl_X12_59 dX12_comesTo_136 tA0 (hS16.same tA0 rfl q_1f) ?_
            refine q_iload_n (pc := 139) hG dX12_comesTo_139 2 rfl ?_
            refine q_iconst (pc := 140) hG dX12_comesTo_140 ki_1 ?_
            refine q_isub (pc := 141) hG dX12_comesTo_141 (fun v141 e141 => ?_)
            replace hF := fx_sub hF rfl tl_1 (q_subN (lo := (-1)) (hi := 259) e141 r16_3 rl_1 (by decide)).1
            have r_28 := (q_subN (lo := (-1)) (hi := 259) e141 r16_3 rl_1 (by decide)).2
            have r_29 := q_r.mono (c := 0) (d := 1048575) (q_remP e43 c28z rl_1048576 (by decide)).2.1 (by decide)
            have r_30 := (q_addN (lo := 1) (hi := 260) e49 r_3 rl_1 (by decide)).2
            refine q_iald (pc := 142) hG dX12_comesTo_142 hS16.1 ai_162 q_1T (by have o0 := (q_subN (lo := (-1)) (hi := 259) e141 r16_3 rl_1 (by decide)).1; have o1 := iD16; have o2 := c19; have o3 := hcs; have o4 := hdk; have o5 := (show v31.toInt = v28.toInt / 1048576 from (by have q := q_divP e31 c28z rl_1048576 (by decide); rw [tl_1048576] at q; exact q)); have o6 := (q_remP e43 c28z rl_1048576 (by decide)).2.2; have o7 := (show v43.toInt = v28.toInt % 1048576 from (by have q := (q_remP e43 c28z rl_1048576 (by decide)).1; rw [tl_1048576] at q; exact q)); have o8 := (q_remL e43 c28z rl_1048576 (by decide)); have o9 := (q_addN (lo := 1) (hi := 260) e49 r_3 rl_1 (by decide)).1; have o10 := c54; have o11 := c60; have o12 := c97; have o13 := iO135; have o14 := hle; have o15 := (show v9.toInt = x1.toInt / 260 from (by have q := q_divP e9 rA1 rl_260 (by decide); rw [tl_260] at q; exact q)); have o16 := (by have q := (q_mulN (lo := 0) (hi := 260) e10 rl_260 r_2 (by decide)).1; rw [tl_260] at q; exact q); have o17 := r16_3; have o18 := r_3; have o19 := r_5; have o20 := r_28; have o21 := c28z; have o22 := r_27; have o23 := r_29; have o24 := r_30; have o25 := r_2; have o26 := rA1; have o27 := r_6; have l28 := tl_1; have l29 := tl_10; have l30 := tl_260; have l31 := tl_1048576; unfold q_r at o17 o18 o19 o20 o21 o22 o23 o24 o25 o26 o27; omega) (fun v142 f142 g142 => ?_)
            replace hF := fx_I hF f142 rfl
            refine q_iload (pc := 143) hG dX12_comesTo_143 5 rfl ?_
            refine q_bipush (pc := 145) hG dX12_comesTo_145 kb_12 ?_
            have J155 : ∀ (p155_s0 : Int32), (q_r p155_s0 0 1) → (fx_eq Fv (kJ_X12_comesTo_155 v142.toInt v10.toInt v43.toInt (kL_X12_comesTo_16 x2.toInt bc q_1b a0 v10.toInt n16) p16_3.toInt (fx_N σ16) v141.toInt v49.toInt p155_s0.toInt)) → q_O X 0 0 τ σ16 155 [(0, .ref a0), (2, .int x2), (3, .int p16_3), (4, .int v10), (5, .int v49), (7, .int v43)] [.int p155_s0, .int v142] := by
              intro p155_s0 r155_s0 hF
              unfold kJ_X12_comesTo_155 at hF
              refine q_icmp_ne (pc := 155) hG 168 dX12_comesTo_155 rfl ?_ ?_
              · intro c155
                replace hF := fx_eq2 hF rfl rfl c155
                refine q_iload_n (pc := 168) hG dX12_comesTo_168 2 rfl ?_
                refine q_iconst (pc := 169) hG dX12_comesTo_169 ki_1 ?_
                refine q_isub (pc := 170) hG dX12_comesTo_170 (fun v170 e170 => ?_)
                rw [e170.trans e141.symm]
                refine q_istore_n (pc := 171) [(3, .int v141), (0, .ref a0), (2, .int x2), (4, .int v10), (5, .int v49), (7, .int v43)] hG dX12_comesTo_171 (by decide) rfl ?_
                refine q_goto (pc := 172) 230 hG dX12_comesTo_172 rfl ?_
                refine q_lv [1, 2, 0, 3, 4] rfl ?_
                exact J230 v141 v49 σ16 (show q_r v141 0 260 from ⟨(by have o0 := (q_subN (lo := (-1)) (hi := 259) e141 r16_3 rl_1 (by decide)).1; have o1 := iD16; have o2 := c19; have o3 := hcs; have o4 := hdk; have o5 := (show v31.toInt = v28.toInt / 1048576 from (by have q := q_divP e31 c28z rl_1048576 (by decide); rw [tl_1048576] at q; exact q)); have o6 := (q_remP e43 c28z rl_1048576 (by decide)).2.2; have o7 := (show v43.toInt = v28.toInt % 1048576 from (by have q := (q_remP e43 c28z rl_1048576 (by decide)).1; rw [tl_1048576] at q; exact q)); have o8 := (q_remL e43 c28z rl_1048576 (by decide)); have o9 := (q_addN (lo := 1) (hi := 260) e49 r_3 rl_1 (by decide)).1; have o10 := c54; have o11 := c60; have o12 := c97; have o13 := iO135; have o14 := hle; have o15 := (show v9.toInt = x1.toInt / 260 from (by have q := q_divP e9 rA1 rl_260 (by decide); rw [tl_260] at q; exact q)); have o16 := (by have q := (q_mulN (lo := 0) (hi := 260) e10 rl_260 r_2 (by decide)).1; rw [tl_260] at q; exact q); have o17 := r16_3; have o18 := r_3; have o19 := r_5; have o20 := r_28; have o21 := c28z; have o22 := r_27; have o23 := r_29; have o24 := r_30; have o25 := r_2; have o26 := rA1; have o27 := r_6; have l28 := tl_1; have l29 := tl_10; have l30 := tl_260; have l31 := tl_1048576; unfold q_r at o17 o18 o19 o20 o21 o22 o23 o24 o25 o26 o27; omega), (by have o0 := (q_subN (lo := (-1)) (hi := 259) e141 r16_3 rl_1 (by decide)).1; have o1 := iD16; have o2 := c19; have o3 := hcs; have o4 := hdk; have o5 := (show v31.toInt = v28.toInt / 1048576 from (by have q := q_divP e31 c28z rl_1048576 (by decide); rw [tl_1048576] at q; exact q)); have o6 := (q_remP e43 c28z rl_1048576 (by decide)).2.2; have o7 := (show v43.toInt = v28.toInt % 1048576 from (by have q := (q_remP e43 c28z rl_1048576 (by decide)).1; rw [tl_1048576] at q; exact q)); have o8 := (q_remL e43 c28z rl_1048576 (by decide)); have o9 := (q_addN (lo := 1) (hi := 260) e49 r_3 rl_1 (by decide)).1; have o10 := c54; have o11 := c60; have o12 := c97; have o13 := iO135; have o14 := hle; have o15 := (show v9.toInt = x1.toInt / 260 from (by have q := q_divP e9 rA1 rl_260 (by decide); rw [tl_260] at q; exact q)); have o16 := (by have q := (q_mulN (lo := 0) (hi := 260) e10 rl_260 r_2 (by decide)).1; rw [tl_260] at q; exact q); have o17 := r16_3; have o18 := r_3; have o19 := r_5; have o20 := r_28; have o21 := c28z; have o22 := r_27; have o23 := r_29; have o24 := r_30; have o25 := r_2; have o26 := rA1; have o27 := r_6; have l28 := tl_1; have l29 := tl_10; have l30 := tl_260; have l31 := tl_1048576; unfold q_r at o17 o18 o19 o20 o21 o22 o23 o24 o25 o26 o27; omega)⟩) (q_r.mono r_30 (by decide)) hS16 (by have o0 := hle; have o1 := (show v9.toInt = x1.toInt / 260 from (by have q := q_divP e9 rA1 rl_260 (by decide); rw [tl_260] at q; exact q)); have o2 := (by have q := (q_mulN (lo := 0) (hi := 260) e10 rl_260 r_2 (by decide)).1; rw [tl_260] at q; exact q); have o3 := iD16; have o4 := c19; have o5 := hcs; have o6 := hdk; have o7 := (show v31.toInt = v28.toInt / 1048576 from (by have q := q_divP e31 c28z rl_1048576 (by decide); rw [tl_1048576] at q; exact q)); have o8 := (q_remP e43 c28z rl_1048576 (by decide)).2.2; have o9 := (show v43.toInt = v28.toInt % 1048576 from (by have q := (q_remP e43 c28z rl_1048576 (by decide)).1; rw [tl_1048576] at q; exact q)); have o10 := (q_remL e43 c28z rl_1048576 (by decide)); have o11 := (q_addN (lo := 1) (hi := 260) e49 r_3 rl_1 (by decide)).1; have o12 := c54; have o13 := c60; have o14 := c97; have o15 := iO135; have o16 := (q_subN (lo := (-1)) (hi := 259) e141 r16_3 rl_1 (by decide)).1; have o17 := r16_3; have o18 := r_3; have o19 := r_5; have o20 := r_28; have o21 := c28z; have o22 := r_27; have o23 := r_29; have o24 := r_30; have o25 := r_2; have o26 := rA1; have o27 := r_6; have l28 := tl_1; have l29 := tl_10; have l30 := tl_260; have l31 := tl_1048576; unfold q_r at o17 o18 o19 o20 o21 o22 o23 o24 o25 o26 o27; have e1 : (v49.toInt).toNat = p16_5.toInt.toNat + 1 := (by omega); rw [e1]; omega) hF
              intro c155
              replace hF := fx_eq1 hF rfl rfl c155
              refine q_iload (pc := 158) hG dX12_comesTo_158 3 rfl ?_
              refine q_iload (pc := 160) hG dX12_comesTo_160 5 rfl ?_
              refine q_iadd (pc := 162) hG dX12_comesTo_162 (fun v162 e162 => ?_)
              replace hF := fx_add hF rfl rfl (q_addN (lo := 0) (hi := 1048835) e162 r_5 r_29 (by decide)).1
              refine q_istore (pc := 163) [(5, .int v162), (0, .ref a0), (2, .int x2), (3, .int p16_3), (4, .int v10), (7, .int v43)] hG dX12_comesTo_163 (by decide) rfl ?_
              refine q_goto (pc := 165) 230 hG dX12_comesTo_165 rfl ?_
              refine q_lv [1, 2, 3, 4, 0] rfl ?_
              have r_31 := (q_addN (lo := 0) (hi := 1048835) e162 r_5 r_29 (by decide)).2
              exact J230 p16_3 v162 σ16 r16_3 (show q_r v162 0 260 from ⟨(by have o0 := (q_addN (lo := 0) (hi := 1048835) e162 r_5 r_29 (by decide)).1; have o1 := (by have q := (q_mulN (lo := 0) (hi := 260) e10 rl_260 r_2 (by decide)).1; rw [tl_260] at q; exact q); have o2 := (q_remP e43 c28z rl_1048576 (by decide)).2.2; have o3 := (show v43.toInt = v28.toInt % 1048576 from (by have q := (q_remP e43 c28z rl_1048576 (by decide)).1; rw [tl_1048576] at q; exact q)); have o4 := (q_remL e43 c28z rl_1048576 (by decide)); have o5 := (show v9.toInt = x1.toInt / 260 from (by have q := q_divP e9 rA1 rl_260 (by decide); rw [tl_260] at q; exact q)); have o6 := hcs; have o7 := hdk; have o8 := (show v31.toInt = v28.toInt / 1048576 from (by have q := q_divP e31 c28z rl_1048576 (by decide); rw [tl_1048576] at q; exact q)); have o9 := (q_addN (lo := 1) (hi := 260) e49 r_3 rl_1 (by decide)).1; have o10 := c54; have o11 := c60; have o12 := c97; have o13 := iO135; have o14 := hle; have o15 := iD16; have o16 := c19; have o17 := (q_subN (lo := (-1)) (hi := 259) e141 r16_3 rl_1 (by decide)).1; have o18 := r16_3; have o19 := r_3; have o20 := r_5; have o21 := r_28; have o22 := r_31; have o23 := c28z; have o24 := r_27; have o25 := r_29; have o26 := r_30; have o27 := r_2; have o28 := rA1; have o29 := r_6; have l30 := tl_1; have l31 := tl_10; have l32 := tl_260; have l33 := tl_1048576; unfold q_r at o18 o19 o20 o21 o22 o23 o24 o25 o26 o27 o28 o29; omega), (by have o0 := (q_addN (lo := 0) (hi := 1048835) e162 r_5 r_29 (by decide)).1; have o1 := (by have q := (q_mulN (lo := 0) (hi := 260) e10 rl_260 r_2 (by decide)).1; rw [tl_260] at q; exact q); have o2 := (q_remP e43 c28z rl_1048576 (by decide)).2.2; have o3 := (show v43.toInt = v28.toInt % 1048576 from (by have q := (q_remP e43 c28z rl_1048576 (by decide)).1; rw [tl_1048576] at q; exact q)); have o4 := (q_remL e43 c28z rl_1048576 (by decide)); have o5 := (show v9.toInt = x1.toInt / 260 from (by have q := q_divP e9 rA1 rl_260 (by decide); rw [tl_260] at q; exact q)); have o6 := hcs; have o7 := hdk; have o8 := (show v31.toInt = v28.toInt / 1048576 from (by have q := q_divP e31 c28z rl_1048576 (by decide); rw [tl_1048576] at q; exact q)); have o9 := (q_addN (lo := 1) (hi := 260) e49 r_3 rl_1 (by decide)).1; have o10 := c54; have o11 := c60; have o12 := c97; have o13 := iO135; have o14 := hle; have o15 := iD16; have o16 := c19; have o17 := (q_subN (lo := (-1)) (hi := 259) e141 r16_3 rl_1 (by decide)).1; have o18 := r16_3; have o19 := r_3; have o20 := r_5; have o21 := r_28; have o22 := r_31; have o23 := c28z; have o24 := r_27; have o25 := r_29; have o26 := r_30; have o27 := r_2; have o28 := rA1; have o29 := r_6; have l30 := tl_1; have l31 := tl_10; have l32 := tl_260; have l33 := tl_1048576; unfold q_r at o18 o19 o20 o21 o22 o23 o24 o25 o26 o27 o28 o29; omega)⟩) hS16 (by have o0 := hle; have o1 := (show v9.toInt = x1.toInt / 260 from (by have q := q_divP e9 rA1 rl_260 (by decide); rw [tl_260] at q; exact q)); have o2 := (by have q := (q_mulN (lo := 0) (hi := 260) e10 rl_260 r_2 (by decide)).1; rw [tl_260] at q; exact q); have o3 := iD16; have o4 := c19; have o5 := hcs; have o6 := hdk; have o7 := (show v31.toInt = v28.toInt / 1048576 from (by have q := q_divP e31 c28z rl_1048576 (by decide); rw [tl_1048576] at q; exact q)); have o8 := (q_remP e43 c28z rl_1048576 (by decide)).2.2; have o9 := (show v43.toInt = v28.toInt % 1048576 from (by have q := (q_remP e43 c28z rl_1048576 (by decide)).1; rw [tl_1048576] at q; exact q)); have o10 := (q_remL e43 c28z rl_1048576 (by decide)); have o11 := (q_addN (lo := 1) (hi := 260) e49 r_3 rl_1 (by decide)).1; have o12 := c54; have o13 := c60; have o14 := c97; have o15 := iO135; have o16 := (q_subN (lo := (-1)) (hi := 259) e141 r16_3 rl_1 (by decide)).1; have o17 := (q_addN (lo := 0) (hi := 1048835) e162 r_5 r_29 (by decide)).1; have o18 := r16_3; have o19 := r_3; have o20 := r_5; have o21 := r_28; have o22 := r_31; have o23 := c28z; have o24 := r_27; have o25 := r_29; have o26 := r_30; have o27 := r_2; have o28 := rA1; have o29 := r_6; have l30 := tl_1; have l31 := tl_10; have l32 := tl_260; have l33 := tl_1048576; unfold q_r at o18 o19 o20 o21 o22 o23 o24 o25 o26 o27 o28 o29; have e1 : (v162.toInt).toNat = (v28.toInt % 1048576).toNat := (by omega); rw [e1]; omega) hF
            refine q_icmp_ne (pc := 147) hG 154 dX12_comesTo_147 rfl ?_ ?_
            · intro c147
              replace hF := fx_eq2 hF rfl tl_12 c147
              refine q_iconst (pc := 154) hG dX12_comesTo_154 ki_0 ?_
              refine q_lv [0, 1, 2, 3, 4, 6] rfl ?_
              exact J155 0 (q_r.mono rl_0 (by decide)) (by rw [tl_0]; exact hF)
            intro c147
            replace hF := fx_eq1 hF rfl tl_12 c147
            refine q_iconst (pc := 150) hG dX12_comesTo_150 ki_1 ?_
            refine q_goto (pc := 151) 155 hG dX12_comesTo_151 rfl ?_
            refine q_lv [0, 1, 2, 3, 4, 6] rfl ?_
            exact J155 1 (q_r.mono rl_1 (by decide)) (by rw [tl_1]; exact hF)
          refine q_icmp_eq (pc := 125) hG 135 dX12_comesTo_125 rfl ?_ ?_
          · intro c125
            replace hF := fx_eq1 hF rfl tl_11 c125
            refine q_lv [3, 4, 5, 6, 0, 2, 1] rfl ?_
            have r_32 := q_req rl_11 c125
            have r_33 := q_r.mono (c := 0) (d := 1048575) (q_remP e43 c28z rl_1048576 (by decide)).2.1 (by decide)
            have r_34 := (q_addN (lo := 1) (hi := 260) e49 r_3 rl_1 (by decide)).2
            exact J135 (by have o0 := (show v31.toInt = v28.toInt / 1048576 from (by have q := q_divP e31 c28z rl_1048576 (by decide); rw [tl_1048576] at q; exact q)); have o1 := (q_remP e43 c28z rl_1048576 (by decide)).2.2; have o2 := (show v43.toInt = v28.toInt % 1048576 from (by have q := (q_remP e43 c28z rl_1048576 (by decide)).1; rw [tl_1048576] at q; exact q)); have o3 := (q_remL e43 c28z rl_1048576 (by decide)); have o4 := c54; have o5 := c60; have o6 := c97; have o7 := c125; have o8 := hcs; have o9 := hdk; have o10 := (q_addN (lo := 1) (hi := 260) e49 r_3 rl_1 (by decide)).1; have o11 := iD16; have o12 := c19; have o13 := hle; have o14 := (show v9.toInt = x1.toInt / 260 from (by have q := q_divP e9 rA1 rl_260 (by decide); rw [tl_260] at q; exact q)); have o15 := (by have q := (q_mulN (lo := 0) (hi := 260) e10 rl_260 r_2 (by decide)).1; rw [tl_260] at q; exact q); have o16 := r16_3; have o17 := r_3; have o18 := r_5; have o19 := c28z; have o20 := r_32; have o21 := r_33; have o22 := r_34; have o23 := r_2; have o24 := rA1; have o25 := r_6; have l26 := tl_1; have l27 := tl_10; have l28 := tl_11; have l29 := tl_260; have l30 := tl_1048576; unfold q_r at o16 o17 o18 o19 o20 o21 o22 o23 o24 o25; omega) hF
          intro c125
          replace hF := fx_eq2 hF rfl tl_11 c125
          refine q_iload (pc := 128) hG dX12_comesTo_128 2 rfl ?_
          refine q_bipush (pc := 130) hG dX12_comesTo_130 kb_12 ?_
          refine q_icmp_ne (pc := 132) hG 175 dX12_comesTo_132 rfl ?_ ?_
          · intro c132
            replace hF := fx_eq2 hF rfl tl_12 c132
            refine q_iload_n (pc := 175) hG dX12_comesTo_175 5 rfl ?_
            refine q_iconst (pc := 176) hG dX12_comesTo_176 ki_1 ?_
            refine q_isub (pc := 177) hG dX12_comesTo_177 (fun v177 e177 => ?_)
            replace hF := fx_sub hF rfl tl_1 (q_subN (lo := (-1)) (hi := 259) e177 r16_3 rl_1 (by decide)).1
            refine q_istore_n (pc := 178) [(3, .int v177), (5, .int v49), (7, .int v43), (6, .int v31), (0, .ref a0), (2, .int x2), (4, .int v10)] hG dX12_comesTo_178 (by decide) rfl ?_
            refine q_iload (pc := 179) hG dX12_comesTo_179 3 rfl ?_
            refine q_iconst (pc := 181) hG dX12_comesTo_181 ki_5 ?_
            have J203 : (∀ y : Int32, σ16 q_1b v177.toInt.toNat = .int y → (v31.toInt = 5 ∨ v31.toInt = 6) → y.toInt ≠ 0) → (fx_eq Fv (kJ_X12_comesTo_203 v177.toInt (fx_N σ16) q_1b v31.toInt (kL_X12_comesTo_16 x2.toInt bc q_1b a0 v10.toInt n16) v49.toInt)) → q_O X 0 0 τ σ16 203 [(0, .ref a0), (2, .int x2), (3, .int v177), (4, .int v10), (5, .int v49), (6, .int v31)] [] := by
              intro iZ203 hF
              unfold kJ_X12_comesTo_203 at hF
              refine q_aload_n (pc := 203) hG dX12_comesTo_203 0 rfl ?_
              refine q_getV (pc := 204) (v := .ref q_1b) hG fl_X12_59 dX12_comesTo_204 tA0 (hS16.same tA0 rfl q_1f) ?_
              refine q_iload_n (pc := 207) hG dX12_comesTo_207 2 rfl ?_
              refine q_iconst (pc := 208) hG dX12_comesTo_208 ki_1 ?_
              refine q_isub (pc := 209) hG dX12_comesTo_209 (fun v209 e209 => ?_)
              have r_35 := (q_subN (lo := (-1)) (hi := 259) e177 r16_3 rl_1 (by decide)).2
              replace hF := fx_sub hF rfl tl_1 (q_subN (lo := (-2)) (hi := 258) e209 r_35 rl_1 (by decide)).1
              refine q_iload (pc := 210) hG dX12_comesTo_210 5 rfl ?_
              refine q_aload_n (pc := 212) hG dX12_comesTo_212 0 rfl ?_
              refine q_getV (pc := 213) (v := .ref q_1b) hG fl_X12_59 dX12_comesTo_213 tA0 (hS16.same tA0 rfl q_1f) ?_
              refine q_iload_n (pc := 216) hG dX12_comesTo_216 2 rfl ?_
              refine q_iconst (pc := 217) hG dX12_comesTo_217 ki_1 ?_
              refine q_isub (pc := 218) hG dX12_comesTo_218 (fun v218 e218 => ?_)
              rw [e218.trans e209.symm]
              have r_36 := (q_subN (lo := (-2)) (hi := 258) e209 r_35 rl_1 (by decide)).2
              have r_37 := q_r.mono (c := 0) (d := 1048575) (q_remP e43 c28z rl_1048576 (by decide)).2.1 (by decide)
              have r_38 := (q_addN (lo := 1) (hi := 260) e49 r_3 rl_1 (by decide)).2
              refine q_iald (pc := 219) hG dX12_comesTo_219 hS16.1 ai_162 q_1T (by have o0 := (q_subN (lo := (-2)) (hi := 258) e209 r_35 rl_1 (by decide)).1; have o1 := (q_subN (lo := (-1)) (hi := 259) e177 r16_3 rl_1 (by decide)).1; have o2 := iD16; have o3 := c19; have o4 := hcs; have o5 := hdk; have o6 := (show v31.toInt = v28.toInt / 1048576 from (by have q := q_divP e31 c28z rl_1048576 (by decide); rw [tl_1048576] at q; exact q)); have o7 := (q_remP e43 c28z rl_1048576 (by decide)).2.2; have o8 := (show v43.toInt = v28.toInt % 1048576 from (by have q := (q_remP e43 c28z rl_1048576 (by decide)).1; rw [tl_1048576] at q; exact q)); have o9 := (q_remL e43 c28z rl_1048576 (by decide)); have o10 := (q_addN (lo := 1) (hi := 260) e49 r_3 rl_1 (by decide)).1; have o11 := c54; have o12 := c60; have o13 := c97; have o14 := c125; have o15 := c132; have o16 := hle; have o17 := (show v9.toInt = x1.toInt / 260 from (by have q := q_divP e9 rA1 rl_260 (by decide); rw [tl_260] at q; exact q)); have o18 := (by have q := (q_mulN (lo := 0) (hi := 260) e10 rl_260 r_2 (by decide)).1; rw [tl_260] at q; exact q); have o19 := r16_3; have o20 := r_3; have o21 := r_5; have o22 := r_35; have o23 := r_36; have o24 := c28z; have o25 := r_27; have o26 := r_37; have o27 := r_38; have o28 := r_2; have o29 := rA1; have o30 := r_6; have l31 := tl_1; have l32 := tl_10; have l33 := tl_11; have l34 := tl_12; have l35 := tl_260; have l36 := tl_1048576; unfold q_r at o19 o20 o21 o22 o23 o24 o25 o26 o27 o28 o29 o30; omega) (fun v219 f219 g219 => ?_)
              replace hF := fx_I hF f219 rfl
              refine q_aload_n (pc := 220) hG dX12_comesTo_220 0 rfl ?_
              refine q_getV (pc := 221) (v := .ref q_1b) hG fl_X12_59 dX12_comesTo_221 tA0 (hS16.same tA0 rfl q_1f) ?_
              refine q_iload_n (pc := 224) hG dX12_comesTo_224 2 rfl ?_
              refine q_iald (pc := 225) hG dX12_comesTo_225 hS16.1 ai_162 q_1T (by have o0 := (q_subN (lo := (-1)) (hi := 259) e177 r16_3 rl_1 (by decide)).1; have o1 := (q_subN (lo := (-2)) (hi := 258) e209 r_35 rl_1 (by decide)).1; have o2 := iD16; have o3 := c19; have o4 := hcs; have o5 := hdk; have o6 := (show v31.toInt = v28.toInt / 1048576 from (by have q := q_divP e31 c28z rl_1048576 (by decide); rw [tl_1048576] at q; exact q)); have o7 := (q_remP e43 c28z rl_1048576 (by decide)).2.2; have o8 := (show v43.toInt = v28.toInt % 1048576 from (by have q := (q_remP e43 c28z rl_1048576 (by decide)).1; rw [tl_1048576] at q; exact q)); have o9 := (q_remL e43 c28z rl_1048576 (by decide)); have o10 := (q_addN (lo := 1) (hi := 260) e49 r_3 rl_1 (by decide)).1; have o11 := c54; have o12 := c60; have o13 := c97; have o14 := c125; have o15 := c132; have o16 := hle; have o17 := (show v9.toInt = x1.toInt / 260 from (by have q := q_divP e9 rA1 rl_260 (by decide); rw [tl_260] at q; exact q)); have o18 := (by have q := (q_mulN (lo := 0) (hi := 260) e10 rl_260 r_2 (by decide)).1; rw [tl_260] at q; exact q); have o19 := r16_3; have o20 := r_3; have o21 := r_5; have o22 := r_35; have o23 := r_36; have o24 := c28z; have o25 := r_27; have o26 := r_37; have o27 := r_38; have o28 := r_2; have o29 := rA1; have o30 := r_6; have l31 := tl_1; have l32 := tl_10; have l33 := tl_11; have l34 := tl_12; have l35 := tl_260; have l36 := tl_1048576; unfold q_r at o19 o20 o21 o22 o23 o24 o25 o26 o27 o28 o29 o30; omega) (fun v225 f225 g225 => ?_)
              replace hF := fx_I hF f225 rfl
              refine q_pS (pc := 226) [.int v31, .int v219, .int v225] [.int v209, .ref q_1b] hG (c_X12_reckon τ σ16 v31 v219 v225 hS16.1 (fun q => iZ203 v225 f225 q)) my_X12_reckon w991 w990 dX12_comesTo_226 rfl rfl (Nat.le_of_ble_eq_true rfl) (by decide) (fun v226 p226 => ?_)
              replace hF := fx_E hF p226.2
              refine q_iast (pc := 229) hG dX12_comesTo_229 hS16 ai_162 q_1T (by have o0 := (q_subN (lo := (-2)) (hi := 258) e209 r_35 rl_1 (by decide)).1; have o1 := (q_subN (lo := (-1)) (hi := 259) e177 r16_3 rl_1 (by decide)).1; have o2 := iD16; have o3 := c19; have o4 := hcs; have o5 := hdk; have o6 := (show v31.toInt = v28.toInt / 1048576 from (by have q := q_divP e31 c28z rl_1048576 (by decide); rw [tl_1048576] at q; exact q)); have o7 := (q_remP e43 c28z rl_1048576 (by decide)).2.2; have o8 := (show v43.toInt = v28.toInt % 1048576 from (by have q := (q_remP e43 c28z rl_1048576 (by decide)).1; rw [tl_1048576] at q; exact q)); have o9 := (q_remL e43 c28z rl_1048576 (by decide)); have o10 := (q_addN (lo := 1) (hi := 260) e49 r_3 rl_1 (by decide)).1; have o11 := c54; have o12 := c60; have o13 := c97; have o14 := c125; have o15 := c132; have o16 := hle; have o17 := (show v9.toInt = x1.toInt / 260 from (by have q := q_divP e9 rA1 rl_260 (by decide); rw [tl_260] at q; exact q)); have o18 := (by have q := (q_mulN (lo := 0) (hi := 260) e10 rl_260 r_2 (by decide)).1; rw [tl_260] at q; exact q); have o19 := r16_3; have o20 := r_3; have o21 := r_5; have o22 := r_35; have o23 := r_36; have o24 := c28z; have o25 := r_27; have o26 := r_37; have o27 := r_38; have o28 := r_2; have o29 := rA1; have o30 := r_6; have l31 := tl_1; have l32 := tl_10; have l33 := tl_11; have l34 := tl_12; have l35 := tl_260; have l36 := tl_1048576; unfold q_r at o19 o20 o21 o22 o23 o24 o25 o26 o27 o28 o29 o30; omega) p226.1 (by decide) rfl (fun s229 u229 w229 => ?_)
              replace hF := fx_P hF u229 rfl rfl
              have m229 : s229 q_1b v209.toInt.toNat = .int v226 := by rw [u229]; exact q_up_same
              refine q_lv [0, 1, 2, 3, 4] rfl ?_
              exact J230 v177 v49 s229 (show q_r v177 0 260 from ⟨(by have o0 := (q_subN (lo := (-1)) (hi := 259) e177 r16_3 rl_1 (by decide)).1; have o1 := (q_subN (lo := (-2)) (hi := 258) e209 r_35 rl_1 (by decide)).1; have o2 := iD16; have o3 := c19; have o4 := hcs; have o5 := hdk; have o6 := (show v31.toInt = v28.toInt / 1048576 from (by have q := q_divP e31 c28z rl_1048576 (by decide); rw [tl_1048576] at q; exact q)); have o7 := (q_remP e43 c28z rl_1048576 (by decide)).2.2; have o8 := (show v43.toInt = v28.toInt % 1048576 from (by have q := (q_remP e43 c28z rl_1048576 (by decide)).1; rw [tl_1048576] at q; exact q)); have o9 := (q_remL e43 c28z rl_1048576 (by decide)); have o10 := (q_addN (lo := 1) (hi := 260) e49 r_3 rl_1 (by decide)).1; have o11 := c54; have o12 := c60; have o13 := c97; have o14 := c125; have o15 := c132; have o16 := hle; have o17 := (show v9.toInt = x1.toInt / 260 from (by have q := q_divP e9 rA1 rl_260 (by decide); rw [tl_260] at q; exact q)); have o18 := (by have q := (q_mulN (lo := 0) (hi := 260) e10 rl_260 r_2 (by decide)).1; rw [tl_260] at q; exact q); have o19 := r16_3; have o20 := r_3; have o21 := r_5; have o22 := r_35; have o23 := r_36; have o24 := c28z; have o25 := r_27; have o26 := r_37; have o27 := r_38; have o28 := r_2; have o29 := rA1; have o30 := r_6; have l31 := tl_1; have l32 := tl_10; have l33 := tl_11; have l34 := tl_12; have l35 := tl_260; have l36 := tl_1048576; unfold q_r at o19 o20 o21 o22 o23 o24 o25 o26 o27 o28 o29 o30; omega), (by have o0 := (q_subN (lo := (-1)) (hi := 259) e177 r16_3 rl_1 (by decide)).1; have o1 := (q_subN (lo := (-2)) (hi := 258) e209 r_35 rl_1 (by decide)).1; have o2 := iD16; have o3 := c19; have o4 := hcs; have o5 := hdk; have o6 := (show v31.toInt = v28.toInt / 1048576 from (by have q := q_divP e31 c28z rl_1048576 (by decide); rw [tl_1048576] at q; exact q)); have o7 := (q_remP e43 c28z rl_1048576 (by decide)).2.2; have o8 := (show v43.toInt = v28.toInt % 1048576 from (by have q := (q_remP e43 c28z rl_1048576 (by decide)).1; rw [tl_1048576] at q; exact q)); have o9 := (q_remL e43 c28z rl_1048576 (by decide)); have o10 := (q_addN (lo := 1) (hi := 260) e49 r_3 rl_1 (by decide)).1; have o11 := c54; have o12 := c60; have o13 := c97; have o14 := c125; have o15 := c132; have o16 := hle; have o17 := (show v9.toInt = x1.toInt / 260 from (by have q := q_divP e9 rA1 rl_260 (by decide); rw [tl_260] at q; exact q)); have o18 := (by have q := (q_mulN (lo := 0) (hi := 260) e10 rl_260 r_2 (by decide)).1; rw [tl_260] at q; exact q); have o19 := r16_3; have o20 := r_3; have o21 := r_5; have o22 := r_35; have o23 := r_36; have o24 := c28z; have o25 := r_27; have o26 := r_37; have o27 := r_38; have o28 := r_2; have o29 := rA1; have o30 := r_6; have l31 := tl_1; have l32 := tl_10; have l33 := tl_11; have l34 := tl_12; have l35 := tl_260; have l36 := tl_1048576; unfold q_r at o19 o20 o21 o22 o23 o24 o25 o26 o27 o28 o29 o30; omega)⟩) (q_r.mono r_38 (by decide)) w229 (by have o0 := hle; have o1 := (show v9.toInt = x1.toInt / 260 from (by have q := q_divP e9 rA1 rl_260 (by decide); rw [tl_260] at q; exact q)); have o2 := (by have q := (q_mulN (lo := 0) (hi := 260) e10 rl_260 r_2 (by decide)).1; rw [tl_260] at q; exact q); have o3 := iD16; have o4 := c19; have o5 := hcs; have o6 := hdk; have o7 := (show v31.toInt = v28.toInt / 1048576 from (by have q := q_divP e31 c28z rl_1048576 (by decide); rw [tl_1048576] at q; exact q)); have o8 := (q_remP e43 c28z rl_1048576 (by decide)).2.2; have o9 := (show v43.toInt = v28.toInt % 1048576 from (by have q := (q_remP e43 c28z rl_1048576 (by decide)).1; rw [tl_1048576] at q; exact q)); have o10 := (q_remL e43 c28z rl_1048576 (by decide)); have o11 := (q_addN (lo := 1) (hi := 260) e49 r_3 rl_1 (by decide)).1; have o12 := c54; have o13 := c60; have o14 := c97; have o15 := c125; have o16 := c132; have o17 := (q_subN (lo := (-1)) (hi := 259) e177 r16_3 rl_1 (by decide)).1; have o18 := (q_subN (lo := (-2)) (hi := 258) e209 r_35 rl_1 (by decide)).1; have o19 := r16_3; have o20 := r_3; have o21 := r_5; have o22 := r_35; have o23 := r_36; have o24 := c28z; have o25 := r_27; have o26 := r_37; have o27 := r_38; have o28 := r_2; have o29 := rA1; have o30 := r_6; have l31 := tl_1; have l32 := tl_10; have l33 := tl_11; have l34 := tl_12; have l35 := tl_260; have l36 := tl_1048576; unfold q_r at o19 o20 o21 o22 o23 o24 o25 o26 o27 o28 o29 o30; have e1 : (v49.toInt).toNat = p16_5.toInt.toNat + 1 := (by omega); rw [e1]; omega) hF
            have J192 : (fx_eq Fv (kJ_X12_comesTo_192 (fx_N σ16) q_1b v177.toInt v31.toInt (kL_X12_comesTo_16 x2.toInt bc q_1b a0 v10.toInt n16) v49.toInt)) → q_O X 0 0 τ σ16 192 [(0, .ref a0), (2, .int x2), (3, .int v177), (4, .int v10), (5, .int v49), (6, .int v31)] [] := by
              intro hF
              unfold kJ_X12_comesTo_192 at hF
              refine q_aload_n (pc := 192) hG dX12_comesTo_192 0 rfl ?_
              refine q_getV (pc := 193) (v := .ref q_1b) hG fl_X12_59 dX12_comesTo_193 tA0 (hS16.same tA0 rfl q_1f) ?_
              refine q_iload_n (pc := 196) hG dX12_comesTo_196 2 rfl ?_
              have r_39 := (q_subN (lo := (-1)) (hi := 259) e177 r16_3 rl_1 (by decide)).2
              have r_40 := q_r.mono (c := 0) (d := 1048575) (q_remP e43 c28z rl_1048576 (by decide)).2.1 (by decide)
              have r_41 := (q_addN (lo := 1) (hi := 260) e49 r_3 rl_1 (by decide)).2
              refine q_iald (pc := 197) hG dX12_comesTo_197 hS16.1 ai_162 q_1T (by have o0 := (q_subN (lo := (-1)) (hi := 259) e177 r16_3 rl_1 (by decide)).1; have o1 := iD16; have o2 := c19; have o3 := hcs; have o4 := hdk; have o5 := (show v31.toInt = v28.toInt / 1048576 from (by have q := q_divP e31 c28z rl_1048576 (by decide); rw [tl_1048576] at q; exact q)); have o6 := (q_remP e43 c28z rl_1048576 (by decide)).2.2; have o7 := (show v43.toInt = v28.toInt % 1048576 from (by have q := (q_remP e43 c28z rl_1048576 (by decide)).1; rw [tl_1048576] at q; exact q)); have o8 := (q_remL e43 c28z rl_1048576 (by decide)); have o9 := (q_addN (lo := 1) (hi := 260) e49 r_3 rl_1 (by decide)).1; have o10 := c54; have o11 := c60; have o12 := c97; have o13 := c125; have o14 := c132; have o15 := hle; have o16 := (show v9.toInt = x1.toInt / 260 from (by have q := q_divP e9 rA1 rl_260 (by decide); rw [tl_260] at q; exact q)); have o17 := (by have q := (q_mulN (lo := 0) (hi := 260) e10 rl_260 r_2 (by decide)).1; rw [tl_260] at q; exact q); have o18 := r16_3; have o19 := r_3; have o20 := r_5; have o21 := r_39; have o22 := c28z; have o23 := r_27; have o24 := r_40; have o25 := r_41; have o26 := r_2; have o27 := rA1; have o28 := r_6; have l29 := tl_1; have l30 := tl_10; have l31 := tl_11; have l32 := tl_12; have l33 := tl_260; have l34 := tl_1048576; unfold q_r at o18 o19 o20 o21 o22 o23 o24 o25 o26 o27 o28; omega) (fun v197 f197 g197 => ?_)
              replace hF := fx_I hF f197 rfl
              refine q_if_ne (pc := 198) hG 203 dX12_comesTo_198 rfl ?_ ?_
              · intro c198
                replace hF := fx_eq2 hF rfl rfl c198
                refine q_lv [0, 1, 2, 3, 4, 5] rfl ?_
                exact J203 (fun y e q => by have q2 := e.symm.trans f197; cases q2; exact (by have o0 := c198; have o1 := g197; unfold q_r at o1; omega)) hF
              intro c198
              replace hF := fx_eq1 hF rfl rfl c198
              refine q_iconst (pc := 201) hG dX12_comesTo_201 ki_0 ?_
              exact q_irt hG hE dX12_comesTo_202 ⟨hS16, (q_r.mono rl_0 (by decide)), (by rw [tl_0]; exact fx_end hF hF0)⟩
            refine q_icmp_eq (pc := 182) hG 192 dX12_comesTo_182 rfl ?_ ?_
            · intro c182
              replace hF := fx_eq1 hF rfl tl_5 c182
              refine q_lv [4, 5, 0, 6, 1, 3] rfl ?_
              exact J192 hF
            intro c182
            replace hF := fx_eq2 hF rfl tl_5 c182
            refine q_iload (pc := 185) hG dX12_comesTo_185 3 rfl ?_
            refine q_bipush (pc := 187) hG dX12_comesTo_187 kb_6 ?_
            refine q_icmp_ne (pc := 189) hG 203 dX12_comesTo_189 rfl ?_ ?_
            · intro c189
              replace hF := fx_eq2 hF rfl tl_6 c189
              refine q_lv [4, 5, 0, 6, 1, 3] rfl ?_
              have r_42 := (q_subN (lo := (-1)) (hi := 259) e177 r16_3 rl_1 (by decide)).2
              have r_43 := q_r.mono (c := 0) (d := 1048575) (q_remP e43 c28z rl_1048576 (by decide)).2.1 (by decide)
              have r_44 := (q_addN (lo := 1) (hi := 260) e49 r_3 rl_1 (by decide)).2
              exact J203 (fun y e q => absurd q (by have o0 := (show v31.toInt = v28.toInt / 1048576 from (by have q := q_divP e31 c28z rl_1048576 (by decide); rw [tl_1048576] at q; exact q)); have o1 := (q_remP e43 c28z rl_1048576 (by decide)).2.2; have o2 := (show v43.toInt = v28.toInt % 1048576 from (by have q := (q_remP e43 c28z rl_1048576 (by decide)).1; rw [tl_1048576] at q; exact q)); have o3 := (q_remL e43 c28z rl_1048576 (by decide)); have o4 := c54; have o5 := c60; have o6 := c97; have o7 := c125; have o8 := c132; have o9 := c182; have o10 := c189; have o11 := hcs; have o12 := hdk; have o13 := (q_addN (lo := 1) (hi := 260) e49 r_3 rl_1 (by decide)).1; have o14 := iD16; have o15 := c19; have o16 := (q_subN (lo := (-1)) (hi := 259) e177 r16_3 rl_1 (by decide)).1; have o17 := hle; have o18 := (show v9.toInt = x1.toInt / 260 from (by have q := q_divP e9 rA1 rl_260 (by decide); rw [tl_260] at q; exact q)); have o19 := (by have q := (q_mulN (lo := 0) (hi := 260) e10 rl_260 r_2 (by decide)).1; rw [tl_260] at q; exact q); have o20 := r16_3; have o21 := r_3; have o22 := r_5; have o23 := r_42; have o24 := c28z; have o25 := r_27; have o26 := r_43; have o27 := r_44; have o28 := r_2; have o29 := rA1; have o30 := r_6; have l31 := tl_1; have l32 := tl_5; have l33 := tl_6; have l34 := tl_10; have l35 := tl_11; have l36 := tl_12; have l37 := tl_260; have l38 := tl_1048576; unfold q_r at o20 o21 o22 o23 o24 o25 o26 o27 o28 o29 o30; omega)) hF
            intro c189
            replace hF := fx_eq1 hF rfl tl_6 c189
            refine q_lv [4, 5, 0, 6, 1, 3] rfl ?_
            exact J192 hF
          intro c132
          replace hF := fx_eq1 hF rfl tl_12 c132
          refine q_lv [3, 4, 5, 6, 0, 2, 1] rfl ?_
          have r_45 := q_req rl_12 c132
          have r_46 := q_r.mono (c := 0) (d := 1048575) (q_remP e43 c28z rl_1048576 (by decide)).2.1 (by decide)
          have r_47 := (q_addN (lo := 1) (hi := 260) e49 r_3 rl_1 (by decide)).2
          exact J135 (by have o0 := (show v31.toInt = v28.toInt / 1048576 from (by have q := q_divP e31 c28z rl_1048576 (by decide); rw [tl_1048576] at q; exact q)); have o1 := (q_remP e43 c28z rl_1048576 (by decide)).2.2; have o2 := (show v43.toInt = v28.toInt % 1048576 from (by have q := (q_remP e43 c28z rl_1048576 (by decide)).1; rw [tl_1048576] at q; exact q)); have o3 := (q_remL e43 c28z rl_1048576 (by decide)); have o4 := c54; have o5 := c60; have o6 := c97; have o7 := c125; have o8 := c132; have o9 := hcs; have o10 := hdk; have o11 := (q_addN (lo := 1) (hi := 260) e49 r_3 rl_1 (by decide)).1; have o12 := iD16; have o13 := c19; have o14 := hle; have o15 := (show v9.toInt = x1.toInt / 260 from (by have q := q_divP e9 rA1 rl_260 (by decide); rw [tl_260] at q; exact q)); have o16 := (by have q := (q_mulN (lo := 0) (hi := 260) e10 rl_260 r_2 (by decide)).1; rw [tl_260] at q; exact q); have o17 := r16_3; have o18 := r_3; have o19 := r_5; have o20 := c28z; have o21 := r_45; have o22 := r_46; have o23 := r_47; have o24 := r_2; have o25 := rA1; have o26 := r_6; have l27 := tl_1; have l28 := tl_10; have l29 := tl_11; have l30 := tl_12; have l31 := tl_260; have l32 := tl_1048576; unfold q_r at o17 o18 o19 o20 o21 o22 o23 o24 o25 o26; omega) hF
        intro c97
        have r_48 := q_neL (c := 2) r_26 (q_nel c60 tl_1) (by decide)
        replace hF := fx_eq1 hF rfl tl_10 c97
        refine q_aload_n (pc := 100) hG dX12_comesTo_100 3 rfl ?_
        refine q_getV (pc := 101) (v := .ref q_1b) hG fl_X12_59 dX12_comesTo_101 tA0 (hS16.same tA0 rfl q_1f) ?_
        refine q_iload_n (pc := 104) hG dX12_comesTo_104 5 rfl ?_
        refine q_iconst (pc := 105) hG dX12_comesTo_105 ki_1 ?_
        refine q_isub (pc := 106) hG dX12_comesTo_106 (fun v106 e106 => ?_)
        replace hF := fx_sub hF rfl tl_1 (q_subN (lo := (-1)) (hi := 259) e106 r16_3 rl_1 (by decide)).1
        refine q_iconst (pc := 107) hG dX12_comesTo_107 ki_1 ?_
        refine q_aload_n (pc := 108) hG dX12_comesTo_108 3 rfl ?_
        refine q_getV (pc := 109) (v := .ref q_1b) hG fl_X12_59 dX12_comesTo_109 tA0 (hS16.same tA0 rfl q_1f) ?_
        refine q_iload_n (pc := 112) hG dX12_comesTo_112 5 rfl ?_
        refine q_iconst (pc := 113) hG dX12_comesTo_113 ki_1 ?_
        refine q_isub (pc := 114) hG dX12_comesTo_114 (fun v114 e114 => ?_)
        rw [e114.trans e106.symm]
        have r_49 := (q_subN (lo := (-1)) (hi := 259) e106 r16_3 rl_1 (by decide)).2
        have r_50 := q_req rl_10 c97
        have r_51 := q_r.mono (c := 0) (d := 1048575) (q_remP e43 c28z rl_1048576 (by decide)).2.1 (by decide)
        have r_52 := (q_addN (lo := 1) (hi := 260) e49 r_3 rl_1 (by decide)).2
        refine q_iald (pc := 115) hG dX12_comesTo_115 hS16.1 ai_162 q_1T (by have o0 := (q_subN (lo := (-1)) (hi := 259) e106 r16_3 rl_1 (by decide)).1; have o1 := iD16; have o2 := c19; have o3 := hcs; have o4 := hdk; have o5 := (show v31.toInt = v28.toInt / 1048576 from (by have q := q_divP e31 c28z rl_1048576 (by decide); rw [tl_1048576] at q; exact q)); have o6 := (q_remP e43 c28z rl_1048576 (by decide)).2.2; have o7 := (show v43.toInt = v28.toInt % 1048576 from (by have q := (q_remP e43 c28z rl_1048576 (by decide)).1; rw [tl_1048576] at q; exact q)); have o8 := (q_remL e43 c28z rl_1048576 (by decide)); have o9 := (q_addN (lo := 1) (hi := 260) e49 r_3 rl_1 (by decide)).1; have o10 := c54; have o11 := c60; have o12 := c97; have o13 := hle; have o14 := (show v9.toInt = x1.toInt / 260 from (by have q := q_divP e9 rA1 rl_260 (by decide); rw [tl_260] at q; exact q)); have o15 := (by have q := (q_mulN (lo := 0) (hi := 260) e10 rl_260 r_2 (by decide)).1; rw [tl_260] at q; exact q); have o16 := r16_3; have o17 := r_3; have o18 := r_5; have o19 := r_49; have o20 := c28z; have o21 := r_50; have o22 := r_51; have o23 := r_52; have o24 := r_2; have o25 := rA1; have o26 := r_6; have l27 := tl_1; have l28 := tl_10; have l29 := tl_260; have l30 := tl_1048576; unfold q_r at o16 o17 o18 o19 o20 o21 o22 o23 o24 o25 o26; omega) (fun v115 f115 g115 => ?_)
        replace hF := fx_I hF f115 rfl
        refine q_isub (pc := 116) hG dX12_comesTo_116 (fun v116 e116 => ?_)
        replace hF := fx_B_sub hF tl_1 rfl e116
        refine q_iast (pc := 117) hG dX12_comesTo_117 hS16 ai_162 q_1T (by have o0 := (q_subN (lo := (-1)) (hi := 259) e106 r16_3 rl_1 (by decide)).1; have o1 := iD16; have o2 := c19; have o3 := hcs; have o4 := hdk; have o5 := (show v31.toInt = v28.toInt / 1048576 from (by have q := q_divP e31 c28z rl_1048576 (by decide); rw [tl_1048576] at q; exact q)); have o6 := (q_remP e43 c28z rl_1048576 (by decide)).2.2; have o7 := (show v43.toInt = v28.toInt % 1048576 from (by have q := (q_remP e43 c28z rl_1048576 (by decide)).1; rw [tl_1048576] at q; exact q)); have o8 := (q_remL e43 c28z rl_1048576 (by decide)); have o9 := (q_addN (lo := 1) (hi := 260) e49 r_3 rl_1 (by decide)).1; have o10 := c54; have o11 := c60; have o12 := c97; have o13 := hle; have o14 := (show v9.toInt = x1.toInt / 260 from (by have q := q_divP e9 rA1 rl_260 (by decide); rw [tl_260] at q; exact q)); have o15 := (by have q := (q_mulN (lo := 0) (hi := 260) e10 rl_260 r_2 (by decide)).1; rw [tl_260] at q; exact q); have o16 := r16_3; have o17 := r_3; have o18 := r_5; have o19 := r_49; have o20 := c28z; have o21 := r_50; have o22 := r_51; have o23 := r_52; have o24 := r_2; have o25 := rA1; have o26 := r_6; have l27 := tl_1; have l28 := tl_10; have l29 := tl_260; have l30 := tl_1048576; unfold q_r at o16 o17 o18 o19 o20 o21 o22 o23 o24 o25 o26; omega) (q_r_any v116) (by decide) rfl (fun s117 u117 w117 => ?_)
        replace hF := fx_P hF u117 rfl rfl
        have m117 : s117 q_1b v106.toInt.toNat = .int v116 := by rw [u117]; exact q_up_same
        refine q_goto (pc := 118) 230 hG dX12_comesTo_118 rfl ?_
        refine q_lv [3, 4, 5, 6, 0] rfl ?_
        exact J230 p16_3 v49 s117 r16_3 (q_r.mono r_52 (by decide)) w117 (by have o0 := hle; have o1 := (show v9.toInt = x1.toInt / 260 from (by have q := q_divP e9 rA1 rl_260 (by decide); rw [tl_260] at q; exact q)); have o2 := (by have q := (q_mulN (lo := 0) (hi := 260) e10 rl_260 r_2 (by decide)).1; rw [tl_260] at q; exact q); have o3 := iD16; have o4 := c19; have o5 := hcs; have o6 := hdk; have o7 := (show v31.toInt = v28.toInt / 1048576 from (by have q := q_divP e31 c28z rl_1048576 (by decide); rw [tl_1048576] at q; exact q)); have o8 := (q_remP e43 c28z rl_1048576 (by decide)).2.2; have o9 := (show v43.toInt = v28.toInt % 1048576 from (by have q := (q_remP e43 c28z rl_1048576 (by decide)).1; rw [tl_1048576] at q; exact q)); have o10 := (q_remL e43 c28z rl_1048576 (by decide)); have o11 := (q_addN (lo := 1) (hi := 260) e49 r_3 rl_1 (by decide)).1; have o12 := c54; have o13 := c60; have o14 := c97; have o15 := (q_subN (lo := (-1)) (hi := 259) e106 r16_3 rl_1 (by decide)).1; have o16 := r16_3; have o17 := r_3; have o18 := r_5; have o19 := r_49; have o20 := c28z; have o21 := r_50; have o22 := r_51; have o23 := r_52; have o24 := r_2; have o25 := rA1; have o26 := r_6; have l27 := tl_1; have l28 := tl_10; have l29 := tl_260; have l30 := tl_1048576; unfold q_r at o16 o17 o18 o19 o20 o21 o22 o23 o24 o25 o26; have e1 : (v49.toInt).toNat = p16_5.toInt.toNat + 1 := (by omega); rw [e1]; omega) hF
      intro c60
      have r_53 := q_neL (c := 1) r_25 c54 (by decide)
      replace hF := fx_eq1 hF rfl tl_1 c60
      refine q_lv [3, 4, 5, 6, 0, 2, 1] rfl ?_
      have r_54 := q_req rl_1 c60
      have r_55 := q_r.mono (c := 0) (d := 1048575) (q_remP e43 c28z rl_1048576 (by decide)).2.1 (by decide)
      have r_56 := (q_addN (lo := 1) (hi := 260) e49 r_3 rl_1 (by decide)).2
      exact J63 (by have o0 := (show v31.toInt = v28.toInt / 1048576 from (by have q := q_divP e31 c28z rl_1048576 (by decide); rw [tl_1048576] at q; exact q)); have o1 := (q_remP e43 c28z rl_1048576 (by decide)).2.2; have o2 := (show v43.toInt = v28.toInt % 1048576 from (by have q := (q_remP e43 c28z rl_1048576 (by decide)).1; rw [tl_1048576] at q; exact q)); have o3 := (q_remL e43 c28z rl_1048576 (by decide)); have o4 := c54; have o5 := c60; have o6 := hcs; have o7 := hdk; have o8 := (q_addN (lo := 1) (hi := 260) e49 r_3 rl_1 (by decide)).1; have o9 := iD16; have o10 := c19; have o11 := hle; have o12 := (show v9.toInt = x1.toInt / 260 from (by have q := q_divP e9 rA1 rl_260 (by decide); rw [tl_260] at q; exact q)); have o13 := (by have q := (q_mulN (lo := 0) (hi := 260) e10 rl_260 r_2 (by decide)).1; rw [tl_260] at q; exact q); have o14 := r16_3; have o15 := r_3; have o16 := r_5; have o17 := c28z; have o18 := r_54; have o19 := r_55; have o20 := r_56; have o21 := r_2; have o22 := rA1; have o23 := r_6; have l24 := tl_1; have l25 := tl_260; have l26 := tl_1048576; unfold q_r at o14 o15 o16 o17 o18 o19 o20 o21 o22 o23; omega) hF
  refine q_lv [3, 5, 2, 1, 0] rfl ?_
  have r_57 := (q_mulN (lo := 0) (hi := 260) e10 rl_260 r_2 (by decide)).2
  exact J16 ((260 - x1.toInt).toNat + 1) 0 x1 σ (q_r.mono rl_0 (by decide)) rA1 hS0 (by have o0 := hle; have o1 := (show v9.toInt = x1.toInt / 260 from (by have q := q_divP e9 rA1 rl_260 (by decide); rw [tl_260] at q; exact q)); have o2 := (by have q := (q_mulN (lo := 0) (hi := 260) e10 rl_260 r_2 (by decide)).1; rw [tl_260] at q; exact q); have o3 := r_57; have o4 := r_2; have o5 := rA1; have o6 := rA2; have l7 := tl_0; have l8 := tl_260; unfold q_r at o3 o4 o5 o6; have e1 := hd0; omega) (by rw [tl_0]; exact hF) (Nat.lt_succ_self _)
theorem dX12_byLaw_0 : decode cX12_byLaw 0 = .ok (.iconst 0, 1) := by decide +kernel
theorem dX12_byLaw_1 : decode cX12_byLaw 1 = .ok (.istore 4, 2) := by decide +kernel
theorem dX12_byLaw_3 : decode cX12_byLaw 3 = .ok (.iload 4, 2) := by decide +kernel
theorem dX12_byLaw_5 : decode cX12_byLaw 5 = .ok (.aload_n 0, 1) := by decide +kernel
theorem dX12_byLaw_6 : decode cX12_byLaw 6 = .ok (.getfield 233, 3) := by decide +kernel
theorem dX12_byLaw_9 : decode cX12_byLaw 9 = .ok (.if_icmp .ge 88, 3) := by decide +kernel
theorem dX12_byLaw_12 : decode cX12_byLaw 12 = .ok (.aload_n 0, 1) := by decide +kernel
theorem dX12_byLaw_13 : decode cX12_byLaw 13 = .ok (.getfield 44, 3) := by decide +kernel
theorem dX12_byLaw_16 : decode cX12_byLaw 16 = .ok (.iload 4, 2) := by decide +kernel
theorem dX12_byLaw_18 : decode cX12_byLaw 18 = .ok (.iaload, 1) := by decide +kernel
theorem dX12_byLaw_19 : decode cX12_byLaw 19 = .ok (.iload_n 1, 1) := by decide +kernel
theorem dX12_byLaw_20 : decode cX12_byLaw 20 = .ok (.if_icmp .ne 71, 3) := by decide +kernel
theorem dX12_byLaw_23 : decode cX12_byLaw 23 = .ok (.aload_n 0, 1) := by decide +kernel
theorem dX12_byLaw_24 : decode cX12_byLaw 24 = .ok (.aload_n 0, 1) := by decide +kernel
theorem dX12_byLaw_25 : decode cX12_byLaw 25 = .ok (.getfield 50, 3) := by decide +kernel
theorem dX12_byLaw_28 : decode cX12_byLaw 28 = .ok (.iload 4, 2) := by decide +kernel
theorem dX12_byLaw_30 : decode cX12_byLaw 30 = .ok (.iaload, 1) := by decide +kernel
theorem dX12_byLaw_31 : decode cX12_byLaw 31 = .ok (.aload_n 0, 1) := by decide +kernel
theorem dX12_byLaw_32 : decode cX12_byLaw 32 = .ok (.getfield 53, 3) := by decide +kernel
theorem dX12_byLaw_35 : decode cX12_byLaw 35 = .ok (.iload 4, 2) := by decide +kernel
theorem dX12_byLaw_37 : decode cX12_byLaw 37 = .ok (.iaload, 1) := by decide +kernel
theorem dX12_byLaw_38 : decode cX12_byLaw 38 = .ok (.invokevirtual 240, 3) := by decide +kernel
theorem dX12_byLaw_41 : decode cX12_byLaw 41 = .ok (.iconst 1, 1) := by decide +kernel
theorem dX12_byLaw_42 : decode cX12_byLaw 42 = .ok (.if_icmp .eq 6, 3) := by decide +kernel
theorem dX12_byLaw_45 : decode cX12_byLaw 45 = .ok (.goto 46, 3) := by decide +kernel
theorem dX12_byLaw_48 : decode cX12_byLaw 48 = .ok (.aload_n 0, 1) := by decide +kernel
theorem dX12_byLaw_49 : decode cX12_byLaw 49 = .ok (.aload_n 0, 1) := by decide +kernel
theorem dX12_byLaw_50 : decode cX12_byLaw 50 = .ok (.getfield 47, 3) := by decide +kernel
theorem dX12_byLaw_53 : decode cX12_byLaw 53 = .ok (.iload 4, 2) := by decide +kernel
theorem dX12_byLaw_55 : decode cX12_byLaw 55 = .ok (.iaload, 1) := by decide +kernel
theorem dX12_byLaw_56 : decode cX12_byLaw 56 = .ok (.aload_n 0, 1) := by decide +kernel
theorem dX12_byLaw_57 : decode cX12_byLaw 57 = .ok (.getfield 50, 3) := by decide +kernel
theorem dX12_byLaw_60 : decode cX12_byLaw 60 = .ok (.iload 4, 2) := by decide +kernel
theorem dX12_byLaw_62 : decode cX12_byLaw 62 = .ok (.iaload, 1) := by decide +kernel
theorem dX12_byLaw_63 : decode cX12_byLaw 63 = .ok (.invokevirtual 240, 3) := by decide +kernel
theorem dX12_byLaw_66 : decode cX12_byLaw 66 = .ok (.istore 5, 2) := by decide +kernel
theorem dX12_byLaw_68 : decode cX12_byLaw 68 = .ok (.iload 5, 2) := by decide +kernel
theorem dX12_byLaw_70 : decode cX12_byLaw 70 = .ok (.iload_n 2, 1) := by decide +kernel
theorem dX12_byLaw_71 : decode cX12_byLaw 71 = .ok (.if_icmp .ge 7, 3) := by decide +kernel
theorem dX12_byLaw_74 : decode cX12_byLaw 74 = .ok (.iload_n 2, 1) := by decide +kernel
theorem dX12_byLaw_75 : decode cX12_byLaw 75 = .ok (.goto 15, 3) := by decide +kernel
theorem dX12_byLaw_78 : decode cX12_byLaw 78 = .ok (.iload 5, 2) := by decide +kernel
theorem dX12_byLaw_80 : decode cX12_byLaw 80 = .ok (.iload_n 3, 1) := by decide +kernel
theorem dX12_byLaw_81 : decode cX12_byLaw 81 = .ok (.if_icmp .le 7, 3) := by decide +kernel
theorem dX12_byLaw_84 : decode cX12_byLaw 84 = .ok (.iload_n 3, 1) := by decide +kernel
theorem dX12_byLaw_85 : decode cX12_byLaw 85 = .ok (.goto 5, 3) := by decide +kernel
theorem dX12_byLaw_88 : decode cX12_byLaw 88 = .ok (.iload 5, 2) := by decide +kernel
theorem dX12_byLaw_90 : decode cX12_byLaw 90 = .ok (.ireturn, 1) := by decide +kernel
theorem dX12_byLaw_91 : decode cX12_byLaw 91 = .ok (.iinc 4 1, 3) := by decide +kernel
theorem dX12_byLaw_94 : decode cX12_byLaw 94 = .ok (.goto (-91), 3) := by decide +kernel
theorem dX12_byLaw_97 : decode cX12_byLaw 97 = .ok (.iload_n 2, 1) := by decide +kernel
theorem dX12_byLaw_98 : decode cX12_byLaw 98 = .ok (.ireturn, 1) := by decide +kernel
def md_X12_byLaw : List (Nat × Nat) := [(162, 0)]
set_option maxRecDepth 100000 in
set_option maxHeartbeats 4000000 in
theorem c_X12_byLaw {l : Launch} {D : q_D} (τ : q_T) (σ : q_V) (a0 : Nat) (x1 : Int32) (x2 : Int32) (x3 : Int32) (hI : q_I τ σ) (tA0 : τ a0 = some (10, 1)) (hW : q_wf σ a0) : q_Ci l D yX12_byLaw cX12_byLaw 6 (some .int) 2 49 τ σ [.ref a0, .int x1, .int x2, .int x3] (fun r σ1 => q_S md_X12_byLaw τ σ σ1 ∧ (q_r r (-2147483648) 2147483647) ∧ ((r.toInt, fx_N σ1) = f_X12_byLaw (fx_N σ) a0 x1.toInt x2.toInt x3.toInt) ∧ (x2.toInt ≤ x3.toInt → x2.toInt ≤ r.toInt ∧ r.toInt ≤ x3.toInt)) := by
  refine q_meti rfl (Nat.le_of_ble_eq_true rfl) (fun X hG hE => ?_)
  show q_O X 0 0 τ σ 0 [(0, .ref a0), (1, .int x1), (2, .int x2), (3, .int x3)] []
  have hS0 : q_S md_X12_byLaw τ σ σ := q_S.rf hI
  obtain ⟨Fv, hF⟩ : ∃ z, fx_eq z (f_X12_byLaw (fx_N σ) a0 x1.toInt x2.toInt x3.toInt) := ⟨_, fx_rf⟩
  have hF0 := hF
  unfold f_X12_byLaw at hF
  obtain ⟨bc, bf, bh, bt, nc, ⟨w1, t1⟩, ⟨w2, t2⟩, ⟨w3, t3⟩, ⟨w4, t4⟩, ⟨w5, r5⟩, w6⟩ := hW.read hI tA0
  replace hF := fx_R hF w1 rfl
  replace hF := fx_R hF w2 rfl
  replace hF := fx_R hF w3 rfl
  replace hF := fx_R hF w4 rfl
  replace hF := fx_I hF w5 rfl
  refine q_iconst (pc := 0) hG dX12_byLaw_0 ki_0 ?_
  refine q_istore (pc := 1) [(4, .int 0), (0, .ref a0), (1, .int x1), (2, .int x2), (3, .int x3)] hG dX12_byLaw_1 (by decide) rfl ?_
  have J3 : ∀ (n3 : Nat) (p3_4 : Int32) (σ3 : q_V), (q_r p3_4 0 16) → (q_S md_X12_byLaw τ σ σ3) → (fx_eq Fv (kL_X12_byLaw_3 nc.toInt a0 x1.toInt bh bt bf x2.toInt x3.toInt n3 p3_4.toInt (fx_N σ3))) → ((16 - p3_4.toInt).toNat < n3) → q_O X 0 0 τ σ3 3 [(0, .ref a0), (1, .int x1), (2, .int x2), (3, .int x3), (4, .int p3_4)] [] := by
    intro n3
    induction n3 with
    | zero => intro p3_4 σ3 r3_4 hS3 hF hm3; exact absurd hm3 (Nat.not_lt_zero _)
    | succ n3 ih3 =>
      intro p3_4 σ3 r3_4 hS3 hF hm3
      replace hF := (show fx_eq Fv (kB_X12_byLaw_3 (kL_X12_byLaw_3 nc.toInt a0 x1.toInt bh bt bf x2.toInt x3.toInt n3) nc.toInt a0 x1.toInt bh bt bf x2.toInt x3.toInt p3_4.toInt (fx_N σ3)) from hF)
      unfold kB_X12_byLaw_3 at hF
      refine q_iload (pc := 3) hG dX12_byLaw_3 4 rfl ?_
      refine q_aload_n (pc := 5) hG dX12_byLaw_5 0 rfl ?_
      refine q_getV (pc := 6) (v := .int nc) hG fl_X12_233 dX12_byLaw_6 tA0 (hS3.same tA0 rfl w5) ?_
      refine q_icmp_ge (pc := 9) hG 97 dX12_byLaw_9 rfl ?_ ?_
      · intro c9
        replace hF := fx_lt2 hF rfl rfl c9
        refine q_iload_n (pc := 97) hG dX12_byLaw_97 2 rfl ?_
        exact q_irt hG hE dX12_byLaw_98 ⟨hS3, (q_r_any x2), (fx_end hF hF0), (fun q => (by have o0 := q; omega))⟩
      intro c9
      replace hF := fx_lt1 hF rfl rfl c9
      refine q_aload_n (pc := 12) hG dX12_byLaw_12 0 rfl ?_
      refine q_getR (pc := 13) (k2 := 157) (n2 := 16) hG fl_X12_44 dX12_byLaw_13 hS3.1 tA0 ff_10_22 (fun b13 f13 T13 => ?_)
      replace hF := fx_R hF f13 rfl
      have f_1 := (hS3.2 _ _ _ _ tA0 rfl).symm.trans f13
      refine q_iload (pc := 16) hG dX12_byLaw_16 4 rfl ?_
      have r_2 := q_rlt r3_4 r5 c9 15 (by decide)
      refine q_iald (pc := 18) hG dX12_byLaw_18 hS3.1 ai_157 T13 (q_ix r_2 (by decide)) (fun v18 f18 g18 => ?_)
      replace hF := fx_I hF f18 rfl
      have f_3 := (hS3.2 _ _ _ _ T13 rfl).symm.trans f18
      refine q_iload_n (pc := 19) hG dX12_byLaw_19 1 rfl ?_
      have J91 : ∀ (σ91 : q_V), (q_S md_X12_byLaw τ σ σ91) → (fx_eq Fv (kJ_X12_byLaw_91 p3_4.toInt (kL_X12_byLaw_3 nc.toInt a0 x1.toInt bh bt bf x2.toInt x3.toInt n3) (fx_N σ91))) → q_O X 0 0 τ σ91 91 [(0, .ref a0), (1, .int x1), (2, .int x2), (3, .int x3), (4, .int p3_4)] [] := by
        intro σ91 hS91 hF
        unfold kJ_X12_byLaw_91 at hF
        obtain ⟨v91, e91⟩ : ∃ z : Int32, z = p3_4 + Int32.ofInt 1 := ⟨_, rfl⟩
        have h91 := q_incN (lo := 1) (hi := 16) r_2 (by decide) (by decide) e91
        replace hF := fx_add hF rfl rfl h91.1
        refine q_iinc (pc := 91) [(4, .int v91), (0, .ref a0), (1, .int x1), (2, .int x2), (3, .int x3)] hG dX12_byLaw_91 4 rfl e91 (by decide) rfl ?_
        refine q_goto (pc := 94) 3 hG dX12_byLaw_94 rfl ?_
        refine q_lv [1, 2, 3, 4, 0] rfl ?_
        have r_4 := q_rgt r5 r3_4 c9 1 (by decide)
        exact ih3 v91 σ91 (q_r.mono h91.2 (by decide)) hS91 hF (q_measU hm3 (by have o0 := c9; have o1 := h91.1; have o2 := r_4; have o3 := r_2; have o4 := h91.2; unfold q_r at o2 o3 o4; omega) (h91.2).2)
      refine q_icmp_ne (pc := 20) hG 91 dX12_byLaw_20 rfl ?_ ?_
      · intro c20
        replace hF := fx_eq2 hF rfl rfl c20
        refine q_lv [0, 1, 2, 3, 4] rfl ?_
        exact J91 σ3 hS3 hF
      intro c20
      replace hF := fx_eq1 hF rfl rfl c20
      refine q_aload_n (pc := 23) hG dX12_byLaw_23 0 rfl ?_
      refine q_aload_n (pc := 24) hG dX12_byLaw_24 0 rfl ?_
      refine q_getV (pc := 25) (v := .ref bh) hG fl_X12_50 dX12_byLaw_25 tA0 (hS3.same tA0 rfl w3) ?_
      refine q_iload (pc := 28) hG dX12_byLaw_28 4 rfl ?_
      refine q_iald (pc := 30) hG dX12_byLaw_30 hS3.1 ai_159 t3 (q_ix r_2 (by decide)) (fun v30 f30 g30 => ?_)
      replace hF := fx_I hF f30 rfl
      have f_5 := (hS3.2 _ _ _ _ t3 rfl).symm.trans f30
      refine q_aload_n (pc := 31) hG dX12_byLaw_31 0 rfl ?_
      refine q_getV (pc := 32) (v := .ref bt) hG fl_X12_53 dX12_byLaw_32 tA0 (hS3.same tA0 rfl w4) ?_
      refine q_iload (pc := 35) hG dX12_byLaw_35 4 rfl ?_
      refine q_iald (pc := 37) hG dX12_byLaw_37 hS3.1 ai_160 t4 (q_ix r_2 (by decide)) (fun v37 f37 g37 => ?_)
      replace hF := fx_I hF f37 rfl
      have f_6 := (hS3.2 _ _ _ _ t4 rfl).symm.trans f37
      have r_7 := q_rgt r5 r3_4 c9 1 (by decide)
      obtain ⟨cf, ch, ct, g1, g2, g3, g4, g5, g6, g7, g8, g9⟩ := w6 p3_4.toInt.toNat (by have o0 := c9; have o1 := r_7; have o2 := r_2; unfold q_r at o1 o2; omega)
      cases (f_5).symm.trans g2
      cases (f_6).symm.trans g3
      have z30 : q_r v30 0 260 := ⟨by omega, by omega⟩
      have z37 : q_r v37 0 260 := ⟨by omega, by omega⟩
      refine q_cVi (pc := 38) [.int v30, .int v37] [] hG (c_X12_comesTo τ σ3 a0 v30 v37 hS3.1 tA0 z30 z37 bc (hS3.same tA0 rfl w1) t1 g6 (q_seg.keep hS3.2 t1 rfl g9)) my_X12_comesTo mv_X12_comesTo w987 dX12_byLaw_38 tA0 (by decide) rfl rfl (Nat.le_of_ble_eq_true rfl) (by decide) (fun v38 s38 p38 => ?_)
      have w38 := hS3.trans p38.1 rfl
      replace hF := fx_C hF p38.2.2
      refine q_iconst (pc := 41) hG dX12_byLaw_41 ki_1 ?_
      refine q_icmp_eq (pc := 42) hG 48 dX12_byLaw_42 rfl ?_ ?_
      · intro c42
        replace hF := fx_eq1 hF rfl tl_1 c42
        refine q_aload_n (pc := 48) hG dX12_byLaw_48 0 rfl ?_
        refine q_aload_n (pc := 49) hG dX12_byLaw_49 0 rfl ?_
        refine q_getV (pc := 50) (v := .ref bf) hG fl_X12_47 dX12_byLaw_50 tA0 (w38.same tA0 rfl w2) ?_
        refine q_iload (pc := 53) hG dX12_byLaw_53 4 rfl ?_
        refine q_iald (pc := 55) hG dX12_byLaw_55 w38.1 ai_158 t2 (q_ix r_2 (by decide)) (fun v55 f55 g55 => ?_)
        replace hF := fx_I hF f55 rfl
        have f_8 := (w38.2 _ _ _ _ t2 rfl).symm.trans f55
        have q55 : cf = v55 := by cases (f_8).symm.trans g1; rfl
        have q56 : cf.toInt = v55.toInt := congrArg _ q55
        rw [q55] at g5 g8
        have z55 : q_r v55 0 260 := ⟨by omega, by omega⟩
        refine q_aload_n (pc := 56) hG dX12_byLaw_56 0 rfl ?_
        refine q_getV (pc := 57) (v := .ref bh) hG fl_X12_50 dX12_byLaw_57 tA0 (w38.same tA0 rfl w3) ?_
        refine q_iload (pc := 60) hG dX12_byLaw_60 4 rfl ?_
        refine q_ialdV (pc := 62) (v := .int v30) hG dX12_byLaw_62 t3 (by decide) (by decide) (q_ix r_2 (by decide)) (w38.same t3 rfl f_5) ?_
        refine q_cVi (pc := 63) [.int v55, .int v30] [] hG (c_X12_comesTo τ s38 a0 v55 v30 w38.1 tA0 z55 z30 bc (w38.same tA0 rfl w1) t1 g5 (q_seg.keep w38.2 t1 rfl g8)) my_X12_comesTo mv_X12_comesTo w987 dX12_byLaw_63 tA0 (by decide) rfl rfl (Nat.le_of_ble_eq_true rfl) (by decide) (fun v63 s63 p63 => ?_)
        have w63 := w38.trans p63.1 rfl
        replace hF := fx_C hF p63.2.2
        refine q_istore (pc := 66) [(5, .int v63), (0, .ref a0), (1, .int x1), (2, .int x2), (3, .int x3), (4, .int p3_4)] hG dX12_byLaw_66 (by decide) rfl ?_
        refine q_iload (pc := 68) hG dX12_byLaw_68 0 rfl ?_
        refine q_iload_n (pc := 70) hG dX12_byLaw_70 3 rfl ?_
        refine q_icmp_ge (pc := 71) hG 78 dX12_byLaw_71 rfl ?_ ?_
        · intro c71
          replace hF := fx_lt2 hF rfl rfl c71
          refine q_iload (pc := 78) hG dX12_byLaw_78 0 rfl ?_
          refine q_iload_n (pc := 80) hG dX12_byLaw_80 4 rfl ?_
          refine q_icmp_le (pc := 81) hG 88 dX12_byLaw_81 rfl ?_ ?_
          · intro c81
            replace hF := fx_lt2 hF rfl rfl c81
            refine q_iload (pc := 88) hG dX12_byLaw_88 0 rfl ?_
            exact q_irt hG hE dX12_byLaw_90 ⟨w63, p63.2.1, (fx_end hF hF0), (fun q => (by have o0 := c71; have o1 := c81; have o2 := p63.2.1; have o3 := q; unfold q_r at o2; omega))⟩
          intro c81
          replace hF := fx_lt1 hF rfl rfl c81
          refine q_iload_n (pc := 84) hG dX12_byLaw_84 4 rfl ?_
          refine q_goto (pc := 85) 90 hG dX12_byLaw_85 rfl ?_
          have r_9 := q_rlt (q_r_any x3) p63.2.1 c81 2147483646 (by decide)
          have r_10 := q_rgt p63.2.1 (q_r_any x3) c81 (-2147483647) (by decide)
          exact q_irt hG hE dX12_byLaw_90 ⟨w63, (q_r.mono r_9 (by decide)), (fx_end hF hF0), (fun q => (by have o0 := c71; have o1 := c81; have o2 := r_10; have o3 := r_9; have o4 := q; unfold q_r at o2 o3; omega))⟩
        intro c71
        replace hF := fx_lt1 hF rfl rfl c71
        refine q_iload_n (pc := 74) hG dX12_byLaw_74 3 rfl ?_
        refine q_goto (pc := 75) 90 hG dX12_byLaw_75 rfl ?_
        have r_11 := q_rgt (q_r_any x2) p63.2.1 c71 (-2147483647) (by decide)
        have r_12 := q_rlt p63.2.1 (q_r_any x2) c71 2147483646 (by decide)
        exact q_irt hG hE dX12_byLaw_90 ⟨w63, (q_r.mono r_11 (by decide)), (fx_end hF hF0), (fun q => (by have o0 := c71; have o1 := r_12; have o2 := r_11; have o3 := q; unfold q_r at o1 o2; omega))⟩
      intro c42
      replace hF := fx_eq2 hF rfl tl_1 c42
      refine q_goto (pc := 45) 91 hG dX12_byLaw_45 rfl ?_
      refine q_lv [0, 1, 2, 3, 4] rfl ?_
      exact J91 s38 w38 hF
  refine q_lv [1, 2, 3, 4, 0] rfl ?_
  exact J3 ((16 - (0 : Int32).toInt).toNat + 1) 0 σ (q_r.mono rl_0 (by decide)) hS0 (by rw [tl_0]; exact hF) (Nat.lt_succ_self _)
