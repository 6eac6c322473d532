/-! laid by wip/p2/build.py -/
theorem dX12_reckon_0 : decode cX12_reckon 0 = .ok (.iload_n 0, 1) := by decide +kernel
theorem dX12_reckon_1 : decode cX12_reckon 1 = .ok (.tableswitch 85 2 8 #[43, 47, 51, 55, 59, 63, 74], 43) := by decide +kernel
theorem dX12_reckon_44 : decode cX12_reckon 44 = .ok (.iload_n 1, 1) := by decide +kernel
theorem dX12_reckon_45 : decode cX12_reckon 45 = .ok (.iload_n 2, 1) := by decide +kernel
theorem dX12_reckon_46 : decode cX12_reckon 46 = .ok (.iadd, 1) := by decide +kernel
theorem dX12_reckon_47 : decode cX12_reckon 47 = .ok (.ireturn, 1) := by decide +kernel
theorem dX12_reckon_48 : decode cX12_reckon 48 = .ok (.iload_n 1, 1) := by decide +kernel
theorem dX12_reckon_49 : decode cX12_reckon 49 = .ok (.iload_n 2, 1) := by decide +kernel
theorem dX12_reckon_50 : decode cX12_reckon 50 = .ok (.isub, 1) := by decide +kernel
theorem dX12_reckon_51 : decode cX12_reckon 51 = .ok (.ireturn, 1) := by decide +kernel
theorem dX12_reckon_52 : decode cX12_reckon 52 = .ok (.iload_n 1, 1) := by decide +kernel
theorem dX12_reckon_53 : decode cX12_reckon 53 = .ok (.iload_n 2, 1) := by decide +kernel
theorem dX12_reckon_54 : decode cX12_reckon 54 = .ok (.imul, 1) := by decide +kernel
theorem dX12_reckon_55 : decode cX12_reckon 55 = .ok (.ireturn, 1) := by decide +kernel
theorem dX12_reckon_56 : decode cX12_reckon 56 = .ok (.iload_n 1, 1) := by decide +kernel
theorem dX12_reckon_57 : decode cX12_reckon 57 = .ok (.iload_n 2, 1) := by decide +kernel
theorem dX12_reckon_58 : decode cX12_reckon 58 = .ok (.idiv, 1) := by decide +kernel
theorem dX12_reckon_59 : decode cX12_reckon 59 = .ok (.ireturn, 1) := by decide +kernel
theorem dX12_reckon_60 : decode cX12_reckon 60 = .ok (.iload_n 1, 1) := by decide +kernel
theorem dX12_reckon_61 : decode cX12_reckon 61 = .ok (.iload_n 2, 1) := by decide +kernel
theorem dX12_reckon_62 : decode cX12_reckon 62 = .ok (.irem, 1) := by decide +kernel
theorem dX12_reckon_63 : decode cX12_reckon 63 = .ok (.ireturn, 1) := by decide +kernel
theorem dX12_reckon_64 : decode cX12_reckon 64 = .ok (.iload_n 1, 1) := by decide +kernel
theorem dX12_reckon_65 : decode cX12_reckon 65 = .ok (.iload_n 2, 1) := by decide +kernel
theorem dX12_reckon_66 : decode cX12_reckon 66 = .ok (.if_icmp .ge 7, 3) := by decide +kernel
theorem dX12_reckon_69 : decode cX12_reckon 69 = .ok (.iconst 1, 1) := by decide +kernel
theorem dX12_reckon_70 : decode cX12_reckon 70 = .ok (.goto 4, 3) := by decide +kernel
theorem dX12_reckon_73 : decode cX12_reckon 73 = .ok (.iconst 0, 1) := by decide +kernel
theorem dX12_reckon_74 : decode cX12_reckon 74 = .ok (.ireturn, 1) := by decide +kernel
theorem dX12_reckon_75 : decode cX12_reckon 75 = .ok (.iload_n 1, 1) := by decide +kernel
theorem dX12_reckon_76 : decode cX12_reckon 76 = .ok (.iload_n 2, 1) := by decide +kernel
theorem dX12_reckon_77 : decode cX12_reckon 77 = .ok (.if_icmp .le 7, 3) := by decide +kernel
theorem dX12_reckon_80 : decode cX12_reckon 80 = .ok (.iconst 1, 1) := by decide +kernel
theorem dX12_reckon_81 : decode cX12_reckon 81 = .ok (.goto 4, 3) := by decide +kernel
theorem dX12_reckon_84 : decode cX12_reckon 84 = .ok (.iconst 0, 1) := by decide +kernel
theorem dX12_reckon_85 : decode cX12_reckon 85 = .ok (.ireturn, 1) := by decide +kernel
theorem dX12_reckon_86 : decode cX12_reckon 86 = .ok (.iload_n 1, 1) := by decide +kernel
theorem dX12_reckon_87 : decode cX12_reckon 87 = .ok (.iload_n 2, 1) := by decide +kernel
theorem dX12_reckon_88 : decode cX12_reckon 88 = .ok (.if_icmp .ne 7, 3) := by decide +kernel
theorem dX12_reckon_91 : decode cX12_reckon 91 = .ok (.iconst 1, 1) := by decide +kernel
theorem dX12_reckon_92 : decode cX12_reckon 92 = .ok (.goto 4, 3) := by decide +kernel
theorem dX12_reckon_95 : decode cX12_reckon 95 = .ok (.iconst 0, 1) := by decide +kernel
theorem dX12_reckon_96 : decode cX12_reckon 96 = .ok (.ireturn, 1) := by decide +kernel
set_option maxRecDepth 100000 in
set_option maxHeartbeats 4000000 in
theorem c_X12_reckon {l : Launch} {D : q_D} (τ : q_T) (σ : q_V) (x0 : Int32) (x1 : Int32) (x2 : Int32) (hI : q_I τ σ) (hz : x0.toInt = 5 ∨ x0.toInt = 6 → x2.toInt ≠ 0) : q_Cp l D yX12_reckon cX12_reckon 3 (some .int) 0 0 τ σ [.int x0, .int x1, .int x2] (fun r => q_r r (-2147483648) 2147483647) := by
  refine q_meti rfl (Nat.le_of_ble_eq_true rfl) (fun X hG hE => ?_)
  show q_O X 0 0 τ σ 0 [(0, .int x0), (1, .int x1), (2, .int x2)] []
  refine q_iload_n (pc := 0) hG dX12_reckon_0 0 rfl ?_
  by_cases z1_2 : x0.toInt = 2
  · skip
    refine q_tsIn (pc := 1) 2 44 hG dX12_reckon_1 z1_2 (by decide) rfl rfl ?_
    refine q_iload_n (pc := 44) hG dX12_reckon_44 1 rfl ?_
    refine q_iload_n (pc := 45) hG dX12_reckon_45 2 rfl ?_
    refine q_iadd (pc := 46) hG dX12_reckon_46 (fun v46 e46 => ?_)
    exact q_irt hG hE dX12_reckon_47 ⟨rfl, (q_r_any v46)⟩
  by_cases z1_3 : x0.toInt = 3
  · skip
    refine q_tsIn (pc := 1) 3 48 hG dX12_reckon_1 z1_3 (by decide) rfl rfl ?_
    refine q_iload_n (pc := 48) hG dX12_reckon_48 1 rfl ?_
    refine q_iload_n (pc := 49) hG dX12_reckon_49 2 rfl ?_
    refine q_isub (pc := 50) hG dX12_reckon_50 (fun v50 e50 => ?_)
    exact q_irt hG hE dX12_reckon_51 ⟨rfl, (q_r_any v50)⟩
  by_cases z1_4 : x0.toInt = 4
  · skip
    refine q_tsIn (pc := 1) 4 52 hG dX12_reckon_1 z1_4 (by decide) rfl rfl ?_
    refine q_iload_n (pc := 52) hG dX12_reckon_52 1 rfl ?_
    refine q_iload_n (pc := 53) hG dX12_reckon_53 2 rfl ?_
    refine q_imul (pc := 54) hG dX12_reckon_54 (fun v54 e54 => ?_)
    exact q_irt hG hE dX12_reckon_55 ⟨rfl, (q_r_any v54)⟩
  by_cases z1_5 : x0.toInt = 5
  · skip
    refine q_tsIn (pc := 1) 5 56 hG dX12_reckon_1 z1_5 (by decide) rfl rfl ?_
    refine q_iload_n (pc := 56) hG dX12_reckon_56 1 rfl ?_
    refine q_iload_n (pc := 57) hG dX12_reckon_57 2 rfl ?_
    refine q_idiv (pc := 58) hG dX12_reckon_58 (q_nz (hz (by omega))) (fun v58 e58 => ?_)
    exact q_irt hG hE dX12_reckon_59 ⟨rfl, (q_r_any v58)⟩
  by_cases z1_6 : x0.toInt = 6
  · skip
    refine q_tsIn (pc := 1) 6 60 hG dX12_reckon_1 z1_6 (by decide) rfl rfl ?_
    refine q_iload_n (pc := 60) hG dX12_reckon_60 1 rfl ?_
    refine q_iload_n (pc := 61) hG dX12_reckon_61 2 rfl ?_
    refine q_irem (pc := 62) hG dX12_reckon_62 (q_nz (hz (by omega))) (fun v62 e62 => ?_)
    exact q_irt hG hE dX12_reckon_63 ⟨rfl, (q_r_any v62)⟩
  by_cases z1_7 : x0.toInt = 7
  · skip
    refine q_tsIn (pc := 1) 7 64 hG dX12_reckon_1 z1_7 (by decide) rfl rfl ?_
    refine q_iload_n (pc := 64) hG dX12_reckon_64 1 rfl ?_
    refine q_iload_n (pc := 65) hG dX12_reckon_65 2 rfl ?_
    refine q_icmp_ge (pc := 66) hG 73 dX12_reckon_66 rfl ?_ ?_
    · intro c66
      refine q_iconst (pc := 73) hG dX12_reckon_73 ki_0 ?_
      exact q_irt hG hE dX12_reckon_74 ⟨rfl, (q_r.mono rl_0 (by decide))⟩
    intro c66
    refine q_iconst (pc := 69) hG dX12_reckon_69 ki_1 ?_
    refine q_goto (pc := 70) 74 hG dX12_reckon_70 rfl ?_
    exact q_irt hG hE dX12_reckon_74 ⟨rfl, (q_r.mono rl_1 (by decide))⟩
  by_cases z1_8 : x0.toInt = 8
  · skip
    refine q_tsIn (pc := 1) 8 75 hG dX12_reckon_1 z1_8 (by decide) rfl rfl ?_
    refine q_iload_n (pc := 75) hG dX12_reckon_75 1 rfl ?_
    refine q_iload_n (pc := 76) hG dX12_reckon_76 2 rfl ?_
    refine q_icmp_le (pc := 77) hG 84 dX12_reckon_77 rfl ?_ ?_
    · intro c77
      refine q_iconst (pc := 84) hG dX12_reckon_84 ki_0 ?_
      exact q_irt hG hE dX12_reckon_85 ⟨rfl, (q_r.mono rl_0 (by decide))⟩
    intro c77
    refine q_iconst (pc := 80) hG dX12_reckon_80 ki_1 ?_
    refine q_goto (pc := 81) 85 hG dX12_reckon_81 rfl ?_
    exact q_irt hG hE dX12_reckon_85 ⟨rfl, (q_r.mono rl_1 (by decide))⟩
  refine q_tsOut (pc := 1) 86 hG dX12_reckon_1 (by have q := (q_r_any x0); unfold q_r at q; omega) rfl ?_
  refine q_iload_n (pc := 86) hG dX12_reckon_86 1 rfl ?_
  refine q_iload_n (pc := 87) hG dX12_reckon_87 2 rfl ?_
  refine q_icmp_ne (pc := 88) hG 95 dX12_reckon_88 rfl ?_ ?_
  · intro c88
    refine q_iconst (pc := 95) hG dX12_reckon_95 ki_0 ?_
    exact q_irt hG hE dX12_reckon_96 ⟨rfl, (q_r.mono rl_0 (by decide))⟩
  intro c88
  refine q_iconst (pc := 91) hG dX12_reckon_91 ki_1 ?_
  refine q_goto (pc := 92) 96 hG dX12_reckon_92 rfl ?_
  exact q_irt hG hE dX12_reckon_96 ⟨rfl, (q_r.mono rl_1 (by decide))⟩
-- FAIL yX12_comesTo
