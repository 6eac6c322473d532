/-! laid by wip/p2/build.py -/
theorem dX4_isTimes_0 : decode cX4_isTimes 0 = .ok (.iload_n 0, 1) := by decide +kernel
theorem dX4_isTimes_1 : decode cX4_isTimes 1 = .ok (.bipush 42, 2) := by decide +kernel
theorem dX4_isTimes_3 : decode cX4_isTimes 3 = .ok (.if_icmp .eq 15, 3) := by decide +kernel
theorem dX4_isTimes_6 : decode cX4_isTimes 6 = .ok (.iload_n 0, 1) := by decide +kernel
theorem dX4_isTimes_7 : decode cX4_isTimes 7 = .ok (.bipush 47, 2) := by decide +kernel
theorem dX4_isTimes_9 : decode cX4_isTimes 9 = .ok (.if_icmp .eq 9, 3) := by decide +kernel
theorem dX4_isTimes_12 : decode cX4_isTimes 12 = .ok (.iload_n 0, 1) := by decide +kernel
theorem dX4_isTimes_13 : decode cX4_isTimes 13 = .ok (.bipush 37, 2) := by decide +kernel
theorem dX4_isTimes_15 : decode cX4_isTimes 15 = .ok (.if_icmp .ne 7, 3) := by decide +kernel
theorem dX4_isTimes_18 : decode cX4_isTimes 18 = .ok (.iconst 1, 1) := by decide +kernel
theorem dX4_isTimes_19 : decode cX4_isTimes 19 = .ok (.goto 4, 3) := by decide +kernel
theorem dX4_isTimes_22 : decode cX4_isTimes 22 = .ok (.iconst 0, 1) := by decide +kernel
theorem dX4_isTimes_23 : decode cX4_isTimes 23 = .ok (.ireturn, 1) := by decide +kernel
set_option maxRecDepth 100000 in
set_option maxHeartbeats 4000000 in
theorem c_X4_isTimes {l : Launch} {D : q_D} (τ : q_T) (σ : q_V) (x0 : Int32) (hI : q_I τ σ) : q_Cp l D yX4_isTimes cX4_isTimes 1 (some .boolean) 0 0 τ σ [.int x0] (fun r => (q_r r 0 1) ∧ (r.toInt = f_X4_isTimes (fx_N σ) x0.toInt)) := by
  refine q_meti rfl (Nat.le_of_ble_eq_true rfl) (fun X hG hE => ?_)
  show q_O X 0 0 τ σ 0 [(0, .int x0)] []
  obtain ⟨Fv, hF⟩ : ∃ z, fx_eq z (f_X4_isTimes (fx_N σ) x0.toInt) := ⟨_, fx_rf⟩
  have hF0 := hF
  unfold f_X4_isTimes at hF
  refine q_iload_n (pc := 0) hG dX4_isTimes_0 0 rfl ?_
  refine q_bipush (pc := 1) hG dX4_isTimes_1 kb_42 ?_
  refine q_icmp_eq (pc := 3) hG 18 dX4_isTimes_3 rfl ?_ ?_
  · intro c3
    replace hF := fx_eq1 hF rfl tl_42 c3
    refine q_iconst (pc := 18) hG dX4_isTimes_18 ki_1 ?_
    refine q_goto (pc := 19) 23 hG dX4_isTimes_19 rfl ?_
    exact q_zrt hG hE dX4_isTimes_23 (q_r.mono rl_1 (by decide)) ⟨rfl, (q_r.mono rl_1 (by decide)), (by rw [tl_1]; exact fx_end hF hF0)⟩
  intro c3
  replace hF := fx_eq2 hF rfl tl_42 c3
  refine q_iload_n (pc := 6) hG dX4_isTimes_6 0 rfl ?_
  refine q_bipush (pc := 7) hG dX4_isTimes_7 kb_47 ?_
  refine q_icmp_eq (pc := 9) hG 18 dX4_isTimes_9 rfl ?_ ?_
  · intro c9
    replace hF := fx_eq1 hF rfl tl_47 c9
    refine q_iconst (pc := 18) hG dX4_isTimes_18 ki_1 ?_
    refine q_goto (pc := 19) 23 hG dX4_isTimes_19 rfl ?_
    exact q_zrt hG hE dX4_isTimes_23 (q_r.mono rl_1 (by decide)) ⟨rfl, (q_r.mono rl_1 (by decide)), (by rw [tl_1]; exact fx_end hF hF0)⟩
  intro c9
  replace hF := fx_eq2 hF rfl tl_47 c9
  refine q_iload_n (pc := 12) hG dX4_isTimes_12 0 rfl ?_
  refine q_bipush (pc := 13) hG dX4_isTimes_13 kb_37 ?_
  refine q_icmp_ne (pc := 15) hG 22 dX4_isTimes_15 rfl ?_ ?_
  · intro c15
    replace hF := fx_eq2 hF rfl tl_37 c15
    refine q_iconst (pc := 22) hG dX4_isTimes_22 ki_0 ?_
    exact q_zrt hG hE dX4_isTimes_23 (q_r.mono rl_0 (by decide)) ⟨rfl, (q_r.mono rl_0 (by decide)), (by rw [tl_0]; exact fx_end hF hF0)⟩
  intro c15
  replace hF := fx_eq1 hF rfl tl_37 c15
  refine q_iconst (pc := 18) hG dX4_isTimes_18 ki_1 ?_
  refine q_goto (pc := 19) 23 hG dX4_isTimes_19 rfl ?_
  exact q_zrt hG hE dX4_isTimes_23 (q_r.mono rl_1 (by decide)) ⟨rfl, (q_r.mono rl_1 (by decide)), (by rw [tl_1]; exact fx_end hF hF0)⟩
theorem dX4_isValueLetter_0 : decode cX4_isValueLetter 0 = .ok (.iload_n 0, 1) := by decide +kernel
theorem dX4_isValueLetter_1 : decode cX4_isValueLetter 1 = .ok (.tableswitch 109 97 119 #[107, 109, 107, 109, 109, 109, 109, 107, 107, 109, 107, 109, 109, 107, 109, 109, 109, 107, 109, 107, 109, 109, 107], 107) := by decide +kernel
theorem dX4_isValueLetter_108 : decode cX4_isValueLetter 108 = .ok (.iconst 1, 1) := by decide +kernel
theorem dX4_isValueLetter_109 : decode cX4_isValueLetter 109 = .ok (.ireturn, 1) := by decide +kernel
theorem dX4_isValueLetter_110 : decode cX4_isValueLetter 110 = .ok (.iconst 0, 1) := by decide +kernel
theorem dX4_isValueLetter_111 : decode cX4_isValueLetter 111 = .ok (.ireturn, 1) := by decide +kernel
set_option maxRecDepth 100000 in
set_option maxHeartbeats 4000000 in
theorem c_X4_isValueLetter {l : Launch} {D : q_D} (τ : q_T) (σ : q_V) (x0 : Int32) (hI : q_I τ σ) : q_Cp l D yX4_isValueLetter cX4_isValueLetter 1 (some .boolean) 0 0 τ σ [.int x0] (fun r => (q_r r 0 1) ∧ (r.toInt = f_X4_isValueLetter (fx_N σ) x0.toInt)) := by
  refine q_meti rfl (Nat.le_of_ble_eq_true rfl) (fun X hG hE => ?_)
  show q_O X 0 0 τ σ 0 [(0, .int x0)] []
  obtain ⟨Fv, hF⟩ : ∃ z, fx_eq z (f_X4_isValueLetter (fx_N σ) x0.toInt) := ⟨_, fx_rf⟩
  have hF0 := hF
  unfold f_X4_isValueLetter at hF
  refine q_iload_n (pc := 0) hG dX4_isValueLetter_0 0 rfl ?_
  by_cases z1_97 : x0.toInt = 97
  · skip
    replace hF := fx_eq1 hF rfl rfl z1_97
    refine q_tsIn (pc := 1) 97 108 hG dX4_isValueLetter_1 z1_97 (by decide) rfl rfl ?_
    refine q_iconst (pc := 108) hG dX4_isValueLetter_108 ki_1 ?_
    exact q_zrt hG hE dX4_isValueLetter_109 (q_r.mono rl_1 (by decide)) ⟨rfl, (q_r.mono rl_1 (by decide)), (by rw [tl_1]; exact fx_end hF hF0)⟩
  by_cases z1_98 : x0.toInt = 98
  · skip
    replace hF := fx_eq2 hF rfl rfl z1_97
    replace hF := fx_eq1 hF rfl rfl z1_98
    refine q_tsIn (pc := 1) 98 110 hG dX4_isValueLetter_1 z1_98 (by decide) rfl rfl ?_
    refine q_iconst (pc := 110) hG dX4_isValueLetter_110 ki_0 ?_
    exact q_zrt hG hE dX4_isValueLetter_111 (q_r.mono rl_0 (by decide)) ⟨rfl, (q_r.mono rl_0 (by decide)), (by rw [tl_0]; exact fx_end hF hF0)⟩
  by_cases z1_99 : x0.toInt = 99
  · skip
    replace hF := fx_eq2 hF rfl rfl z1_97
    replace hF := fx_eq2 hF rfl rfl z1_98
    replace hF := fx_eq1 hF rfl rfl z1_99
    refine q_tsIn (pc := 1) 99 108 hG dX4_isValueLetter_1 z1_99 (by decide) rfl rfl ?_
    refine q_iconst (pc := 108) hG dX4_isValueLetter_108 ki_1 ?_
    exact q_zrt hG hE dX4_isValueLetter_109 (q_r.mono rl_1 (by decide)) ⟨rfl, (q_r.mono rl_1 (by decide)), (by rw [tl_1]; exact fx_end hF hF0)⟩
  by_cases z1_100 : x0.toInt = 100
  · skip
    replace hF := fx_eq2 hF rfl rfl z1_97
    replace hF := fx_eq2 hF rfl rfl z1_98
    replace hF := fx_eq2 hF rfl rfl z1_99
    replace hF := fx_eq1 hF rfl rfl z1_100
    refine q_tsIn (pc := 1) 100 110 hG dX4_isValueLetter_1 z1_100 (by decide) rfl rfl ?_
    refine q_iconst (pc := 110) hG dX4_isValueLetter_110 ki_0 ?_
    exact q_zrt hG hE dX4_isValueLetter_111 (q_r.mono rl_0 (by decide)) ⟨rfl, (q_r.mono rl_0 (by decide)), (by rw [tl_0]; exact fx_end hF hF0)⟩
  by_cases z1_101 : x0.toInt = 101
  · skip
    replace hF := fx_eq2 hF rfl rfl z1_97
    replace hF := fx_eq2 hF rfl rfl z1_98
    replace hF := fx_eq2 hF rfl rfl z1_99
    replace hF := fx_eq2 hF rfl rfl z1_100
    replace hF := fx_eq1 hF rfl rfl z1_101
    refine q_tsIn (pc := 1) 101 110 hG dX4_isValueLetter_1 z1_101 (by decide) rfl rfl ?_
    refine q_iconst (pc := 110) hG dX4_isValueLetter_110 ki_0 ?_
    exact q_zrt hG hE dX4_isValueLetter_111 (q_r.mono rl_0 (by decide)) ⟨rfl, (q_r.mono rl_0 (by decide)), (by rw [tl_0]; exact fx_end hF hF0)⟩
  by_cases z1_102 : x0.toInt = 102
  · skip
    replace hF := fx_eq2 hF rfl rfl z1_97
    replace hF := fx_eq2 hF rfl rfl z1_98
    replace hF := fx_eq2 hF rfl rfl z1_99
    replace hF := fx_eq2 hF rfl rfl z1_100
    replace hF := fx_eq2 hF rfl rfl z1_101
    replace hF := fx_eq1 hF rfl rfl z1_102
    refine q_tsIn (pc := 1) 102 110 hG dX4_isValueLetter_1 z1_102 (by decide) rfl rfl ?_
    refine q_iconst (pc := 110) hG dX4_isValueLetter_110 ki_0 ?_
    exact q_zrt hG hE dX4_isValueLetter_111 (q_r.mono rl_0 (by decide)) ⟨rfl, (q_r.mono rl_0 (by decide)), (by rw [tl_0]; exact fx_end hF hF0)⟩
  by_cases z1_103 : x0.toInt = 103
  · skip
    replace hF := fx_eq2 hF rfl rfl z1_97
    replace hF := fx_eq2 hF rfl rfl z1_98
    replace hF := fx_eq2 hF rfl rfl z1_99
    replace hF := fx_eq2 hF rfl rfl z1_100
    replace hF := fx_eq2 hF rfl rfl z1_101
    replace hF := fx_eq2 hF rfl rfl z1_102
    replace hF := fx_eq1 hF rfl rfl z1_103
    refine q_tsIn (pc := 1) 103 110 hG dX4_isValueLetter_1 z1_103 (by decide) rfl rfl ?_
    refine q_iconst (pc := 110) hG dX4_isValueLetter_110 ki_0 ?_
    exact q_zrt hG hE dX4_isValueLetter_111 (q_r.mono rl_0 (by decide)) ⟨rfl, (q_r.mono rl_0 (by decide)), (by rw [tl_0]; exact fx_end hF hF0)⟩
  by_cases z1_104 : x0.toInt = 104
  · skip
    replace hF := fx_eq2 hF rfl rfl z1_97
    replace hF := fx_eq2 hF rfl rfl z1_98
    replace hF := fx_eq2 hF rfl rfl z1_99
    replace hF := fx_eq2 hF rfl rfl z1_100
    replace hF := fx_eq2 hF rfl rfl z1_101
    replace hF := fx_eq2 hF rfl rfl z1_102
    replace hF := fx_eq2 hF rfl rfl z1_103
    replace hF := fx_eq1 hF rfl rfl z1_104
    refine q_tsIn (pc := 1) 104 108 hG dX4_isValueLetter_1 z1_104 (by decide) rfl rfl ?_
    refine q_iconst (pc := 108) hG dX4_isValueLetter_108 ki_1 ?_
    exact q_zrt hG hE dX4_isValueLetter_109 (q_r.mono rl_1 (by decide)) ⟨rfl, (q_r.mono rl_1 (by decide)), (by rw [tl_1]; exact fx_end hF hF0)⟩
  by_cases z1_105 : x0.toInt = 105
  · skip
    replace hF := fx_eq2 hF rfl rfl z1_97
    replace hF := fx_eq2 hF rfl rfl z1_98
    replace hF := fx_eq2 hF rfl rfl z1_99
    replace hF := fx_eq2 hF rfl rfl z1_100
    replace hF := fx_eq2 hF rfl rfl z1_101
    replace hF := fx_eq2 hF rfl rfl z1_102
    replace hF := fx_eq2 hF rfl rfl z1_103
    replace hF := fx_eq2 hF rfl rfl z1_104
    replace hF := fx_eq1 hF rfl rfl z1_105
    refine q_tsIn (pc := 1) 105 108 hG dX4_isValueLetter_1 z1_105 (by decide) rfl rfl ?_
    refine q_iconst (pc := 108) hG dX4_isValueLetter_108 ki_1 ?_
    exact q_zrt hG hE dX4_isValueLetter_109 (q_r.mono rl_1 (by decide)) ⟨rfl, (q_r.mono rl_1 (by decide)), (by rw [tl_1]; exact fx_end hF hF0)⟩
  by_cases z1_106 : x0.toInt = 106
  · skip
    replace hF := fx_eq2 hF rfl rfl z1_97
    replace hF := fx_eq2 hF rfl rfl z1_98
    replace hF := fx_eq2 hF rfl rfl z1_99
    replace hF := fx_eq2 hF rfl rfl z1_100
    replace hF := fx_eq2 hF rfl rfl z1_101
    replace hF := fx_eq2 hF rfl rfl z1_102
    replace hF := fx_eq2 hF rfl rfl z1_103
    replace hF := fx_eq2 hF rfl rfl z1_104
    replace hF := fx_eq2 hF rfl rfl z1_105
    replace hF := fx_eq1 hF rfl rfl z1_106
    refine q_tsIn (pc := 1) 106 110 hG dX4_isValueLetter_1 z1_106 (by decide) rfl rfl ?_
    refine q_iconst (pc := 110) hG dX4_isValueLetter_110 ki_0 ?_
    exact q_zrt hG hE dX4_isValueLetter_111 (q_r.mono rl_0 (by decide)) ⟨rfl, (q_r.mono rl_0 (by decide)), (by rw [tl_0]; exact fx_end hF hF0)⟩
  by_cases z1_107 : x0.toInt = 107
  · skip
    replace hF := fx_eq2 hF rfl rfl z1_97
    replace hF := fx_eq2 hF rfl rfl z1_98
    replace hF := fx_eq2 hF rfl rfl z1_99
    replace hF := fx_eq2 hF rfl rfl z1_100
    replace hF := fx_eq2 hF rfl rfl z1_101
    replace hF := fx_eq2 hF rfl rfl z1_102
    replace hF := fx_eq2 hF rfl rfl z1_103
    replace hF := fx_eq2 hF rfl rfl z1_104
    replace hF := fx_eq2 hF rfl rfl z1_105
    replace hF := fx_eq2 hF rfl rfl z1_106
    replace hF := fx_eq1 hF rfl rfl z1_107
    refine q_tsIn (pc := 1) 107 108 hG dX4_isValueLetter_1 z1_107 (by decide) rfl rfl ?_
    refine q_iconst (pc := 108) hG dX4_isValueLetter_108 ki_1 ?_
    exact q_zrt hG hE dX4_isValueLetter_109 (q_r.mono rl_1 (by decide)) ⟨rfl, (q_r.mono rl_1 (by decide)), (by rw [tl_1]; exact fx_end hF hF0)⟩
  by_cases z1_108 : x0.toInt = 108
  · skip
    replace hF := fx_eq2 hF rfl rfl z1_97
    replace hF := fx_eq2 hF rfl rfl z1_98
    replace hF := fx_eq2 hF rfl rfl z1_99
    replace hF := fx_eq2 hF rfl rfl z1_100
    replace hF := fx_eq2 hF rfl rfl z1_101
    replace hF := fx_eq2 hF rfl rfl z1_102
    replace hF := fx_eq2 hF rfl rfl z1_103
    replace hF := fx_eq2 hF rfl rfl z1_104
    replace hF := fx_eq2 hF rfl rfl z1_105
    replace hF := fx_eq2 hF rfl rfl z1_106
    replace hF := fx_eq2 hF rfl rfl z1_107
    replace hF := fx_eq1 hF rfl rfl z1_108
    refine q_tsIn (pc := 1) 108 110 hG dX4_isValueLetter_1 z1_108 (by decide) rfl rfl ?_
    refine q_iconst (pc := 110) hG dX4_isValueLetter_110 ki_0 ?_
    exact q_zrt hG hE dX4_isValueLetter_111 (q_r.mono rl_0 (by decide)) ⟨rfl, (q_r.mono rl_0 (by decide)), (by rw [tl_0]; exact fx_end hF hF0)⟩
  by_cases z1_109 : x0.toInt = 109
  · skip
    replace hF := fx_eq2 hF rfl rfl z1_97
    replace hF := fx_eq2 hF rfl rfl z1_98
    replace hF := fx_eq2 hF rfl rfl z1_99
    replace hF := fx_eq2 hF rfl rfl z1_100
    replace hF := fx_eq2 hF rfl rfl z1_101
    replace hF := fx_eq2 hF rfl rfl z1_102
    replace hF := fx_eq2 hF rfl rfl z1_103
    replace hF := fx_eq2 hF rfl rfl z1_104
    replace hF := fx_eq2 hF rfl rfl z1_105
    replace hF := fx_eq2 hF rfl rfl z1_106
    replace hF := fx_eq2 hF rfl rfl z1_107
    replace hF := fx_eq2 hF rfl rfl z1_108
    replace hF := fx_eq1 hF rfl rfl z1_109
    refine q_tsIn (pc := 1) 109 110 hG dX4_isValueLetter_1 z1_109 (by decide) rfl rfl ?_
    refine q_iconst (pc := 110) hG dX4_isValueLetter_110 ki_0 ?_
    exact q_zrt hG hE dX4_isValueLetter_111 (q_r.mono rl_0 (by decide)) ⟨rfl, (q_r.mono rl_0 (by decide)), (by rw [tl_0]; exact fx_end hF hF0)⟩
  by_cases z1_110 : x0.toInt = 110
  · skip
    replace hF := fx_eq2 hF rfl rfl z1_97
    replace hF := fx_eq2 hF rfl rfl z1_98
    replace hF := fx_eq2 hF rfl rfl z1_99
    replace hF := fx_eq2 hF rfl rfl z1_100
    replace hF := fx_eq2 hF rfl rfl z1_101
    replace hF := fx_eq2 hF rfl rfl z1_102
    replace hF := fx_eq2 hF rfl rfl z1_103
    replace hF := fx_eq2 hF rfl rfl z1_104
    replace hF := fx_eq2 hF rfl rfl z1_105
    replace hF := fx_eq2 hF rfl rfl z1_106
    replace hF := fx_eq2 hF rfl rfl z1_107
    replace hF := fx_eq2 hF rfl rfl z1_108
    replace hF := fx_eq2 hF rfl rfl z1_109
    replace hF := fx_eq1 hF rfl rfl z1_110
    refine q_tsIn (pc := 1) 110 108 hG dX4_isValueLetter_1 z1_110 (by decide) rfl rfl ?_
    refine q_iconst (pc := 108) hG dX4_isValueLetter_108 ki_1 ?_
    exact q_zrt hG hE dX4_isValueLetter_109 (q_r.mono rl_1 (by decide)) ⟨rfl, (q_r.mono rl_1 (by decide)), (by rw [tl_1]; exact fx_end hF hF0)⟩
  by_cases z1_111 : x0.toInt = 111
  · skip
    replace hF := fx_eq2 hF rfl rfl z1_97
    replace hF := fx_eq2 hF rfl rfl z1_98
    replace hF := fx_eq2 hF rfl rfl z1_99
    replace hF := fx_eq2 hF rfl rfl z1_100
    replace hF := fx_eq2 hF rfl rfl z1_101
    replace hF := fx_eq2 hF rfl rfl z1_102
    replace hF := fx_eq2 hF rfl rfl z1_103
    replace hF := fx_eq2 hF rfl rfl z1_104
    replace hF := fx_eq2 hF rfl rfl z1_105
    replace hF := fx_eq2 hF rfl rfl z1_106
    replace hF := fx_eq2 hF rfl rfl z1_107
    replace hF := fx_eq2 hF rfl rfl z1_108
    replace hF := fx_eq2 hF rfl rfl z1_109
    replace hF := fx_eq2 hF rfl rfl z1_110
    replace hF := fx_eq1 hF rfl rfl z1_111
    refine q_tsIn (pc := 1) 111 110 hG dX4_isValueLetter_1 z1_111 (by decide) rfl rfl ?_
    refine q_iconst (pc := 110) hG dX4_isValueLetter_110 ki_0 ?_
    exact q_zrt hG hE dX4_isValueLetter_111 (q_r.mono rl_0 (by decide)) ⟨rfl, (q_r.mono rl_0 (by decide)), (by rw [tl_0]; exact fx_end hF hF0)⟩
  by_cases z1_112 : x0.toInt = 112
  · skip
    replace hF := fx_eq2 hF rfl rfl z1_97
    replace hF := fx_eq2 hF rfl rfl z1_98
    replace hF := fx_eq2 hF rfl rfl z1_99
    replace hF := fx_eq2 hF rfl rfl z1_100
    replace hF := fx_eq2 hF rfl rfl z1_101
    replace hF := fx_eq2 hF rfl rfl z1_102
    replace hF := fx_eq2 hF rfl rfl z1_103
    replace hF := fx_eq2 hF rfl rfl z1_104
    replace hF := fx_eq2 hF rfl rfl z1_105
    replace hF := fx_eq2 hF rfl rfl z1_106
    replace hF := fx_eq2 hF rfl rfl z1_107
    replace hF := fx_eq2 hF rfl rfl z1_108
    replace hF := fx_eq2 hF rfl rfl z1_109
    replace hF := fx_eq2 hF rfl rfl z1_110
    replace hF := fx_eq2 hF rfl rfl z1_111
    replace hF := fx_eq1 hF rfl rfl z1_112
    refine q_tsIn (pc := 1) 112 110 hG dX4_isValueLetter_1 z1_112 (by decide) rfl rfl ?_
    refine q_iconst (pc := 110) hG dX4_isValueLetter_110 ki_0 ?_
    exact q_zrt hG hE dX4_isValueLetter_111 (q_r.mono rl_0 (by decide)) ⟨rfl, (q_r.mono rl_0 (by decide)), (by rw [tl_0]; exact fx_end hF hF0)⟩
  by_cases z1_113 : x0.toInt = 113
  · skip
    replace hF := fx_eq2 hF rfl rfl z1_97
    replace hF := fx_eq2 hF rfl rfl z1_98
    replace hF := fx_eq2 hF rfl rfl z1_99
    replace hF := fx_eq2 hF rfl rfl z1_100
    replace hF := fx_eq2 hF rfl rfl z1_101
    replace hF := fx_eq2 hF rfl rfl z1_102
    replace hF := fx_eq2 hF rfl rfl z1_103
    replace hF := fx_eq2 hF rfl rfl z1_104
    replace hF := fx_eq2 hF rfl rfl z1_105
    replace hF := fx_eq2 hF rfl rfl z1_106
    replace hF := fx_eq2 hF rfl rfl z1_107
    replace hF := fx_eq2 hF rfl rfl z1_108
    replace hF := fx_eq2 hF rfl rfl z1_109
    replace hF := fx_eq2 hF rfl rfl z1_110
    replace hF := fx_eq2 hF rfl rfl z1_111
    replace hF := fx_eq2 hF rfl rfl z1_112
    replace hF := fx_eq1 hF rfl rfl z1_113
    refine q_tsIn (pc := 1) 113 110 hG dX4_isValueLetter_1 z1_113 (by decide) rfl rfl ?_
    refine q_iconst (pc := 110) hG dX4_isValueLetter_110 ki_0 ?_
    exact q_zrt hG hE dX4_isValueLetter_111 (q_r.mono rl_0 (by decide)) ⟨rfl, (q_r.mono rl_0 (by decide)), (by rw [tl_0]; exact fx_end hF hF0)⟩
  by_cases z1_114 : x0.toInt = 114
  · skip
    replace hF := fx_eq2 hF rfl rfl z1_97
    replace hF := fx_eq2 hF rfl rfl z1_98
    replace hF := fx_eq2 hF rfl rfl z1_99
    replace hF := fx_eq2 hF rfl rfl z1_100
    replace hF := fx_eq2 hF rfl rfl z1_101
    replace hF := fx_eq2 hF rfl rfl z1_102
    replace hF := fx_eq2 hF rfl rfl z1_103
    replace hF := fx_eq2 hF rfl rfl z1_104
    replace hF := fx_eq2 hF rfl rfl z1_105
    replace hF := fx_eq2 hF rfl rfl z1_106
    replace hF := fx_eq2 hF rfl rfl z1_107
    replace hF := fx_eq2 hF rfl rfl z1_108
    replace hF := fx_eq2 hF rfl rfl z1_109
    replace hF := fx_eq2 hF rfl rfl z1_110
    replace hF := fx_eq2 hF rfl rfl z1_111
    replace hF := fx_eq2 hF rfl rfl z1_112
    replace hF := fx_eq2 hF rfl rfl z1_113
    replace hF := fx_eq1 hF rfl rfl z1_114
    refine q_tsIn (pc := 1) 114 108 hG dX4_isValueLetter_1 z1_114 (by decide) rfl rfl ?_
    refine q_iconst (pc := 108) hG dX4_isValueLetter_108 ki_1 ?_
    exact q_zrt hG hE dX4_isValueLetter_109 (q_r.mono rl_1 (by decide)) ⟨rfl, (q_r.mono rl_1 (by decide)), (by rw [tl_1]; exact fx_end hF hF0)⟩
  by_cases z1_115 : x0.toInt = 115
  · skip
    replace hF := fx_eq2 hF rfl rfl z1_97
    replace hF := fx_eq2 hF rfl rfl z1_98
    replace hF := fx_eq2 hF rfl rfl z1_99
    replace hF := fx_eq2 hF rfl rfl z1_100
    replace hF := fx_eq2 hF rfl rfl z1_101
    replace hF := fx_eq2 hF rfl rfl z1_102
    replace hF := fx_eq2 hF rfl rfl z1_103
    replace hF := fx_eq2 hF rfl rfl z1_104
    replace hF := fx_eq2 hF rfl rfl z1_105
    replace hF := fx_eq2 hF rfl rfl z1_106
    replace hF := fx_eq2 hF rfl rfl z1_107
    replace hF := fx_eq2 hF rfl rfl z1_108
    replace hF := fx_eq2 hF rfl rfl z1_109
    replace hF := fx_eq2 hF rfl rfl z1_110
    replace hF := fx_eq2 hF rfl rfl z1_111
    replace hF := fx_eq2 hF rfl rfl z1_112
    replace hF := fx_eq2 hF rfl rfl z1_113
    replace hF := fx_eq2 hF rfl rfl z1_114
    replace hF := fx_eq1 hF rfl rfl z1_115
    refine q_tsIn (pc := 1) 115 110 hG dX4_isValueLetter_1 z1_115 (by decide) rfl rfl ?_
    refine q_iconst (pc := 110) hG dX4_isValueLetter_110 ki_0 ?_
    exact q_zrt hG hE dX4_isValueLetter_111 (q_r.mono rl_0 (by decide)) ⟨rfl, (q_r.mono rl_0 (by decide)), (by rw [tl_0]; exact fx_end hF hF0)⟩
  by_cases z1_116 : x0.toInt = 116
  · skip
    replace hF := fx_eq2 hF rfl rfl z1_97
    replace hF := fx_eq2 hF rfl rfl z1_98
    replace hF := fx_eq2 hF rfl rfl z1_99
    replace hF := fx_eq2 hF rfl rfl z1_100
    replace hF := fx_eq2 hF rfl rfl z1_101
    replace hF := fx_eq2 hF rfl rfl z1_102
    replace hF := fx_eq2 hF rfl rfl z1_103
    replace hF := fx_eq2 hF rfl rfl z1_104
    replace hF := fx_eq2 hF rfl rfl z1_105
    replace hF := fx_eq2 hF rfl rfl z1_106
    replace hF := fx_eq2 hF rfl rfl z1_107
    replace hF := fx_eq2 hF rfl rfl z1_108
    replace hF := fx_eq2 hF rfl rfl z1_109
    replace hF := fx_eq2 hF rfl rfl z1_110
    replace hF := fx_eq2 hF rfl rfl z1_111
    replace hF := fx_eq2 hF rfl rfl z1_112
    replace hF := fx_eq2 hF rfl rfl z1_113
    replace hF := fx_eq2 hF rfl rfl z1_114
    replace hF := fx_eq2 hF rfl rfl z1_115
    replace hF := fx_eq1 hF rfl rfl z1_116
    refine q_tsIn (pc := 1) 116 108 hG dX4_isValueLetter_1 z1_116 (by decide) rfl rfl ?_
    refine q_iconst (pc := 108) hG dX4_isValueLetter_108 ki_1 ?_
    exact q_zrt hG hE dX4_isValueLetter_109 (q_r.mono rl_1 (by decide)) ⟨rfl, (q_r.mono rl_1 (by decide)), (by rw [tl_1]; exact fx_end hF hF0)⟩
  by_cases z1_117 : x0.toInt = 117
  · skip
    replace hF := fx_eq2 hF rfl rfl z1_97
    replace hF := fx_eq2 hF rfl rfl z1_98
    replace hF := fx_eq2 hF rfl rfl z1_99
    replace hF := fx_eq2 hF rfl rfl z1_100
    replace hF := fx_eq2 hF rfl rfl z1_101
    replace hF := fx_eq2 hF rfl rfl z1_102
    replace hF := fx_eq2 hF rfl rfl z1_103
    replace hF := fx_eq2 hF rfl rfl z1_104
    replace hF := fx_eq2 hF rfl rfl z1_105
    replace hF := fx_eq2 hF rfl rfl z1_106
    replace hF := fx_eq2 hF rfl rfl z1_107
    replace hF := fx_eq2 hF rfl rfl z1_108
    replace hF := fx_eq2 hF rfl rfl z1_109
    replace hF := fx_eq2 hF rfl rfl z1_110
    replace hF := fx_eq2 hF rfl rfl z1_111
    replace hF := fx_eq2 hF rfl rfl z1_112
    replace hF := fx_eq2 hF rfl rfl z1_113
    replace hF := fx_eq2 hF rfl rfl z1_114
    replace hF := fx_eq2 hF rfl rfl z1_115
    replace hF := fx_eq2 hF rfl rfl z1_116
    replace hF := fx_eq1 hF rfl rfl z1_117
    refine q_tsIn (pc := 1) 117 110 hG dX4_isValueLetter_1 z1_117 (by decide) rfl rfl ?_
    refine q_iconst (pc := 110) hG dX4_isValueLetter_110 ki_0 ?_
    exact q_zrt hG hE dX4_isValueLetter_111 (q_r.mono rl_0 (by decide)) ⟨rfl, (q_r.mono rl_0 (by decide)), (by rw [tl_0]; exact fx_end hF hF0)⟩
  by_cases z1_118 : x0.toInt = 118
  · skip
    replace hF := fx_eq2 hF rfl rfl z1_97
    replace hF := fx_eq2 hF rfl rfl z1_98
    replace hF := fx_eq2 hF rfl rfl z1_99
    replace hF := fx_eq2 hF rfl rfl z1_100
    replace hF := fx_eq2 hF rfl rfl z1_101
    replace hF := fx_eq2 hF rfl rfl z1_102
    replace hF := fx_eq2 hF rfl rfl z1_103
    replace hF := fx_eq2 hF rfl rfl z1_104
    replace hF := fx_eq2 hF rfl rfl z1_105
    replace hF := fx_eq2 hF rfl rfl z1_106
    replace hF := fx_eq2 hF rfl rfl z1_107
    replace hF := fx_eq2 hF rfl rfl z1_108
    replace hF := fx_eq2 hF rfl rfl z1_109
    replace hF := fx_eq2 hF rfl rfl z1_110
    replace hF := fx_eq2 hF rfl rfl z1_111
    replace hF := fx_eq2 hF rfl rfl z1_112
    replace hF := fx_eq2 hF rfl rfl z1_113
    replace hF := fx_eq2 hF rfl rfl z1_114
    replace hF := fx_eq2 hF rfl rfl z1_115
    replace hF := fx_eq2 hF rfl rfl z1_116
    replace hF := fx_eq2 hF rfl rfl z1_117
    replace hF := fx_eq1 hF rfl rfl z1_118
    refine q_tsIn (pc := 1) 118 110 hG dX4_isValueLetter_1 z1_118 (by decide) rfl rfl ?_
    refine q_iconst (pc := 110) hG dX4_isValueLetter_110 ki_0 ?_
    exact q_zrt hG hE dX4_isValueLetter_111 (q_r.mono rl_0 (by decide)) ⟨rfl, (q_r.mono rl_0 (by decide)), (by rw [tl_0]; exact fx_end hF hF0)⟩
  by_cases z1_119 : x0.toInt = 119
  · skip
    replace hF := fx_eq2 hF rfl rfl z1_97
    replace hF := fx_eq2 hF rfl rfl z1_98
    replace hF := fx_eq2 hF rfl rfl z1_99
    replace hF := fx_eq2 hF rfl rfl z1_100
    replace hF := fx_eq2 hF rfl rfl z1_101
    replace hF := fx_eq2 hF rfl rfl z1_102
    replace hF := fx_eq2 hF rfl rfl z1_103
    replace hF := fx_eq2 hF rfl rfl z1_104
    replace hF := fx_eq2 hF rfl rfl z1_105
    replace hF := fx_eq2 hF rfl rfl z1_106
    replace hF := fx_eq2 hF rfl rfl z1_107
    replace hF := fx_eq2 hF rfl rfl z1_108
    replace hF := fx_eq2 hF rfl rfl z1_109
    replace hF := fx_eq2 hF rfl rfl z1_110
    replace hF := fx_eq2 hF rfl rfl z1_111
    replace hF := fx_eq2 hF rfl rfl z1_112
    replace hF := fx_eq2 hF rfl rfl z1_113
    replace hF := fx_eq2 hF rfl rfl z1_114
    replace hF := fx_eq2 hF rfl rfl z1_115
    replace hF := fx_eq2 hF rfl rfl z1_116
    replace hF := fx_eq2 hF rfl rfl z1_117
    replace hF := fx_eq2 hF rfl rfl z1_118
    replace hF := fx_eq1 hF rfl rfl z1_119
    refine q_tsIn (pc := 1) 119 108 hG dX4_isValueLetter_1 z1_119 (by decide) rfl rfl ?_
    refine q_iconst (pc := 108) hG dX4_isValueLetter_108 ki_1 ?_
    exact q_zrt hG hE dX4_isValueLetter_109 (q_r.mono rl_1 (by decide)) ⟨rfl, (q_r.mono rl_1 (by decide)), (by rw [tl_1]; exact fx_end hF hF0)⟩
  replace hF := fx_eq2 hF rfl rfl z1_97
  replace hF := fx_eq2 hF rfl rfl z1_98
  replace hF := fx_eq2 hF rfl rfl z1_99
  replace hF := fx_eq2 hF rfl rfl z1_100
  replace hF := fx_eq2 hF rfl rfl z1_101
  replace hF := fx_eq2 hF rfl rfl z1_102
  replace hF := fx_eq2 hF rfl rfl z1_103
  replace hF := fx_eq2 hF rfl rfl z1_104
  replace hF := fx_eq2 hF rfl rfl z1_105
  replace hF := fx_eq2 hF rfl rfl z1_106
  replace hF := fx_eq2 hF rfl rfl z1_107
  replace hF := fx_eq2 hF rfl rfl z1_108
  replace hF := fx_eq2 hF rfl rfl z1_109
  replace hF := fx_eq2 hF rfl rfl z1_110
  replace hF := fx_eq2 hF rfl rfl z1_111
  replace hF := fx_eq2 hF rfl rfl z1_112
  replace hF := fx_eq2 hF rfl rfl z1_113
  replace hF := fx_eq2 hF rfl rfl z1_114
  replace hF := fx_eq2 hF rfl rfl z1_115
  replace hF := fx_eq2 hF rfl rfl z1_116
  replace hF := fx_eq2 hF rfl rfl z1_117
  replace hF := fx_eq2 hF rfl rfl z1_118
  replace hF := fx_eq2 hF rfl rfl z1_119
  refine q_tsOut (pc := 1) 110 hG dX4_isValueLetter_1 (by have q := (q_r_any x0); unfold q_r at q; omega) rfl ?_
  refine q_iconst (pc := 110) hG dX4_isValueLetter_110 ki_0 ?_
  exact q_zrt hG hE dX4_isValueLetter_111 (q_r.mono rl_0 (by decide)) ⟨rfl, (q_r.mono rl_0 (by decide)), (by rw [tl_0]; exact fx_end hF hF0)⟩
theorem dX4_peek_0 : decode cX4_peek 0 = .ok (.aload_n 0, 1) := by decide +kernel
theorem dX4_peek_1 : decode cX4_peek 1 = .ok (.getfield 22, 3) := by decide +kernel
theorem dX4_peek_4 : decode cX4_peek 4 = .ok (.ifCond .lt 26, 3) := by decide +kernel
theorem dX4_peek_7 : decode cX4_peek 7 = .ok (.aload_n 0, 1) := by decide +kernel
theorem dX4_peek_8 : decode cX4_peek 8 = .ok (.getfield 22, 3) := by decide +kernel
theorem dX4_peek_11 : decode cX4_peek 11 = .ok (.aload_n 0, 1) := by decide +kernel
theorem dX4_peek_12 : decode cX4_peek 12 = .ok (.getfield 18, 3) := by decide +kernel
theorem dX4_peek_15 : decode cX4_peek 15 = .ok (.if_icmp .ge 15, 3) := by decide +kernel
theorem dX4_peek_18 : decode cX4_peek 18 = .ok (.aload_n 0, 1) := by decide +kernel
theorem dX4_peek_19 : decode cX4_peek 19 = .ok (.getfield 13, 3) := by decide +kernel
theorem dX4_peek_22 : decode cX4_peek 22 = .ok (.aload_n 0, 1) := by decide +kernel
theorem dX4_peek_23 : decode cX4_peek 23 = .ok (.getfield 22, 3) := by decide +kernel
theorem dX4_peek_26 : decode cX4_peek 26 = .ok (.iaload, 1) := by decide +kernel
theorem dX4_peek_27 : decode cX4_peek 27 = .ok (.goto 4, 3) := by decide +kernel
theorem dX4_peek_30 : decode cX4_peek 30 = .ok (.iconst (-1), 1) := by decide +kernel
theorem dX4_peek_31 : decode cX4_peek 31 = .ok (.ireturn, 1) := by decide +kernel
set_option maxRecDepth 100000 in
set_option maxHeartbeats 4000000 in
theorem c_X4_peek {l : Launch} {D : q_D} (τ : q_T) (σ : q_V) (a0 : Nat) (hI : q_I τ σ) (tA0 : τ a0 = some (4, 1)) (at1 : Nat) (ht : σ a0 0 = .ref at1) (Tt : τ at1 = some (110, 260)) : q_Cp l D yX4_peek cX4_peek 1 (some .int) 0 0 τ σ [.ref a0] (fun r => (q_r r (-1) 255) ∧ (r.toInt = f_X4_peek (fx_N σ) a0)) := by
  refine q_meti rfl (Nat.le_of_ble_eq_true rfl) (fun X hG hE => ?_)
  show q_O X 0 0 τ σ 0 [(0, .ref a0)] []
  obtain ⟨Fv, hF⟩ : ∃ z, fx_eq z (f_X4_peek (fx_N σ) a0) := ⟨_, fx_rf⟩
  have hF0 := hF
  unfold f_X4_peek at hF
  replace hF := fx_R hF ht rfl
  refine q_aload_n (pc := 0) hG dX4_peek_0 0 rfl ?_
  refine q_getI (pc := 1) hG fl_X4_22 dX4_peek_1 hI tA0 ff_4_2 (fun v1 f1 g1 => ?_)
  replace hF := fx_I hF f1 rfl
  refine q_if_lt (pc := 4) hG 30 dX4_peek_4 rfl ?_ ?_
  · intro c4
    replace hF := fx_lt1 hF rfl rfl c4
    refine q_iconst (pc := 30) hG dX4_peek_30 ki_m1 ?_
    exact q_irt hG hE dX4_peek_31 ⟨rfl, (q_r.mono rl_m1 (by decide)), (by rw [tl_m1]; exact fx_end hF hF0)⟩
  intro c4
  replace hF := fx_lt2 hF rfl rfl c4
  refine q_aload_n (pc := 7) hG dX4_peek_7 0 rfl ?_
  refine q_getV (pc := 8) (v := .int v1) hG fl_X4_22 dX4_peek_8 tA0 f1 ?_
  refine q_aload_n (pc := 11) hG dX4_peek_11 0 rfl ?_
  refine q_getI (pc := 12) hG fl_X4_18 dX4_peek_12 hI tA0 ff_4_1 (fun v12 f12 g12 => ?_)
  replace hF := fx_I hF f12 rfl
  refine q_icmp_ge (pc := 15) hG 30 dX4_peek_15 rfl ?_ ?_
  · intro c15
    have r_1 := q_zge g1 c4
    replace hF := fx_lt2 hF rfl rfl c15
    refine q_iconst (pc := 30) hG dX4_peek_30 ki_m1 ?_
    exact q_irt hG hE dX4_peek_31 ⟨rfl, (q_r.mono rl_m1 (by decide)), (by rw [tl_m1]; exact fx_end hF hF0)⟩
  intro c15
  have r_2 := q_zge g1 c4
  replace hF := fx_lt1 hF rfl rfl c15
  refine q_aload_n (pc := 18) hG dX4_peek_18 0 rfl ?_
  refine q_getV (pc := 19) (v := .ref at1) hG fl_X4_13 dX4_peek_19 tA0 ht ?_
  refine q_aload_n (pc := 22) hG dX4_peek_22 0 rfl ?_
  refine q_getV (pc := 23) (v := .int v1) hG fl_X4_22 dX4_peek_23 tA0 f1 ?_
  have r_3 := q_rlt r_2 g12 c15 259 (by decide)
  refine q_iald (pc := 26) hG dX4_peek_26 hI ai_110 Tt (q_ix r_3 (by decide)) (fun v26 f26 g26 => ?_)
  replace hF := fx_I hF f26 rfl
  refine q_goto (pc := 27) 31 hG dX4_peek_27 rfl ?_
  exact q_irt hG hE dX4_peek_31 ⟨rfl, (q_r.mono g26 (by decide)), (fx_end hF hF0)⟩
theorem dX4_fail_0 : decode cX4_fail 0 = .ok (.aload_n 0, 1) := by decide +kernel
theorem dX4_fail_1 : decode cX4_fail 1 = .ok (.sipush (-1000), 3) := by decide +kernel
theorem dX4_fail_4 : decode cX4_fail 4 = .ok (.iload_n 1, 1) := by decide +kernel
theorem dX4_fail_5 : decode cX4_fail 5 = .ok (.imul, 1) := by decide +kernel
theorem dX4_fail_6 : decode cX4_fail 6 = .ok (.aload_n 0, 1) := by decide +kernel
theorem dX4_fail_7 : decode cX4_fail 7 = .ok (.getfield 22, 3) := by decide +kernel
theorem dX4_fail_10 : decode cX4_fail 10 = .ok (.isub, 1) := by decide +kernel
theorem dX4_fail_11 : decode cX4_fail 11 = .ok (.putfield 25, 3) := by decide +kernel
theorem dX4_fail_14 : decode cX4_fail 14 = .ok (.iconst 0, 1) := by decide +kernel
theorem dX4_fail_15 : decode cX4_fail 15 = .ok (.ireturn, 1) := by decide +kernel
def md_X4_fail : List (Nat × Nat) := [(4, 3)]
set_option maxRecDepth 100000 in
set_option maxHeartbeats 4000000 in
theorem c_X4_fail {l : Launch} {D : q_D} (τ : q_T) (σ : q_V) (a0 : Nat) (x1 : Int32) (hI : q_I τ σ) (tA0 : τ a0 = some (4, 1)) : q_Ci l D yX4_fail cX4_fail 2 (some .boolean) 0 0 τ σ [.ref a0, .int x1] (fun r σ1 => q_S md_X4_fail τ σ σ1 ∧ (q_r r 0 0) ∧ ((r.toInt, fx_N σ1) = f_X4_fail (fx_N σ) a0 x1.toInt)) := by
  refine q_meti rfl (Nat.le_of_ble_eq_true rfl) (fun X hG hE => ?_)
  show q_O X 0 0 τ σ 0 [(0, .ref a0), (1, .int x1)] []
  have hS0 : q_S md_X4_fail τ σ σ := q_S.rf hI
  obtain ⟨Fv, hF⟩ : ∃ z, fx_eq z (f_X4_fail (fx_N σ) a0 x1.toInt) := ⟨_, fx_rf⟩
  have hF0 := hF
  unfold f_X4_fail at hF
  refine q_aload_n (pc := 0) hG dX4_fail_0 0 rfl ?_
  refine q_sipush (pc := 1) hG dX4_fail_1 ks_m1000 ?_
  refine q_iload_n (pc := 4) hG dX4_fail_4 1 rfl ?_
  refine q_imul (pc := 5) hG dX4_fail_5 (fun v5 e5 => ?_)
  replace hF := fx_B_mul hF tl_m1000 rfl e5
  refine q_aload_n (pc := 6) hG dX4_fail_6 0 rfl ?_
  refine q_getI (pc := 7) hG fl_X4_22 dX4_fail_7 hI tA0 ff_4_2 (fun v7 f7 g7 => ?_)
  replace hF := fx_I hF f7 rfl
  refine q_isub (pc := 10) hG dX4_fail_10 (fun v10 e10 => ?_)
  replace hF := fx_B_sub hF rfl rfl e10
  refine q_putI (pc := 11) hG fl_X4_25 dX4_fail_11 hS0 tA0 ff_4_3 (q_r_any v10) (by decide) rfl (fun s11 u11 w11 => ?_)
  replace hF := fx_P hF u11 rfl rfl
  have m11 : s11 a0 3 = .int v10 := by rw [u11]; exact q_up_same
  refine q_iconst (pc := 14) hG dX4_fail_14 ki_0 ?_
  exact q_zrt hG hE dX4_fail_15 (q_r.mono rl_0 (by decide)) ⟨w11, rl_0, (by rw [tl_0]; exact fx_end hF hF0)⟩
theorem dX4_mayOpen_0 : decode cX4_mayOpen 0 = .ok (.iload_n 1, 1) := by decide +kernel
theorem dX4_mayOpen_1 : decode cX4_mayOpen 1 = .ok (.bipush 6, 2) := by decide +kernel
theorem dX4_mayOpen_3 : decode cX4_mayOpen 3 = .ok (.if_icmp .lt 9, 3) := by decide +kernel
theorem dX4_mayOpen_6 : decode cX4_mayOpen 6 = .ok (.aload_n 0, 1) := by decide +kernel
theorem dX4_mayOpen_7 : decode cX4_mayOpen 7 = .ok (.iconst 5, 1) := by decide +kernel
theorem dX4_mayOpen_8 : decode cX4_mayOpen 8 = .ok (.invokevirtual 55, 3) := by decide +kernel
theorem dX4_mayOpen_11 : decode cX4_mayOpen 11 = .ok (.ireturn, 1) := by decide +kernel
theorem dX4_mayOpen_12 : decode cX4_mayOpen 12 = .ok (.aload_n 0, 1) := by decide +kernel
theorem dX4_mayOpen_13 : decode cX4_mayOpen 13 = .ok (.dup, 1) := by decide +kernel
theorem dX4_mayOpen_14 : decode cX4_mayOpen 14 = .ok (.getfield 22, 3) := by decide +kernel
theorem dX4_mayOpen_17 : decode cX4_mayOpen 17 = .ok (.iconst 1, 1) := by decide +kernel
theorem dX4_mayOpen_18 : decode cX4_mayOpen 18 = .ok (.iadd, 1) := by decide +kernel
theorem dX4_mayOpen_19 : decode cX4_mayOpen 19 = .ok (.putfield 22, 3) := by decide +kernel
theorem dX4_mayOpen_22 : decode cX4_mayOpen 22 = .ok (.iconst 1, 1) := by decide +kernel
theorem dX4_mayOpen_23 : decode cX4_mayOpen 23 = .ok (.ireturn, 1) := by decide +kernel
def md_X4_mayOpen : List (Nat × Nat) := [(4, 2), (4, 3)]
set_option maxRecDepth 100000 in
set_option maxHeartbeats 4000000 in
theorem c_X4_mayOpen {l : Launch} {D : q_D} (τ : q_T) (σ : q_V) (a0 : Nat) (x1 : Int32) (hI : q_I τ σ) (tA0 : τ a0 = some (4, 1)) : q_Ci l D yX4_mayOpen cX4_mayOpen 2 (some .boolean) 1 21 τ σ [.ref a0, .int x1] (fun r σ1 => q_S md_X4_mayOpen τ σ σ1 ∧ (q_r r 0 1) ∧ ((r.toInt, fx_N σ1) = f_X4_mayOpen (fx_N σ) a0 x1.toInt) ∧ (r.toInt = 1 → x1.toInt ≤ 5)) := by
  refine q_meti rfl (Nat.le_of_ble_eq_true rfl) (fun X hG hE => ?_)
  show q_O X 0 0 τ σ 0 [(0, .ref a0), (1, .int x1)] []
  have hS0 : q_S md_X4_mayOpen τ σ σ := q_S.rf hI
  obtain ⟨Fv, hF⟩ : ∃ z, fx_eq z (f_X4_mayOpen (fx_N σ) a0 x1.toInt) := ⟨_, fx_rf⟩
  have hF0 := hF
  unfold f_X4_mayOpen at hF
  refine q_iload_n (pc := 0) hG dX4_mayOpen_0 1 rfl ?_
  refine q_bipush (pc := 1) hG dX4_mayOpen_1 kb_6 ?_
  refine q_icmp_lt (pc := 3) hG 12 dX4_mayOpen_3 rfl ?_ ?_
  · intro c3
    replace hF := fx_lt1 hF rfl tl_6 c3
    refine q_aload_n (pc := 12) hG dX4_mayOpen_12 0 rfl ?_
    refine q_dup (pc := 13) hG dX4_mayOpen_13 rfl ?_
    refine q_getI (pc := 14) hG fl_X4_22 dX4_mayOpen_14 hI tA0 ff_4_2 (fun v14 f14 g14 => ?_)
    replace hF := fx_I hF f14 rfl
    refine q_iconst (pc := 17) hG dX4_mayOpen_17 ki_1 ?_
    refine q_iadd (pc := 18) hG dX4_mayOpen_18 (fun v18 e18 => ?_)
    replace hF := fx_B_add hF rfl tl_1 e18
    refine q_putI (pc := 19) hG fl_X4_22 dX4_mayOpen_19 hS0 tA0 ff_4_2 (q_r_any v18) (by decide) rfl (fun s19 u19 w19 => ?_)
    replace hF := fx_P hF u19 rfl rfl
    have m19 : s19 a0 2 = .int v18 := by rw [u19]; exact q_up_same
    refine q_iconst (pc := 22) hG dX4_mayOpen_22 ki_1 ?_
    have r_1 := q_rlt (q_r_any x1) rl_6 c3 5 (by decide)
    exact q_zrt hG hE dX4_mayOpen_23 (q_r.mono rl_1 (by decide)) ⟨w19, (q_r.mono rl_1 (by decide)), (by rw [tl_1]; exact fx_end hF hF0), (fun q => (by have o0 := c3; have o1 := r_1; have l2 := tl_1; have l3 := tl_6; have o4 := q; unfold q_r at o1; omega))⟩
  intro c3
  replace hF := fx_lt2 hF rfl tl_6 c3
  refine q_aload_n (pc := 6) hG dX4_mayOpen_6 0 rfl ?_
  refine q_iconst (pc := 7) hG dX4_mayOpen_7 ki_5 ?_
  refine q_cVi (pc := 8) [.int 5] [] hG (c_X4_fail τ σ a0 5 hI tA0) my_X4_fail mv_X4_fail w319 dX4_mayOpen_8 tA0 (by decide) rfl rfl (Nat.le_of_ble_eq_true rfl) (by decide) (fun v8 s8 p8 => ?_)
  have w8 := hS0.trans p8.1 rfl
  have fq8 := p8.2.2
  rewrite [tl_5] at fq8
  replace hF := fx_C hF fq8
  have r_2 := q_rge (q_r_any x1) rl_6 c3
  exact q_zrt hG hE dX4_mayOpen_11 (q_r.mono p8.2.1 (by decide)) ⟨w8, (q_r.mono p8.2.1 (by decide)), (fx_end hF hF0), (fun q => (by have o0 := c3; have o1 := p8.2.1; have o2 := r_2; have l3 := tl_6; have o4 := q; unfold q_r at o1 o2; omega))⟩
theorem dX4_expect_0 : decode cX4_expect 0 = .ok (.aload_n 0, 1) := by decide +kernel
theorem dX4_expect_1 : decode cX4_expect 1 = .ok (.invokevirtual 51, 3) := by decide +kernel
theorem dX4_expect_4 : decode cX4_expect 4 = .ok (.iload_n 1, 1) := by decide +kernel
theorem dX4_expect_5 : decode cX4_expect 5 = .ok (.if_icmp .eq 9, 3) := by decide +kernel
theorem dX4_expect_8 : decode cX4_expect 8 = .ok (.aload_n 0, 1) := by decide +kernel
theorem dX4_expect_9 : decode cX4_expect 9 = .ok (.iconst 1, 1) := by decide +kernel
theorem dX4_expect_10 : decode cX4_expect 10 = .ok (.invokevirtual 55, 3) := by decide +kernel
theorem dX4_expect_13 : decode cX4_expect 13 = .ok (.ireturn, 1) := by decide +kernel
theorem dX4_expect_14 : decode cX4_expect 14 = .ok (.aload_n 0, 1) := by decide +kernel
theorem dX4_expect_15 : decode cX4_expect 15 = .ok (.dup, 1) := by decide +kernel
theorem dX4_expect_16 : decode cX4_expect 16 = .ok (.getfield 22, 3) := by decide +kernel
theorem dX4_expect_19 : decode cX4_expect 19 = .ok (.iconst 1, 1) := by decide +kernel
theorem dX4_expect_20 : decode cX4_expect 20 = .ok (.iadd, 1) := by decide +kernel
theorem dX4_expect_21 : decode cX4_expect 21 = .ok (.putfield 22, 3) := by decide +kernel
theorem dX4_expect_24 : decode cX4_expect 24 = .ok (.iconst 1, 1) := by decide +kernel
theorem dX4_expect_25 : decode cX4_expect 25 = .ok (.ireturn, 1) := by decide +kernel
def md_X4_expect : List (Nat × Nat) := [(4, 2), (4, 3)]
set_option maxRecDepth 100000 in
set_option maxHeartbeats 4000000 in
theorem c_X4_expect {l : Launch} {D : q_D} (τ : q_T) (σ : q_V) (a0 : Nat) (x1 : Int32) (hI : q_I τ σ) (tA0 : τ a0 = some (4, 1)) (at1 : Nat) (ht : σ a0 0 = .ref at1) (Tt : τ at1 = some (110, 260)) : q_Ci l D yX4_expect cX4_expect 2 (some .boolean) 1 21 τ σ [.ref a0, .int x1] (fun r σ1 => q_S md_X4_expect τ σ σ1 ∧ (q_r r 0 1) ∧ ((r.toInt, fx_N σ1) = f_X4_expect (fx_N σ) a0 x1.toInt)) := by
  refine q_meti rfl (Nat.le_of_ble_eq_true rfl) (fun X hG hE => ?_)
  show q_O X 0 0 τ σ 0 [(0, .ref a0), (1, .int x1)] []
  have hS0 : q_S md_X4_expect τ σ σ := q_S.rf hI
  obtain ⟨Fv, hF⟩ : ∃ z, fx_eq z (f_X4_expect (fx_N σ) a0 x1.toInt) := ⟨_, fx_rf⟩
  have hF0 := hF
  unfold f_X4_expect at hF
  replace hF := fx_R hF ht rfl
  refine q_aload_n (pc := 0) hG dX4_expect_0 0 rfl ?_
  refine q_pV (pc := 1) [] [] hG (c_X4_peek τ σ a0 hI tA0 at1 ht Tt) my_X4_peek mv_X4_peek w316 dX4_expect_1 tA0 (by decide) rfl rfl (Nat.le_of_ble_eq_true rfl) (by decide) (fun v1 p1 => ?_)
  replace hF := fx_E hF p1.2
  refine q_iload_n (pc := 4) hG dX4_expect_4 1 rfl ?_
  refine q_icmp_eq (pc := 5) hG 14 dX4_expect_5 rfl ?_ ?_
  · intro c5
    replace hF := fx_eq1 hF rfl rfl c5
    refine q_aload_n (pc := 14) hG dX4_expect_14 0 rfl ?_
    refine q_dup (pc := 15) hG dX4_expect_15 rfl ?_
    refine q_getI (pc := 16) hG fl_X4_22 dX4_expect_16 hI tA0 ff_4_2 (fun v16 f16 g16 => ?_)
    replace hF := fx_I hF f16 rfl
    refine q_iconst (pc := 19) hG dX4_expect_19 ki_1 ?_
    refine q_iadd (pc := 20) hG dX4_expect_20 (fun v20 e20 => ?_)
    replace hF := fx_B_add hF rfl tl_1 e20
    refine q_putI (pc := 21) hG fl_X4_22 dX4_expect_21 hS0 tA0 ff_4_2 (q_r_any v20) (by decide) rfl (fun s21 u21 w21 => ?_)
    replace hF := fx_P hF u21 rfl rfl
    have m21 : s21 a0 2 = .int v20 := by rw [u21]; exact q_up_same
    refine q_iconst (pc := 24) hG dX4_expect_24 ki_1 ?_
    exact q_zrt hG hE dX4_expect_25 (q_r.mono rl_1 (by decide)) ⟨w21, (q_r.mono rl_1 (by decide)), (by rw [tl_1]; exact fx_end hF hF0)⟩
  intro c5
  replace hF := fx_eq2 hF rfl rfl c5
  refine q_aload_n (pc := 8) hG dX4_expect_8 0 rfl ?_
  refine q_iconst (pc := 9) hG dX4_expect_9 ki_1 ?_
  refine q_cVi (pc := 10) [.int 1] [] hG (c_X4_fail τ σ a0 1 hI tA0) my_X4_fail mv_X4_fail w319 dX4_expect_10 tA0 (by decide) rfl rfl (Nat.le_of_ble_eq_true rfl) (by decide) (fun v10 s10 p10 => ?_)
  have w10 := hS0.trans p10.1 rfl
  have fq10 := p10.2.2
  rewrite [tl_1] at fq10
  replace hF := fx_C hF fq10
  exact q_zrt hG hE dX4_expect_13 (q_r.mono p10.2.1 (by decide)) ⟨w10, (q_r.mono p10.2.1 (by decide)), (fx_end hF hF0)⟩
theorem dX4_readNumber_0 : decode cX4_readNumber 0 = .ok (.iconst 0, 1) := by decide +kernel
theorem dX4_readNumber_1 : decode cX4_readNumber 1 = .ok (.istore_n 1, 1) := by decide +kernel
theorem dX4_readNumber_2 : decode cX4_readNumber 2 = .ok (.iconst 0, 1) := by decide +kernel
theorem dX4_readNumber_3 : decode cX4_readNumber 3 = .ok (.istore_n 2, 1) := by decide +kernel
theorem dX4_readNumber_4 : decode cX4_readNumber 4 = .ok (.iload_n 2, 1) := by decide +kernel
theorem dX4_readNumber_5 : decode cX4_readNumber 5 = .ok (.iconst 5, 1) := by decide +kernel
theorem dX4_readNumber_6 : decode cX4_readNumber 6 = .ok (.if_icmp .ge 46, 3) := by decide +kernel
theorem dX4_readNumber_9 : decode cX4_readNumber 9 = .ok (.aload_n 0, 1) := by decide +kernel
theorem dX4_readNumber_10 : decode cX4_readNumber 10 = .ok (.invokevirtual 51, 3) := by decide +kernel
theorem dX4_readNumber_13 : decode cX4_readNumber 13 = .ok (.bipush 48, 2) := by decide +kernel
theorem dX4_readNumber_15 : decode cX4_readNumber 15 = .ok (.bipush 57, 2) := by decide +kernel
theorem dX4_readNumber_17 : decode cX4_readNumber 17 = .ok (.invokestatic 95, 3) := by decide +kernel
theorem dX4_readNumber_20 : decode cX4_readNumber 20 = .ok (.ifCond .eq 32, 3) := by decide +kernel
theorem dX4_readNumber_23 : decode cX4_readNumber 23 = .ok (.iload_n 1, 1) := by decide +kernel
theorem dX4_readNumber_24 : decode cX4_readNumber 24 = .ok (.bipush 10, 2) := by decide +kernel
theorem dX4_readNumber_26 : decode cX4_readNumber 26 = .ok (.imul, 1) := by decide +kernel
theorem dX4_readNumber_27 : decode cX4_readNumber 27 = .ok (.aload_n 0, 1) := by decide +kernel
theorem dX4_readNumber_28 : decode cX4_readNumber 28 = .ok (.invokevirtual 51, 3) := by decide +kernel
theorem dX4_readNumber_31 : decode cX4_readNumber 31 = .ok (.iadd, 1) := by decide +kernel
theorem dX4_readNumber_32 : decode cX4_readNumber 32 = .ok (.bipush 48, 2) := by decide +kernel
theorem dX4_readNumber_34 : decode cX4_readNumber 34 = .ok (.isub, 1) := by decide +kernel
theorem dX4_readNumber_35 : decode cX4_readNumber 35 = .ok (.istore_n 1, 1) := by decide +kernel
theorem dX4_readNumber_36 : decode cX4_readNumber 36 = .ok (.aload_n 0, 1) := by decide +kernel
theorem dX4_readNumber_37 : decode cX4_readNumber 37 = .ok (.dup, 1) := by decide +kernel
theorem dX4_readNumber_38 : decode cX4_readNumber 38 = .ok (.getfield 22, 3) := by decide +kernel
theorem dX4_readNumber_41 : decode cX4_readNumber 41 = .ok (.iconst 1, 1) := by decide +kernel
theorem dX4_readNumber_42 : decode cX4_readNumber 42 = .ok (.iadd, 1) := by decide +kernel
theorem dX4_readNumber_43 : decode cX4_readNumber 43 = .ok (.putfield 22, 3) := by decide +kernel
theorem dX4_readNumber_46 : decode cX4_readNumber 46 = .ok (.iinc 2 1, 3) := by decide +kernel
theorem dX4_readNumber_49 : decode cX4_readNumber 49 = .ok (.goto (-45), 3) := by decide +kernel
theorem dX4_readNumber_52 : decode cX4_readNumber 52 = .ok (.aload_n 0, 1) := by decide +kernel
theorem dX4_readNumber_53 : decode cX4_readNumber 53 = .ok (.invokevirtual 51, 3) := by decide +kernel
theorem dX4_readNumber_56 : decode cX4_readNumber 56 = .ok (.bipush 48, 2) := by decide +kernel
theorem dX4_readNumber_58 : decode cX4_readNumber 58 = .ok (.bipush 57, 2) := by decide +kernel
theorem dX4_readNumber_60 : decode cX4_readNumber 60 = .ok (.invokestatic 95, 3) := by decide +kernel
theorem dX4_readNumber_63 : decode cX4_readNumber 63 = .ok (.ifCond .eq 9, 3) := by decide +kernel
theorem dX4_readNumber_66 : decode cX4_readNumber 66 = .ok (.aload_n 0, 1) := by decide +kernel
theorem dX4_readNumber_67 : decode cX4_readNumber 67 = .ok (.iconst 2, 1) := by decide +kernel
theorem dX4_readNumber_68 : decode cX4_readNumber 68 = .ok (.invokevirtual 55, 3) := by decide +kernel
theorem dX4_readNumber_71 : decode cX4_readNumber 71 = .ok (.ireturn, 1) := by decide +kernel
theorem dX4_readNumber_72 : decode cX4_readNumber 72 = .ok (.aload_n 0, 1) := by decide +kernel
theorem dX4_readNumber_73 : decode cX4_readNumber 73 = .ok (.getfield 31, 3) := by decide +kernel
theorem dX4_readNumber_76 : decode cX4_readNumber 76 = .ok (.bipush 48, 2) := by decide +kernel
theorem dX4_readNumber_78 : decode cX4_readNumber 78 = .ok (.iload_n 1, 1) := by decide +kernel
theorem dX4_readNumber_79 : decode cX4_readNumber 79 = .ok (.invokevirtual 65, 3) := by decide +kernel
theorem dX4_readNumber_82 : decode cX4_readNumber 82 = .ok (.pop, 1) := by decide +kernel
theorem dX4_readNumber_83 : decode cX4_readNumber 83 = .ok (.iconst 1, 1) := by decide +kernel
theorem dX4_readNumber_84 : decode cX4_readNumber 84 = .ok (.ireturn, 1) := by decide +kernel
def md_X4_readNumber : List (Nat × Nat) := [(3, 1), (3, 2), (4, 2), (4, 3), (112, 0), (113, 0)]
set_option maxRecDepth 100000 in
set_option maxHeartbeats 4000000 in
theorem c_X4_readNumber {l : Launch} {D : q_D} (τ : q_T) (σ : q_V) (a0 : Nat) (hI : q_I τ σ) (tA0 : τ a0 = some (4, 1)) (at1 : Nat) (ht : σ a0 0 = .ref at1) (Tt : τ at1 = some (110, 260)) : q_Ci l D yX4_readNumber cX4_readNumber 3 (some .boolean) 1 22 τ σ [.ref a0] (fun r σ1 => q_S md_X4_readNumber τ σ σ1 ∧ (q_r r 0 1) ∧ ((r.toInt, fx_N σ1) = f_X4_readNumber (fx_N σ) a0)) := by
  refine q_meti rfl (Nat.le_of_ble_eq_true rfl) (fun X hG hE => ?_)
  show q_O X 0 0 τ σ 0 [(0, .ref a0)] []
  have hS0 : q_S md_X4_readNumber τ σ σ := q_S.rf hI
  obtain ⟨Fv, hF⟩ : ∃ z, fx_eq z (f_X4_readNumber (fx_N σ) a0) := ⟨_, fx_rf⟩
  have hF0 := hF
  unfold f_X4_readNumber at hF
  replace hF := fx_R hF ht rfl
  refine q_iconst (pc := 0) hG dX4_readNumber_0 ki_0 ?_
  refine q_istore_n (pc := 1) [(1, .int 0), (0, .ref a0)] hG dX4_readNumber_1 (by decide) rfl ?_
  refine q_iconst (pc := 2) hG dX4_readNumber_2 ki_0 ?_
  refine q_istore_n (pc := 3) [(2, .int 0), (1, .int 0), (0, .ref a0)] hG dX4_readNumber_3 (by decide) rfl ?_
  have J4 : ∀ (n4 : Nat) (p4_1 : Int32) (p4_2 : Int32) (σ4 : q_V), (q_r p4_2 0 5) → (q_S md_X4_readNumber τ σ σ4) → (fx_eq Fv (kL_X4_readNumber_4 a0 n4 p4_1.toInt p4_2.toInt (fx_N σ4))) → ((5 - p4_2.toInt).toNat < n4) → q_O X 0 0 τ σ4 4 [(0, .ref a0), (1, .int p4_1), (2, .int p4_2)] [] := by
    intro n4
    induction n4 with
    | zero => intro p4_1 p4_2 σ4 r4_2 hS4 hF hm4; exact absurd hm4 (Nat.not_lt_zero _)
    | succ n4 ih4 =>
      intro p4_1 p4_2 σ4 r4_2 hS4 hF hm4
      replace hF := (show fx_eq Fv (kB_X4_readNumber_4 (kL_X4_readNumber_4 a0 n4) a0 p4_1.toInt p4_2.toInt (fx_N σ4)) from hF)
      unfold kB_X4_readNumber_4 at hF
      refine q_iload_n (pc := 4) hG dX4_readNumber_4 2 rfl ?_
      refine q_iconst (pc := 5) hG dX4_readNumber_5 ki_5 ?_
      have J52 : (fx_eq Fv (kJ_X4_readNumber_52 (fx_N σ4) a0 p4_1.toInt)) → q_O X 0 0 τ σ4 52 [(0, .ref a0), (1, .int p4_1)] [] := by
        intro hF
        unfold kJ_X4_readNumber_52 at hF
        refine q_aload_n (pc := 52) hG dX4_readNumber_52 0 rfl ?_
        refine q_pV (pc := 53) [] [] hG (c_X4_peek τ σ4 a0 hS4.1 tA0 at1 (hS4.same tA0 rfl ht) Tt) my_X4_peek mv_X4_peek w316 dX4_readNumber_53 tA0 (by decide) rfl rfl (Nat.le_of_ble_eq_true rfl) (by decide) (fun v53 p53 => ?_)
        replace hF := fx_E hF p53.2
        refine q_bipush (pc := 56) hG dX4_readNumber_56 kb_48 ?_
        refine q_bipush (pc := 58) hG dX4_readNumber_58 kb_57 ?_
        refine q_pN (pc := 60) [.int v53, .int 48, .int 57] [] hG (c_X11_isIn τ σ4 v53 48 57 hS4.1) my_X11_isIn w238 nw_12 dX4_readNumber_60 rfl rfl (Nat.le_of_ble_eq_true rfl) (by decide) (fun v60 p60 => ?_)
        have fq60 := p60.2.1
        rewrite [tl_48, tl_57] at fq60
        replace hF := fx_E hF fq60
        refine q_if_eq (pc := 63) hG 72 dX4_readNumber_63 rfl ?_ ?_
        · intro c63
          replace hF := fx_eq1 hF rfl rfl c63
          refine q_aload_n (pc := 72) hG dX4_readNumber_72 0 rfl ?_
          refine q_getR (pc := 73) (k2 := 3) (n2 := 1) hG fl_X4_31 dX4_readNumber_73 hS4.1 tA0 ff_4_4 (fun b73 f73 T73 => ?_)
          replace hF := fx_R hF f73 rfl
          have f_1 := (hS4.2 _ _ _ _ tA0 rfl).symm.trans f73
          refine q_bipush (pc := 76) hG dX4_readNumber_76 kb_48 ?_
          refine q_iload_n (pc := 78) hG dX4_readNumber_78 1 rfl ?_
          refine q_cVi (pc := 79) [.int 48, .int p4_1] [] hG (c_X3_add τ σ4 b73 48 p4_1 hS4.1 T73) my_X3_add mv_X3_add w344 dX4_readNumber_79 T73 (by decide) rfl rfl (Nat.le_of_ble_eq_true rfl) (by decide) (fun v79 s79 p79 => ?_)
          have w79 := hS4.trans p79.1 rfl
          have fq79 := p79.2.2
          rewrite [tl_48] at fq79
          replace hF := fx_C hF fq79
          refine q_pop (pc := 82) hG dX4_readNumber_82 rfl ?_
          refine q_iconst (pc := 83) hG dX4_readNumber_83 ki_1 ?_
          exact q_zrt hG hE dX4_readNumber_84 (q_r.mono rl_1 (by decide)) ⟨w79, (q_r.mono rl_1 (by decide)), (by rw [tl_1]; exact fx_end hF hF0)⟩
        intro c63
        have g_2 := p60.2.2.mp (q_one p60.1 c63)
        have r_3 := q_rge p53.1 rl_48 g_2.1
        replace hF := fx_eq2 hF rfl rfl c63
        refine q_aload_n (pc := 66) hG dX4_readNumber_66 0 rfl ?_
        refine q_iconst (pc := 67) hG dX4_readNumber_67 ki_2 ?_
        refine q_cVi (pc := 68) [.int 2] [] hG (c_X4_fail τ σ4 a0 2 hS4.1 tA0) my_X4_fail mv_X4_fail w319 dX4_readNumber_68 tA0 (by decide) rfl rfl (Nat.le_of_ble_eq_true rfl) (by decide) (fun v68 s68 p68 => ?_)
        have w68 := hS4.trans p68.1 rfl
        have fq68 := p68.2.2
        rewrite [tl_2] at fq68
        replace hF := fx_C hF fq68
        exact q_zrt hG hE dX4_readNumber_71 (q_r.mono p68.2.1 (by decide)) ⟨w68, (q_r.mono p68.2.1 (by decide)), (fx_end hF hF0)⟩
      refine q_icmp_ge (pc := 6) hG 52 dX4_readNumber_6 rfl ?_ ?_
      · intro c6
        replace hF := fx_lt2 hF rfl tl_5 c6
        refine q_lv [0, 1] rfl ?_
        exact J52 hF
      intro c6
      replace hF := fx_lt1 hF rfl tl_5 c6
      refine q_aload_n (pc := 9) hG dX4_readNumber_9 0 rfl ?_
      refine q_pV (pc := 10) [] [] hG (c_X4_peek τ σ4 a0 hS4.1 tA0 at1 (hS4.same tA0 rfl ht) Tt) my_X4_peek mv_X4_peek w316 dX4_readNumber_10 tA0 (by decide) rfl rfl (Nat.le_of_ble_eq_true rfl) (by decide) (fun v10 p10 => ?_)
      replace hF := fx_E hF p10.2
      refine q_bipush (pc := 13) hG dX4_readNumber_13 kb_48 ?_
      refine q_bipush (pc := 15) hG dX4_readNumber_15 kb_57 ?_
      refine q_pN (pc := 17) [.int v10, .int 48, .int 57] [] hG (c_X11_isIn τ σ4 v10 48 57 hS4.1) my_X11_isIn w238 nw_12 dX4_readNumber_17 rfl rfl (Nat.le_of_ble_eq_true rfl) (by decide) (fun v17 p17 => ?_)
      have fq17 := p17.2.1
      rewrite [tl_48, tl_57] at fq17
      replace hF := fx_E hF fq17
      refine q_if_eq (pc := 20) hG 52 dX4_readNumber_20 rfl ?_ ?_
      · intro c20
        replace hF := fx_eq1 hF rfl rfl c20
        refine q_lv [0, 1] rfl ?_
        exact J52 hF
      intro c20
      have g_4 := p17.2.2.mp (q_one p17.1 c20)
      have r_5 := q_rge p10.1 rl_48 g_4.1
      replace hF := fx_eq2 hF rfl rfl c20
      refine q_iload_n (pc := 23) hG dX4_readNumber_23 1 rfl ?_
      refine q_bipush (pc := 24) hG dX4_readNumber_24 kb_10 ?_
      refine q_imul (pc := 26) hG dX4_readNumber_26 (fun v26 e26 => ?_)
      replace hF := fx_B_mul hF rfl tl_10 e26
      refine q_aload_n (pc := 27) hG dX4_readNumber_27 0 rfl ?_
      refine q_pV (pc := 28) [] [.int v26] hG (c_X4_peek τ σ4 a0 hS4.1 tA0 at1 (hS4.same tA0 rfl ht) Tt) my_X4_peek mv_X4_peek w316 dX4_readNumber_28 tA0 (by decide) rfl rfl (Nat.le_of_ble_eq_true rfl) (by decide) (fun v28 p28 => ?_)
      replace hF := fx_E hF p28.2
      refine q_iadd (pc := 31) hG dX4_readNumber_31 (fun v31 e31 => ?_)
      replace hF := fx_B_add hF rfl rfl e31
      refine q_bipush (pc := 32) hG dX4_readNumber_32 kb_48 ?_
      refine q_isub (pc := 34) hG dX4_readNumber_34 (fun v34 e34 => ?_)
      replace hF := fx_B_sub hF rfl tl_48 e34
      refine q_istore_n (pc := 35) [(1, .int v34), (0, .ref a0), (2, .int p4_2)] hG dX4_readNumber_35 (by decide) rfl ?_
      refine q_aload_n (pc := 36) hG dX4_readNumber_36 1 rfl ?_
      refine q_dup (pc := 37) hG dX4_readNumber_37 rfl ?_
      refine q_getI (pc := 38) hG fl_X4_22 dX4_readNumber_38 hS4.1 tA0 ff_4_2 (fun v38 f38 g38 => ?_)
      replace hF := fx_I hF f38 rfl
      refine q_iconst (pc := 41) hG dX4_readNumber_41 ki_1 ?_
      refine q_iadd (pc := 42) hG dX4_readNumber_42 (fun v42 e42 => ?_)
      replace hF := fx_B_add hF rfl tl_1 e42
      refine q_putI (pc := 43) hG fl_X4_22 dX4_readNumber_43 hS4 tA0 ff_4_2 (q_r_any v42) (by decide) rfl (fun s43 u43 w43 => ?_)
      replace hF := fx_P hF u43 rfl rfl
      have m43 : s43 a0 2 = .int v42 := by rw [u43]; exact q_up_same
      obtain ⟨v46, e46⟩ : ∃ z : Int32, z = p4_2 + Int32.ofInt 1 := ⟨_, rfl⟩
      have r_6 := q_rlt r4_2 rl_5 c6 4 (by decide)
      have h46 := q_incN (lo := 1) (hi := 5) r_6 (by decide) (by decide) e46
      replace hF := fx_add hF rfl rfl h46.1
      refine q_iinc (pc := 46) [(2, .int v46), (1, .int v34), (0, .ref a0)] hG dX4_readNumber_46 2 rfl e46 (by decide) rfl ?_
      refine q_goto (pc := 49) 4 hG dX4_readNumber_49 rfl ?_
      refine q_lv [2, 1, 0] rfl ?_
      exact ih4 v34 v46 s43 (q_r.mono h46.2 (by decide)) w43 hF (q_measU hm4 (by have o0 := c6; have o1 := h46.1; have o2 := r_6; have o3 := h46.2; have l4 := tl_5; unfold q_r at o2 o3; omega) (h46.2).2)
  refine q_lv [2, 1, 0] rfl ?_
  exact J4 ((5 - (0 : Int32).toInt).toNat + 1) 0 0 σ (q_r.mono rl_0 (by decide)) hS0 (by rw [tl_0]; exact hF) (Nat.lt_succ_self _)
theorem dX4_readFactor_0 : decode cX4_readFactor 0 = .ok (.aload_n 0, 1) := by decide +kernel
theorem dX4_readFactor_1 : decode cX4_readFactor 1 = .ok (.invokevirtual 51, 3) := by decide +kernel
theorem dX4_readFactor_4 : decode cX4_readFactor 4 = .ok (.istore_n 2, 1) := by decide +kernel
theorem dX4_readFactor_5 : decode cX4_readFactor 5 = .ok (.iload_n 2, 1) := by decide +kernel
theorem dX4_readFactor_6 : decode cX4_readFactor 6 = .ok (.bipush 91, 2) := by decide +kernel
theorem dX4_readFactor_8 : decode cX4_readFactor 8 = .ok (.if_icmp .ne 36, 3) := by decide +kernel
theorem dX4_readFactor_11 : decode cX4_readFactor 11 = .ok (.aload_n 0, 1) := by decide +kernel
theorem dX4_readFactor_12 : decode cX4_readFactor 12 = .ok (.iload_n 1, 1) := by decide +kernel
theorem dX4_readFactor_13 : decode cX4_readFactor 13 = .ok (.invokevirtual 83, 3) := by decide +kernel
theorem dX4_readFactor_16 : decode cX4_readFactor 16 = .ok (.ifCond .eq 26, 3) := by decide +kernel
theorem dX4_readFactor_19 : decode cX4_readFactor 19 = .ok (.aload_n 0, 1) := by decide +kernel
theorem dX4_readFactor_20 : decode cX4_readFactor 20 = .ok (.iload_n 1, 1) := by decide +kernel
theorem dX4_readFactor_21 : decode cX4_readFactor 21 = .ok (.iconst 1, 1) := by decide +kernel
theorem dX4_readFactor_22 : decode cX4_readFactor 22 = .ok (.iadd, 1) := by decide +kernel
theorem dX4_readFactor_23 : decode cX4_readFactor 23 = .ok (.invokevirtual 62, 3) := by decide +kernel
theorem dX4_readFactor_26 : decode cX4_readFactor 26 = .ok (.ifCond .eq 16, 3) := by decide +kernel
theorem dX4_readFactor_29 : decode cX4_readFactor 29 = .ok (.aload_n 0, 1) := by decide +kernel
theorem dX4_readFactor_30 : decode cX4_readFactor 30 = .ok (.bipush 93, 2) := by decide +kernel
theorem dX4_readFactor_32 : decode cX4_readFactor 32 = .ok (.invokevirtual 48, 3) := by decide +kernel
theorem dX4_readFactor_35 : decode cX4_readFactor 35 = .ok (.ifCond .eq 7, 3) := by decide +kernel
theorem dX4_readFactor_38 : decode cX4_readFactor 38 = .ok (.iconst 1, 1) := by decide +kernel
theorem dX4_readFactor_39 : decode cX4_readFactor 39 = .ok (.goto 4, 3) := by decide +kernel
theorem dX4_readFactor_42 : decode cX4_readFactor 42 = .ok (.iconst 0, 1) := by decide +kernel
theorem dX4_readFactor_43 : decode cX4_readFactor 43 = .ok (.ireturn, 1) := by decide +kernel
theorem dX4_readFactor_44 : decode cX4_readFactor 44 = .ok (.iload_n 2, 1) := by decide +kernel
theorem dX4_readFactor_45 : decode cX4_readFactor 45 = .ok (.bipush 48, 2) := by decide +kernel
theorem dX4_readFactor_47 : decode cX4_readFactor 47 = .ok (.bipush 57, 2) := by decide +kernel
theorem dX4_readFactor_49 : decode cX4_readFactor 49 = .ok (.invokestatic 95, 3) := by decide +kernel
theorem dX4_readFactor_52 : decode cX4_readFactor 52 = .ok (.ifCond .eq 8, 3) := by decide +kernel
theorem dX4_readFactor_55 : decode cX4_readFactor 55 = .ok (.aload_n 0, 1) := by decide +kernel
theorem dX4_readFactor_56 : decode cX4_readFactor 56 = .ok (.invokevirtual 99, 3) := by decide +kernel
theorem dX4_readFactor_59 : decode cX4_readFactor 59 = .ok (.ireturn, 1) := by decide +kernel
theorem dX4_readFactor_60 : decode cX4_readFactor 60 = .ok (.iload_n 2, 1) := by decide +kernel
theorem dX4_readFactor_61 : decode cX4_readFactor 61 = .ok (.invokestatic 103, 3) := by decide +kernel
theorem dX4_readFactor_64 : decode cX4_readFactor 64 = .ok (.ifCond .ne 9, 3) := by decide +kernel
theorem dX4_readFactor_67 : decode cX4_readFactor 67 = .ok (.aload_n 0, 1) := by decide +kernel
theorem dX4_readFactor_68 : decode cX4_readFactor 68 = .ok (.iconst 1, 1) := by decide +kernel
theorem dX4_readFactor_69 : decode cX4_readFactor 69 = .ok (.invokevirtual 55, 3) := by decide +kernel
theorem dX4_readFactor_72 : decode cX4_readFactor 72 = .ok (.ireturn, 1) := by decide +kernel
theorem dX4_readFactor_73 : decode cX4_readFactor 73 = .ok (.aload_n 0, 1) := by decide +kernel
theorem dX4_readFactor_74 : decode cX4_readFactor 74 = .ok (.dup, 1) := by decide +kernel
theorem dX4_readFactor_75 : decode cX4_readFactor 75 = .ok (.getfield 22, 3) := by decide +kernel
theorem dX4_readFactor_78 : decode cX4_readFactor 78 = .ok (.iconst 1, 1) := by decide +kernel
theorem dX4_readFactor_79 : decode cX4_readFactor 79 = .ok (.iadd, 1) := by decide +kernel
theorem dX4_readFactor_80 : decode cX4_readFactor 80 = .ok (.putfield 22, 3) := by decide +kernel
theorem dX4_readFactor_83 : decode cX4_readFactor 83 = .ok (.aload_n 0, 1) := by decide +kernel
theorem dX4_readFactor_84 : decode cX4_readFactor 84 = .ok (.getfield 31, 3) := by decide +kernel
theorem dX4_readFactor_87 : decode cX4_readFactor 87 = .ok (.bipush 105, 2) := by decide +kernel
theorem dX4_readFactor_89 : decode cX4_readFactor 89 = .ok (.iload_n 2, 1) := by decide +kernel
theorem dX4_readFactor_90 : decode cX4_readFactor 90 = .ok (.invokevirtual 65, 3) := by decide +kernel
theorem dX4_readFactor_93 : decode cX4_readFactor 93 = .ok (.pop, 1) := by decide +kernel
theorem dX4_readFactor_94 : decode cX4_readFactor 94 = .ok (.iconst 1, 1) := by decide +kernel
theorem dX4_readFactor_95 : decode cX4_readFactor 95 = .ok (.ireturn, 1) := by decide +kernel
def md_X4_readFactor_L6 : List (Nat × Nat) := [(3, 1), (3, 2), (4, 2), (4, 3), (112, 0), (113, 0)]
set_option maxRecDepth 100000 in
set_option maxHeartbeats 4000000 in
theorem c_X4_readFactor_L6 {l : Launch} {D : q_D} (τ : q_T) (σ : q_V) (a0 : Nat) (x1 : Int32) (hI : q_I τ σ) (tA0 : τ a0 = some (4, 1)) (rA1 : q_r x1 6 6) (at1 : Nat) (ht : σ a0 0 = .ref at1) (Tt : τ at1 = some (110, 260)) : q_Ci l D yX4_readFactor cX4_readFactor 3 (some .boolean) 2 44 τ σ [.ref a0, .int x1] (fun r σ1 => q_S md_X4_readFactor_L6 τ σ σ1 ∧ (q_r r 0 1) ∧ ((r.toInt, fx_N σ1) = f_X4_readFactor_L6 (fx_N σ) a0 x1.toInt)) := by
  refine q_meti rfl (Nat.le_of_ble_eq_true rfl) (fun X hG hE => ?_)
  show q_O X 0 0 τ σ 0 [(0, .ref a0), (1, .int x1)] []
  have hS0 : q_S md_X4_readFactor_L6 τ σ σ := q_S.rf hI
  obtain ⟨Fv, hF⟩ : ∃ z, fx_eq z (f_X4_readFactor_L6 (fx_N σ) a0 x1.toInt) := ⟨_, fx_rf⟩
  have hF0 := hF
  unfold f_X4_readFactor_L6 at hF
  replace hF := fx_R hF ht rfl
  refine q_aload_n (pc := 0) hG dX4_readFactor_0 0 rfl ?_
  refine q_pV (pc := 1) [] [] hG (c_X4_peek τ σ a0 hI tA0 at1 ht Tt) my_X4_peek mv_X4_peek w316 dX4_readFactor_1 tA0 (by decide) rfl rfl (Nat.le_of_ble_eq_true rfl) (by decide) (fun v1 p1 => ?_)
  replace hF := fx_E hF p1.2
  refine q_istore_n (pc := 4) [(2, .int v1), (0, .ref a0), (1, .int x1)] hG dX4_readFactor_4 (by decide) rfl ?_
  refine q_iload_n (pc := 5) hG dX4_readFactor_5 0 rfl ?_
  refine q_bipush (pc := 6) hG dX4_readFactor_6 kb_91 ?_
  refine q_icmp_ne (pc := 8) hG 44 dX4_readFactor_8 rfl ?_ ?_
  · intro c8
    replace hF := fx_eq2 hF rfl tl_91 c8
    refine q_iload_n (pc := 44) hG dX4_readFactor_44 0 rfl ?_
    refine q_bipush (pc := 45) hG dX4_readFactor_45 kb_48 ?_
    refine q_bipush (pc := 47) hG dX4_readFactor_47 kb_57 ?_
    refine q_pN (pc := 49) [.int v1, .int 48, .int 57] [] hG (c_X11_isIn τ σ v1 48 57 hI) my_X11_isIn w238 nw_12 dX4_readFactor_49 rfl rfl (Nat.le_of_ble_eq_true rfl) (by decide) (fun v49 p49 => ?_)
    have fq49 := p49.2.1
    rewrite [tl_48, tl_57] at fq49
    replace hF := fx_E hF fq49
    refine q_if_eq (pc := 52) hG 60 dX4_readFactor_52 rfl ?_ ?_
    · intro c52
      replace hF := fx_eq1 hF rfl rfl c52
      refine q_iload_n (pc := 60) hG dX4_readFactor_60 0 rfl ?_
      refine q_pS (pc := 61) [.int v1] [] hG (c_X4_isValueLetter τ σ v1 hI) my_X4_isValueLetter w349 w348 dX4_readFactor_61 rfl rfl (Nat.le_of_ble_eq_true rfl) (by decide) (fun v61 p61 => ?_)
      replace hF := fx_E hF p61.2
      refine q_if_ne (pc := 64) hG 73 dX4_readFactor_64 rfl ?_ ?_
      · intro c64
        replace hF := fx_eq2 hF rfl rfl c64
        refine q_aload_n (pc := 73) hG dX4_readFactor_73 1 rfl ?_
        refine q_dup (pc := 74) hG dX4_readFactor_74 rfl ?_
        refine q_getI (pc := 75) hG fl_X4_22 dX4_readFactor_75 hI tA0 ff_4_2 (fun v75 f75 g75 => ?_)
        replace hF := fx_I hF f75 rfl
        refine q_iconst (pc := 78) hG dX4_readFactor_78 ki_1 ?_
        refine q_iadd (pc := 79) hG dX4_readFactor_79 (fun v79 e79 => ?_)
        replace hF := fx_B_add hF rfl tl_1 e79
        refine q_putI (pc := 80) hG fl_X4_22 dX4_readFactor_80 hS0 tA0 ff_4_2 (q_r_any v79) (by decide) rfl (fun s80 u80 w80 => ?_)
        replace hF := fx_P hF u80 rfl rfl
        have m80 : s80 a0 2 = .int v79 := by rw [u80]; exact q_up_same
        refine q_aload_n (pc := 83) hG dX4_readFactor_83 1 rfl ?_
        refine q_getR (pc := 84) (k2 := 3) (n2 := 1) hG fl_X4_31 dX4_readFactor_84 w80.1 tA0 ff_4_4 (fun b84 f84 T84 => ?_)
        replace hF := fx_R hF f84 rfl
        have f_1 := (w80.2 _ _ _ _ tA0 rfl).symm.trans f84
        refine q_bipush (pc := 87) hG dX4_readFactor_87 kb_105 ?_
        refine q_iload_n (pc := 89) hG dX4_readFactor_89 0 rfl ?_
        refine q_cVi (pc := 90) [.int 105, .int v1] [] hG (c_X3_add τ s80 b84 105 v1 w80.1 T84) my_X3_add mv_X3_add w344 dX4_readFactor_90 T84 (by decide) rfl rfl (Nat.le_of_ble_eq_true rfl) (by decide) (fun v90 s90 p90 => ?_)
        have w90 := w80.trans p90.1 rfl
        have fq90 := p90.2.2
        rewrite [tl_105] at fq90
        replace hF := fx_C hF fq90
        refine q_pop (pc := 93) hG dX4_readFactor_93 rfl ?_
        refine q_iconst (pc := 94) hG dX4_readFactor_94 ki_1 ?_
        exact q_zrt hG hE dX4_readFactor_95 (q_r.mono rl_1 (by decide)) ⟨w90, (q_r.mono rl_1 (by decide)), (by rw [tl_1]; exact fx_end hF hF0)⟩
      intro c64
      replace hF := fx_eq1 hF rfl rfl c64
      refine q_aload_n (pc := 67) hG dX4_readFactor_67 1 rfl ?_
      refine q_iconst (pc := 68) hG dX4_readFactor_68 ki_1 ?_
      refine q_cVi (pc := 69) [.int 1] [] hG (c_X4_fail τ σ a0 1 hI tA0) my_X4_fail mv_X4_fail w319 dX4_readFactor_69 tA0 (by decide) rfl rfl (Nat.le_of_ble_eq_true rfl) (by decide) (fun v69 s69 p69 => ?_)
      have w69 := hS0.trans p69.1 rfl
      have fq69 := p69.2.2
      rewrite [tl_1] at fq69
      replace hF := fx_C hF fq69
      exact q_zrt hG hE dX4_readFactor_72 (q_r.mono p69.2.1 (by decide)) ⟨w69, (q_r.mono p69.2.1 (by decide)), (fx_end hF hF0)⟩
    intro c52
    have g_2 := p49.2.2.mp (q_one p49.1 c52)
    have r_3 := q_rge p1.1 rl_48 g_2.1
    replace hF := fx_eq2 hF rfl rfl c52
    refine q_aload_n (pc := 55) hG dX4_readFactor_55 1 rfl ?_
    refine q_cVi (pc := 56) [] [] hG (c_X4_readNumber τ σ a0 hI tA0 at1 ht Tt) my_X4_readNumber mv_X4_readNumber w341 dX4_readFactor_56 tA0 (by decide) rfl rfl (Nat.le_of_ble_eq_true rfl) (by decide) (fun v56 s56 p56 => ?_)
    have w56 := hS0.trans p56.1 rfl
    replace hF := fx_C hF p56.2.2
    exact q_zrt hG hE dX4_readFactor_59 p56.2.1 ⟨w56, p56.2.1, (fx_end hF hF0)⟩
  intro c8
  replace hF := fx_eq1 hF rfl tl_91 c8
  refine q_aload_n (pc := 11) hG dX4_readFactor_11 1 rfl ?_
  refine q_iload_n (pc := 12) hG dX4_readFactor_12 2 rfl ?_
  refine q_cVi (pc := 13) [.int x1] [] hG (c_X4_mayOpen τ σ a0 x1 hI tA0) my_X4_mayOpen mv_X4_mayOpen w335 dX4_readFactor_13 tA0 (by decide) rfl rfl (Nat.le_of_ble_eq_true rfl) (by decide) (fun v13 s13 p13 => ?_)
  have w13 := hS0.trans p13.1 rfl
  replace hF := fx_C hF p13.2.2.1
  refine q_if_eq (pc := 16) hG 42 dX4_readFactor_16 rfl ?_ ?_
  · intro c16
    replace hF := fx_eq1 hF rfl rfl c16
    refine q_iconst (pc := 42) hG dX4_readFactor_42 ki_0 ?_
    exact q_zrt hG hE dX4_readFactor_43 (q_r.mono rl_0 (by decide)) ⟨w13, (q_r.mono rl_0 (by decide)), (by rw [tl_0]; exact fx_end hF hF0)⟩
  intro c16
  have g_4 := p13.2.2.2 (q_one p13.2.1 c16)
  exact absurd (show _ ≤ (5 : Int32).toInt from g_4) (by have l0 := tl_5; have q0 := rA1; unfold q_r at q0; omega)
theorem dX4_readTerm_0 : decode cX4_readTerm 0 = .ok (.aload_n 0, 1) := by decide +kernel
theorem dX4_readTerm_1 : decode cX4_readTerm 1 = .ok (.iload_n 1, 1) := by decide +kernel
theorem dX4_readTerm_2 : decode cX4_readTerm 2 = .ok (.invokevirtual 89, 3) := by decide +kernel
theorem dX4_readTerm_5 : decode cX4_readTerm 5 = .ok (.istore_n 2, 1) := by decide +kernel
theorem dX4_readTerm_6 : decode cX4_readTerm 6 = .ok (.iconst 0, 1) := by decide +kernel
theorem dX4_readTerm_7 : decode cX4_readTerm 7 = .ok (.istore_n 3, 1) := by decide +kernel
theorem dX4_readTerm_8 : decode cX4_readTerm 8 = .ok (.iload_n 3, 1) := by decide +kernel
theorem dX4_readTerm_9 : decode cX4_readTerm 9 = .ok (.sipush 240, 3) := by decide +kernel
theorem dX4_readTerm_12 : decode cX4_readTerm 12 = .ok (.if_icmp .ge 56, 3) := by decide +kernel
theorem dX4_readTerm_15 : decode cX4_readTerm 15 = .ok (.iload_n 2, 1) := by decide +kernel
theorem dX4_readTerm_16 : decode cX4_readTerm 16 = .ok (.ifCond .eq 52, 3) := by decide +kernel
theorem dX4_readTerm_19 : decode cX4_readTerm 19 = .ok (.aload_n 0, 1) := by decide +kernel
theorem dX4_readTerm_20 : decode cX4_readTerm 20 = .ok (.invokevirtual 51, 3) := by decide +kernel
theorem dX4_readTerm_23 : decode cX4_readTerm 23 = .ok (.invokestatic 92, 3) := by decide +kernel
theorem dX4_readTerm_26 : decode cX4_readTerm 26 = .ok (.ifCond .eq 42, 3) := by decide +kernel
theorem dX4_readTerm_29 : decode cX4_readTerm 29 = .ok (.aload_n 0, 1) := by decide +kernel
theorem dX4_readTerm_30 : decode cX4_readTerm 30 = .ok (.invokevirtual 51, 3) := by decide +kernel
theorem dX4_readTerm_33 : decode cX4_readTerm 33 = .ok (.istore 4, 2) := by decide +kernel
theorem dX4_readTerm_35 : decode cX4_readTerm 35 = .ok (.aload_n 0, 1) := by decide +kernel
theorem dX4_readTerm_36 : decode cX4_readTerm 36 = .ok (.dup, 1) := by decide +kernel
theorem dX4_readTerm_37 : decode cX4_readTerm 37 = .ok (.getfield 22, 3) := by decide +kernel
theorem dX4_readTerm_40 : decode cX4_readTerm 40 = .ok (.iconst 1, 1) := by decide +kernel
theorem dX4_readTerm_41 : decode cX4_readTerm 41 = .ok (.iadd, 1) := by decide +kernel
theorem dX4_readTerm_42 : decode cX4_readTerm 42 = .ok (.putfield 22, 3) := by decide +kernel
theorem dX4_readTerm_45 : decode cX4_readTerm 45 = .ok (.aload_n 0, 1) := by decide +kernel
theorem dX4_readTerm_46 : decode cX4_readTerm 46 = .ok (.iload_n 1, 1) := by decide +kernel
theorem dX4_readTerm_47 : decode cX4_readTerm 47 = .ok (.invokevirtual 89, 3) := by decide +kernel
theorem dX4_readTerm_50 : decode cX4_readTerm 50 = .ok (.istore_n 2, 1) := by decide +kernel
theorem dX4_readTerm_51 : decode cX4_readTerm 51 = .ok (.aload_n 0, 1) := by decide +kernel
theorem dX4_readTerm_52 : decode cX4_readTerm 52 = .ok (.getfield 31, 3) := by decide +kernel
theorem dX4_readTerm_55 : decode cX4_readTerm 55 = .ok (.iload 4, 2) := by decide +kernel
theorem dX4_readTerm_57 : decode cX4_readTerm 57 = .ok (.iconst 0, 1) := by decide +kernel
theorem dX4_readTerm_58 : decode cX4_readTerm 58 = .ok (.invokevirtual 65, 3) := by decide +kernel
theorem dX4_readTerm_61 : decode cX4_readTerm 61 = .ok (.pop, 1) := by decide +kernel
theorem dX4_readTerm_62 : decode cX4_readTerm 62 = .ok (.iinc 3 1, 3) := by decide +kernel
theorem dX4_readTerm_65 : decode cX4_readTerm 65 = .ok (.goto (-57), 3) := by decide +kernel
theorem dX4_readTerm_68 : decode cX4_readTerm 68 = .ok (.iload_n 2, 1) := by decide +kernel
theorem dX4_readTerm_69 : decode cX4_readTerm 69 = .ok (.ireturn, 1) := by decide +kernel
def md_X4_readTerm_L6 : List (Nat × Nat) := [(3, 1), (3, 2), (4, 2), (4, 3), (112, 0), (113, 0)]
set_option maxRecDepth 100000 in
set_option maxHeartbeats 4000000 in
theorem c_X4_readTerm_L6 {l : Launch} {D : q_D} (τ : q_T) (σ : q_V) (a0 : Nat) (x1 : Int32) (hI : q_I τ σ) (tA0 : τ a0 = some (4, 1)) (rA1 : q_r x1 6 6) (at1 : Nat) (ht : σ a0 0 = .ref at1) (Tt : τ at1 = some (110, 260)) : q_Ci l D yX4_readTerm cX4_readTerm 5 (some .boolean) 3 66 τ σ [.ref a0, .int x1] (fun r σ1 => q_S md_X4_readTerm_L6 τ σ σ1 ∧ (q_r r 0 1) ∧ ((r.toInt, fx_N σ1) = f_X4_readTerm_L6 (fx_N σ) a0 x1.toInt)) := by
  refine q_meti rfl (Nat.le_of_ble_eq_true rfl) (fun X hG hE => ?_)
  show q_O X 0 0 τ σ 0 [(0, .ref a0), (1, .int x1)] []
  have hS0 : q_S md_X4_readTerm_L6 τ σ σ := q_S.rf hI
  obtain ⟨Fv, hF⟩ : ∃ z, fx_eq z (f_X4_readTerm_L6 (fx_N σ) a0 x1.toInt) := ⟨_, fx_rf⟩
  have hF0 := hF
  unfold f_X4_readTerm_L6 at hF
  replace hF := fx_R hF ht rfl
  refine q_aload_n (pc := 0) hG dX4_readTerm_0 0 rfl ?_
  refine q_iload_n (pc := 1) hG dX4_readTerm_1 1 rfl ?_
  refine q_cVi (pc := 2) [.int x1] [] hG (c_X4_readFactor_L6 τ σ a0 x1 hI tA0 rA1 at1 ht Tt) my_X4_readFactor mv_X4_readFactor w332 dX4_readTerm_2 tA0 (by decide) rfl rfl (Nat.le_of_ble_eq_true rfl) (by decide) (fun v2 s2 p2 => ?_)
  have w2 := hS0.trans p2.1 rfl
  replace hF := fx_C hF p2.2.2
  refine q_istore_n (pc := 5) [(2, .int v2), (0, .ref a0), (1, .int x1)] hG dX4_readTerm_5 (by decide) rfl ?_
  refine q_iconst (pc := 6) hG dX4_readTerm_6 ki_0 ?_
  refine q_istore_n (pc := 7) [(3, .int 0), (2, .int v2), (0, .ref a0), (1, .int x1)] hG dX4_readTerm_7 (by decide) rfl ?_
  have J8 : ∀ (n8 : Nat) (p8_2 : Int32) (p8_3 : Int32) (σ8 : q_V), (q_r p8_2 0 1) → (q_r p8_3 0 240) → (q_S md_X4_readTerm_L6 τ σ σ8) → (fx_eq Fv (kL_X4_readTerm_L6_8 a0 x1.toInt n8 p8_2.toInt p8_3.toInt (fx_N σ8))) → ((240 - p8_3.toInt).toNat < n8) → q_O X 0 0 τ σ8 8 [(0, .ref a0), (1, .int x1), (2, .int p8_2), (3, .int p8_3)] [] := by
    intro n8
    induction n8 with
    | zero => intro p8_2 p8_3 σ8 r8_2 r8_3 hS8 hF hm8; exact absurd hm8 (Nat.not_lt_zero _)
    | succ n8 ih8 =>
      intro p8_2 p8_3 σ8 r8_2 r8_3 hS8 hF hm8
      replace hF := (show fx_eq Fv (kB_X4_readTerm_L6_8 (kL_X4_readTerm_L6_8 a0 x1.toInt n8) a0 x1.toInt p8_2.toInt p8_3.toInt (fx_N σ8)) from hF)
      unfold kB_X4_readTerm_L6_8 at hF
      refine q_iload_n (pc := 8) hG dX4_readTerm_8 3 rfl ?_
      refine q_sipush (pc := 9) hG dX4_readTerm_9 ks_240 ?_
      refine q_icmp_ge (pc := 12) hG 68 dX4_readTerm_12 rfl ?_ ?_
      · intro c12
        replace hF := fx_lt2 hF rfl tl_240 c12
        refine q_iload_n (pc := 68) hG dX4_readTerm_68 2 rfl ?_
        exact q_zrt hG hE dX4_readTerm_69 r8_2 ⟨hS8, r8_2, (fx_end hF hF0)⟩
      intro c12
      replace hF := fx_lt1 hF rfl tl_240 c12
      refine q_iload_n (pc := 15) hG dX4_readTerm_15 2 rfl ?_
      refine q_if_eq (pc := 16) hG 68 dX4_readTerm_16 rfl ?_ ?_
      · intro c16
        replace hF := fx_eq1 hF rfl rfl c16
        refine q_iload_n (pc := 68) hG dX4_readTerm_68 2 rfl ?_
        have r_1 := q_zeq c16
        exact q_zrt hG hE dX4_readTerm_69 (q_r.mono r_1 (by decide)) ⟨hS8, (q_r.mono r_1 (by decide)), (fx_end hF hF0)⟩
      intro c16
      replace hF := fx_eq2 hF rfl rfl c16
      refine q_aload_n (pc := 19) hG dX4_readTerm_19 0 rfl ?_
      refine q_pV (pc := 20) [] [] hG (c_X4_peek τ σ8 a0 hS8.1 tA0 at1 (hS8.same tA0 rfl ht) Tt) my_X4_peek mv_X4_peek w316 dX4_readTerm_20 tA0 (by decide) rfl rfl (Nat.le_of_ble_eq_true rfl) (by decide) (fun v20 p20 => ?_)
      replace hF := fx_E hF p20.2
      refine q_pS (pc := 23) [.int v20] [] hG (c_X4_isTimes τ σ8 v20 hS8.1) my_X4_isTimes w352 w351 dX4_readTerm_23 rfl rfl (Nat.le_of_ble_eq_true rfl) (by decide) (fun v23 p23 => ?_)
      replace hF := fx_E hF p23.2
      refine q_if_eq (pc := 26) hG 68 dX4_readTerm_26 rfl ?_ ?_
      · intro c26
        replace hF := fx_eq1 hF rfl rfl c26
        refine q_iload_n (pc := 68) hG dX4_readTerm_68 2 rfl ?_
        have r_2 := q_neL (c := 1) r8_2 c16 (by decide)
        exact q_zrt hG hE dX4_readTerm_69 (q_r.mono r_2 (by decide)) ⟨hS8, (q_r.mono r_2 (by decide)), (fx_end hF hF0)⟩
      intro c26
      replace hF := fx_eq2 hF rfl rfl c26
      refine q_aload_n (pc := 29) hG dX4_readTerm_29 0 rfl ?_
      refine q_pV (pc := 30) [] [] hG (c_X4_peek τ σ8 a0 hS8.1 tA0 at1 (hS8.same tA0 rfl ht) Tt) my_X4_peek mv_X4_peek w316 dX4_readTerm_30 tA0 (by decide) rfl rfl (Nat.le_of_ble_eq_true rfl) (by decide) (fun v30 p30 => ?_)
      replace hF := fx_E hF p30.2
      refine q_istore (pc := 33) [(4, .int v30), (0, .ref a0), (1, .int x1), (2, .int p8_2), (3, .int p8_3)] hG dX4_readTerm_33 (by decide) rfl ?_
      refine q_aload_n (pc := 35) hG dX4_readTerm_35 1 rfl ?_
      refine q_dup (pc := 36) hG dX4_readTerm_36 rfl ?_
      refine q_getI (pc := 37) hG fl_X4_22 dX4_readTerm_37 hS8.1 tA0 ff_4_2 (fun v37 f37 g37 => ?_)
      replace hF := fx_I hF f37 rfl
      refine q_iconst (pc := 40) hG dX4_readTerm_40 ki_1 ?_
      refine q_iadd (pc := 41) hG dX4_readTerm_41 (fun v41 e41 => ?_)
      replace hF := fx_B_add hF rfl tl_1 e41
      refine q_putI (pc := 42) hG fl_X4_22 dX4_readTerm_42 hS8 tA0 ff_4_2 (q_r_any v41) (by decide) rfl (fun s42 u42 w42 => ?_)
      replace hF := fx_P hF u42 rfl rfl
      have m42 : s42 a0 2 = .int v41 := by rw [u42]; exact q_up_same
      refine q_aload_n (pc := 45) hG dX4_readTerm_45 1 rfl ?_
      refine q_iload_n (pc := 46) hG dX4_readTerm_46 2 rfl ?_
      refine q_cVi (pc := 47) [.int x1] [] hG (c_X4_readFactor_L6 τ s42 a0 x1 w42.1 tA0 rA1 at1 (w42.same tA0 rfl ht) Tt) my_X4_readFactor mv_X4_readFactor w332 dX4_readTerm_47 tA0 (by decide) rfl rfl (Nat.le_of_ble_eq_true rfl) (by decide) (fun v47 s47 p47 => ?_)
      have w47 := w42.trans p47.1 rfl
      replace hF := fx_C hF p47.2.2
      refine q_istore_n (pc := 50) [(2, .int v47), (4, .int v30), (0, .ref a0), (1, .int x1), (3, .int p8_3)] hG dX4_readTerm_50 (by decide) rfl ?_
      refine q_aload_n (pc := 51) hG dX4_readTerm_51 2 rfl ?_
      refine q_getR (pc := 52) (k2 := 3) (n2 := 1) hG fl_X4_31 dX4_readTerm_52 w47.1 tA0 ff_4_4 (fun b52 f52 T52 => ?_)
      replace hF := fx_R hF f52 rfl
      have f_3 := (w47.2 _ _ _ _ tA0 rfl).symm.trans f52
      refine q_iload (pc := 55) hG dX4_readTerm_55 1 rfl ?_
      refine q_iconst (pc := 57) hG dX4_readTerm_57 ki_0 ?_
      refine q_cVi (pc := 58) [.int v30, .int 0] [] hG (c_X3_add τ s47 b52 v30 0 w47.1 T52) my_X3_add mv_X3_add w344 dX4_readTerm_58 T52 (by decide) rfl rfl (Nat.le_of_ble_eq_true rfl) (by decide) (fun v58 s58 p58 => ?_)
      have w58 := w47.trans p58.1 rfl
      have fq58 := p58.2.2
      rewrite [tl_0] at fq58
      replace hF := fx_C hF fq58
      refine q_pop (pc := 61) hG dX4_readTerm_61 rfl ?_
      obtain ⟨v62, e62⟩ : ∃ z : Int32, z = p8_3 + Int32.ofInt 1 := ⟨_, rfl⟩
      have r_4 := q_rlt r8_3 rl_240 c12 239 (by decide)
      have h62 := q_incN (lo := 1) (hi := 240) r_4 (by decide) (by decide) e62
      replace hF := fx_add hF rfl rfl h62.1
      refine q_iinc (pc := 62) [(3, .int v62), (2, .int v47), (4, .int v30), (0, .ref a0), (1, .int x1)] hG dX4_readTerm_62 4 rfl e62 (by decide) rfl ?_
      refine q_goto (pc := 65) 8 hG dX4_readTerm_65 rfl ?_
      refine q_lv [3, 4, 1, 0] rfl ?_
      exact ih8 v47 v62 s58 p47.2.1 (q_r.mono h62.2 (by decide)) w58 hF (q_measU hm8 (by have o0 := c12; have o1 := h62.1; have o2 := r_4; have o3 := h62.2; have l4 := tl_240; unfold q_r at o2 o3; omega) (h62.2).2)
  refine q_lv [2, 3, 1, 0] rfl ?_
  exact J8 ((240 - (0 : Int32).toInt).toNat + 1) v2 0 s2 p2.2.1 (q_r.mono rl_0 (by decide)) w2 (by rw [tl_0]; exact hF) (Nat.lt_succ_self _)
theorem dX4_readSum_0 : decode cX4_readSum 0 = .ok (.aload_n 0, 1) := by decide +kernel
theorem dX4_readSum_1 : decode cX4_readSum 1 = .ok (.iload_n 1, 1) := by decide +kernel
theorem dX4_readSum_2 : decode cX4_readSum 2 = .ok (.invokevirtual 86, 3) := by decide +kernel
theorem dX4_readSum_5 : decode cX4_readSum 5 = .ok (.istore_n 2, 1) := by decide +kernel
theorem dX4_readSum_6 : decode cX4_readSum 6 = .ok (.iconst 0, 1) := by decide +kernel
theorem dX4_readSum_7 : decode cX4_readSum 7 = .ok (.istore_n 3, 1) := by decide +kernel
theorem dX4_readSum_8 : decode cX4_readSum 8 = .ok (.iload_n 3, 1) := by decide +kernel
theorem dX4_readSum_9 : decode cX4_readSum 9 = .ok (.sipush 240, 3) := by decide +kernel
theorem dX4_readSum_12 : decode cX4_readSum 12 = .ok (.if_icmp .ge 64, 3) := by decide +kernel
theorem dX4_readSum_15 : decode cX4_readSum 15 = .ok (.iload_n 2, 1) := by decide +kernel
theorem dX4_readSum_16 : decode cX4_readSum 16 = .ok (.ifCond .eq 60, 3) := by decide +kernel
theorem dX4_readSum_19 : decode cX4_readSum 19 = .ok (.aload_n 0, 1) := by decide +kernel
theorem dX4_readSum_20 : decode cX4_readSum 20 = .ok (.invokevirtual 51, 3) := by decide +kernel
theorem dX4_readSum_23 : decode cX4_readSum 23 = .ok (.bipush 43, 2) := by decide +kernel
theorem dX4_readSum_25 : decode cX4_readSum 25 = .ok (.if_icmp .eq 12, 3) := by decide +kernel
theorem dX4_readSum_28 : decode cX4_readSum 28 = .ok (.aload_n 0, 1) := by decide +kernel
theorem dX4_readSum_29 : decode cX4_readSum 29 = .ok (.invokevirtual 51, 3) := by decide +kernel
theorem dX4_readSum_32 : decode cX4_readSum 32 = .ok (.bipush 45, 2) := by decide +kernel
theorem dX4_readSum_34 : decode cX4_readSum 34 = .ok (.if_icmp .ne 42, 3) := by decide +kernel
theorem dX4_readSum_37 : decode cX4_readSum 37 = .ok (.aload_n 0, 1) := by decide +kernel
theorem dX4_readSum_38 : decode cX4_readSum 38 = .ok (.invokevirtual 51, 3) := by decide +kernel
theorem dX4_readSum_41 : decode cX4_readSum 41 = .ok (.istore 4, 2) := by decide +kernel
theorem dX4_readSum_43 : decode cX4_readSum 43 = .ok (.aload_n 0, 1) := by decide +kernel
theorem dX4_readSum_44 : decode cX4_readSum 44 = .ok (.dup, 1) := by decide +kernel
theorem dX4_readSum_45 : decode cX4_readSum 45 = .ok (.getfield 22, 3) := by decide +kernel
theorem dX4_readSum_48 : decode cX4_readSum 48 = .ok (.iconst 1, 1) := by decide +kernel
theorem dX4_readSum_49 : decode cX4_readSum 49 = .ok (.iadd, 1) := by decide +kernel
theorem dX4_readSum_50 : decode cX4_readSum 50 = .ok (.putfield 22, 3) := by decide +kernel
theorem dX4_readSum_53 : decode cX4_readSum 53 = .ok (.aload_n 0, 1) := by decide +kernel
theorem dX4_readSum_54 : decode cX4_readSum 54 = .ok (.iload_n 1, 1) := by decide +kernel
theorem dX4_readSum_55 : decode cX4_readSum 55 = .ok (.invokevirtual 86, 3) := by decide +kernel
theorem dX4_readSum_58 : decode cX4_readSum 58 = .ok (.istore_n 2, 1) := by decide +kernel
theorem dX4_readSum_59 : decode cX4_readSum 59 = .ok (.aload_n 0, 1) := by decide +kernel
theorem dX4_readSum_60 : decode cX4_readSum 60 = .ok (.getfield 31, 3) := by decide +kernel
theorem dX4_readSum_63 : decode cX4_readSum 63 = .ok (.iload 4, 2) := by decide +kernel
theorem dX4_readSum_65 : decode cX4_readSum 65 = .ok (.iconst 0, 1) := by decide +kernel
theorem dX4_readSum_66 : decode cX4_readSum 66 = .ok (.invokevirtual 65, 3) := by decide +kernel
theorem dX4_readSum_69 : decode cX4_readSum 69 = .ok (.pop, 1) := by decide +kernel
theorem dX4_readSum_70 : decode cX4_readSum 70 = .ok (.iinc 3 1, 3) := by decide +kernel
theorem dX4_readSum_73 : decode cX4_readSum 73 = .ok (.goto (-65), 3) := by decide +kernel
theorem dX4_readSum_76 : decode cX4_readSum 76 = .ok (.iload_n 2, 1) := by decide +kernel
theorem dX4_readSum_77 : decode cX4_readSum 77 = .ok (.ireturn, 1) := by decide +kernel
def md_X4_readSum_L6 : List (Nat × Nat) := [(3, 1), (3, 2), (4, 2), (4, 3), (112, 0), (113, 0)]
set_option maxRecDepth 100000 in
set_option maxHeartbeats 4000000 in
theorem c_X4_readSum_L6 {l : Launch} {D : q_D} (τ : q_T) (σ : q_V) (a0 : Nat) (x1 : Int32) (hI : q_I τ σ) (tA0 : τ a0 = some (4, 1)) (rA1 : q_r x1 6 6) (at1 : Nat) (ht : σ a0 0 = .ref at1) (Tt : τ at1 = some (110, 260)) : q_Ci l D yX4_readSum cX4_readSum 5 (some .boolean) 4 90 τ σ [.ref a0, .int x1] (fun r σ1 => q_S md_X4_readSum_L6 τ σ σ1 ∧ (q_r r 0 1) ∧ ((r.toInt, fx_N σ1) = f_X4_readSum_L6 (fx_N σ) a0 x1.toInt)) := by
  refine q_meti rfl (Nat.le_of_ble_eq_true rfl) (fun X hG hE => ?_)
  show q_O X 0 0 τ σ 0 [(0, .ref a0), (1, .int x1)] []
  have hS0 : q_S md_X4_readSum_L6 τ σ σ := q_S.rf hI
  obtain ⟨Fv, hF⟩ : ∃ z, fx_eq z (f_X4_readSum_L6 (fx_N σ) a0 x1.toInt) := ⟨_, fx_rf⟩
  have hF0 := hF
  unfold f_X4_readSum_L6 at hF
  replace hF := fx_R hF ht rfl
  refine q_aload_n (pc := 0) hG dX4_readSum_0 0 rfl ?_
  refine q_iload_n (pc := 1) hG dX4_readSum_1 1 rfl ?_
  refine q_cVi (pc := 2) [.int x1] [] hG (c_X4_readTerm_L6 τ σ a0 x1 hI tA0 rA1 at1 ht Tt) my_X4_readTerm mv_X4_readTerm w329 dX4_readSum_2 tA0 (by decide) rfl rfl (Nat.le_of_ble_eq_true rfl) (by decide) (fun v2 s2 p2 => ?_)
  have w2 := hS0.trans p2.1 rfl
  replace hF := fx_C hF p2.2.2
  refine q_istore_n (pc := 5) [(2, .int v2), (0, .ref a0), (1, .int x1)] hG dX4_readSum_5 (by decide) rfl ?_
  refine q_iconst (pc := 6) hG dX4_readSum_6 ki_0 ?_
  refine q_istore_n (pc := 7) [(3, .int 0), (2, .int v2), (0, .ref a0), (1, .int x1)] hG dX4_readSum_7 (by decide) rfl ?_
  have J8 : ∀ (n8 : Nat) (p8_2 : Int32) (p8_3 : Int32) (σ8 : q_V), (q_r p8_2 0 1) → (q_r p8_3 0 240) → (q_S md_X4_readSum_L6 τ σ σ8) → (fx_eq Fv (kL_X4_readSum_L6_8 a0 x1.toInt n8 p8_2.toInt p8_3.toInt (fx_N σ8))) → ((240 - p8_3.toInt).toNat < n8) → q_O X 0 0 τ σ8 8 [(0, .ref a0), (1, .int x1), (2, .int p8_2), (3, .int p8_3)] [] := by
    intro n8
    induction n8 with
    | zero => intro p8_2 p8_3 σ8 r8_2 r8_3 hS8 hF hm8; exact absurd hm8 (Nat.not_lt_zero _)
    | succ n8 ih8 =>
      intro p8_2 p8_3 σ8 r8_2 r8_3 hS8 hF hm8
      replace hF := (show fx_eq Fv (kB_X4_readSum_L6_8 (kL_X4_readSum_L6_8 a0 x1.toInt n8) a0 x1.toInt p8_2.toInt p8_3.toInt (fx_N σ8)) from hF)
      unfold kB_X4_readSum_L6_8 at hF
      refine q_iload_n (pc := 8) hG dX4_readSum_8 3 rfl ?_
      refine q_sipush (pc := 9) hG dX4_readSum_9 ks_240 ?_
      refine q_icmp_ge (pc := 12) hG 76 dX4_readSum_12 rfl ?_ ?_
      · intro c12
        replace hF := fx_lt2 hF rfl tl_240 c12
        refine q_iload_n (pc := 76) hG dX4_readSum_76 2 rfl ?_
        exact q_zrt hG hE dX4_readSum_77 r8_2 ⟨hS8, r8_2, (fx_end hF hF0)⟩
      intro c12
      replace hF := fx_lt1 hF rfl tl_240 c12
      refine q_iload_n (pc := 15) hG dX4_readSum_15 2 rfl ?_
      refine q_if_eq (pc := 16) hG 76 dX4_readSum_16 rfl ?_ ?_
      · intro c16
        replace hF := fx_eq1 hF rfl rfl c16
        refine q_iload_n (pc := 76) hG dX4_readSum_76 2 rfl ?_
        have r_1 := q_zeq c16
        exact q_zrt hG hE dX4_readSum_77 (q_r.mono r_1 (by decide)) ⟨hS8, (q_r.mono r_1 (by decide)), (fx_end hF hF0)⟩
      intro c16
      replace hF := fx_eq2 hF rfl rfl c16
      refine q_aload_n (pc := 19) hG dX4_readSum_19 0 rfl ?_
      refine q_pV (pc := 20) [] [] hG (c_X4_peek τ σ8 a0 hS8.1 tA0 at1 (hS8.same tA0 rfl ht) Tt) my_X4_peek mv_X4_peek w316 dX4_readSum_20 tA0 (by decide) rfl rfl (Nat.le_of_ble_eq_true rfl) (by decide) (fun v20 p20 => ?_)
      replace hF := fx_E hF p20.2
      refine q_bipush (pc := 23) hG dX4_readSum_23 kb_43 ?_
      have J37 : (fx_eq Fv (kJ_X4_readSum_L6_37 (fx_N σ8) a0 x1.toInt p8_3.toInt (kL_X4_readSum_L6_8 a0 x1.toInt n8))) → q_O X 0 0 τ σ8 37 [(0, .ref a0), (1, .int x1), (3, .int p8_3)] [] := by
        intro hF
        unfold kJ_X4_readSum_L6_37 at hF
        refine q_aload_n (pc := 37) hG dX4_readSum_37 0 rfl ?_
        refine q_pV (pc := 38) [] [] hG (c_X4_peek τ σ8 a0 hS8.1 tA0 at1 (hS8.same tA0 rfl ht) Tt) my_X4_peek mv_X4_peek w316 dX4_readSum_38 tA0 (by decide) rfl rfl (Nat.le_of_ble_eq_true rfl) (by decide) (fun v38 p38 => ?_)
        replace hF := fx_E hF p38.2
        refine q_istore (pc := 41) [(4, .int v38), (0, .ref a0), (1, .int x1), (3, .int p8_3)] hG dX4_readSum_41 (by decide) rfl ?_
        refine q_aload_n (pc := 43) hG dX4_readSum_43 1 rfl ?_
        refine q_dup (pc := 44) hG dX4_readSum_44 rfl ?_
        refine q_getI (pc := 45) hG fl_X4_22 dX4_readSum_45 hS8.1 tA0 ff_4_2 (fun v45 f45 g45 => ?_)
        replace hF := fx_I hF f45 rfl
        refine q_iconst (pc := 48) hG dX4_readSum_48 ki_1 ?_
        refine q_iadd (pc := 49) hG dX4_readSum_49 (fun v49 e49 => ?_)
        replace hF := fx_B_add hF rfl tl_1 e49
        refine q_putI (pc := 50) hG fl_X4_22 dX4_readSum_50 hS8 tA0 ff_4_2 (q_r_any v49) (by decide) rfl (fun s50 u50 w50 => ?_)
        replace hF := fx_P hF u50 rfl rfl
        have m50 : s50 a0 2 = .int v49 := by rw [u50]; exact q_up_same
        refine q_aload_n (pc := 53) hG dX4_readSum_53 1 rfl ?_
        refine q_iload_n (pc := 54) hG dX4_readSum_54 2 rfl ?_
        refine q_cVi (pc := 55) [.int x1] [] hG (c_X4_readTerm_L6 τ s50 a0 x1 w50.1 tA0 rA1 at1 (w50.same tA0 rfl ht) Tt) my_X4_readTerm mv_X4_readTerm w329 dX4_readSum_55 tA0 (by decide) rfl rfl (Nat.le_of_ble_eq_true rfl) (by decide) (fun v55 s55 p55 => ?_)
        have w55 := w50.trans p55.1 rfl
        replace hF := fx_C hF p55.2.2
        refine q_istore_n (pc := 58) [(2, .int v55), (4, .int v38), (0, .ref a0), (1, .int x1), (3, .int p8_3)] hG dX4_readSum_58 (by decide) rfl ?_
        refine q_aload_n (pc := 59) hG dX4_readSum_59 2 rfl ?_
        refine q_getR (pc := 60) (k2 := 3) (n2 := 1) hG fl_X4_31 dX4_readSum_60 w55.1 tA0 ff_4_4 (fun b60 f60 T60 => ?_)
        replace hF := fx_R hF f60 rfl
        have f_2 := (w55.2 _ _ _ _ tA0 rfl).symm.trans f60
        refine q_iload (pc := 63) hG dX4_readSum_63 1 rfl ?_
        refine q_iconst (pc := 65) hG dX4_readSum_65 ki_0 ?_
        refine q_cVi (pc := 66) [.int v38, .int 0] [] hG (c_X3_add τ s55 b60 v38 0 w55.1 T60) my_X3_add mv_X3_add w344 dX4_readSum_66 T60 (by decide) rfl rfl (Nat.le_of_ble_eq_true rfl) (by decide) (fun v66 s66 p66 => ?_)
        have w66 := w55.trans p66.1 rfl
        have fq66 := p66.2.2
        rewrite [tl_0] at fq66
        replace hF := fx_C hF fq66
        refine q_pop (pc := 69) hG dX4_readSum_69 rfl ?_
        obtain ⟨v70, e70⟩ : ∃ z : Int32, z = p8_3 + Int32.ofInt 1 := ⟨_, rfl⟩
        have r_3 := q_rlt r8_3 rl_240 c12 239 (by decide)
        have h70 := q_incN (lo := 1) (hi := 240) r_3 (by decide) (by decide) e70
        replace hF := fx_add hF rfl rfl h70.1
        refine q_iinc (pc := 70) [(3, .int v70), (2, .int v55), (4, .int v38), (0, .ref a0), (1, .int x1)] hG dX4_readSum_70 4 rfl e70 (by decide) rfl ?_
        refine q_goto (pc := 73) 8 hG dX4_readSum_73 rfl ?_
        refine q_lv [3, 4, 1, 0] rfl ?_
        exact ih8 v55 v70 s66 p55.2.1 (q_r.mono h70.2 (by decide)) w66 hF (q_measU hm8 (by have o0 := c12; have o1 := h70.1; have o2 := r_3; have o3 := h70.2; have l4 := tl_240; unfold q_r at o2 o3; omega) (h70.2).2)
      refine q_icmp_eq (pc := 25) hG 37 dX4_readSum_25 rfl ?_ ?_
      · intro c25
        replace hF := fx_eq1 hF rfl tl_43 c25
        refine q_lv [0, 1, 3] rfl ?_
        exact J37 hF
      intro c25
      replace hF := fx_eq2 hF rfl tl_43 c25
      refine q_aload_n (pc := 28) hG dX4_readSum_28 0 rfl ?_
      refine q_pV (pc := 29) [] [] hG (c_X4_peek τ σ8 a0 hS8.1 tA0 at1 (hS8.same tA0 rfl ht) Tt) my_X4_peek mv_X4_peek w316 dX4_readSum_29 tA0 (by decide) rfl rfl (Nat.le_of_ble_eq_true rfl) (by decide) (fun v29 p29 => ?_)
      replace hF := fx_E hF p29.2
      refine q_bipush (pc := 32) hG dX4_readSum_32 kb_45 ?_
      refine q_icmp_ne (pc := 34) hG 76 dX4_readSum_34 rfl ?_ ?_
      · intro c34
        replace hF := fx_eq2 hF rfl tl_45 c34
        refine q_iload_n (pc := 76) hG dX4_readSum_76 2 rfl ?_
        have r_4 := q_neL (c := 1) r8_2 c16 (by decide)
        exact q_zrt hG hE dX4_readSum_77 (q_r.mono r_4 (by decide)) ⟨hS8, (q_r.mono r_4 (by decide)), (fx_end hF hF0)⟩
      intro c34
      replace hF := fx_eq1 hF rfl tl_45 c34
      refine q_lv [0, 1, 3] rfl ?_
      exact J37 hF
  refine q_lv [2, 3, 1, 0] rfl ?_
  exact J8 ((240 - (0 : Int32).toInt).toNat + 1) v2 0 s2 p2.2.1 (q_r.mono rl_0 (by decide)) w2 (by rw [tl_0]; exact hF) (Nat.lt_succ_self _)
def md_X4_readFactor_L5 : List (Nat × Nat) := [(3, 1), (3, 2), (4, 2), (4, 3), (112, 0), (113, 0)]
set_option maxRecDepth 100000 in
set_option maxHeartbeats 4000000 in
theorem c_X4_readFactor_L5 {l : Launch} {D : q_D} (τ : q_T) (σ : q_V) (a0 : Nat) (x1 : Int32) (hI : q_I τ σ) (tA0 : τ a0 = some (4, 1)) (rA1 : q_r x1 5 5) (at1 : Nat) (ht : σ a0 0 = .ref at1) (Tt : τ at1 = some (110, 260)) : q_Ci l D yX4_readFactor cX4_readFactor 3 (some .boolean) 5 114 τ σ [.ref a0, .int x1] (fun r σ1 => q_S md_X4_readFactor_L5 τ σ σ1 ∧ (q_r r 0 1) ∧ ((r.toInt, fx_N σ1) = f_X4_readFactor_L5 (fx_N σ) a0 x1.toInt)) := by
  refine q_meti rfl (Nat.le_of_ble_eq_true rfl) (fun X hG hE => ?_)
  show q_O X 0 0 τ σ 0 [(0, .ref a0), (1, .int x1)] []
  have hS0 : q_S md_X4_readFactor_L5 τ σ σ := q_S.rf hI
  obtain ⟨Fv, hF⟩ : ∃ z, fx_eq z (f_X4_readFactor_L5 (fx_N σ) a0 x1.toInt) := ⟨_, fx_rf⟩
  have hF0 := hF
  unfold f_X4_readFactor_L5 at hF
  replace hF := fx_R hF ht rfl
  refine q_aload_n (pc := 0) hG dX4_readFactor_0 0 rfl ?_
  refine q_pV (pc := 1) [] [] hG (c_X4_peek τ σ a0 hI tA0 at1 ht Tt) my_X4_peek mv_X4_peek w316 dX4_readFactor_1 tA0 (by decide) rfl rfl (Nat.le_of_ble_eq_true rfl) (by decide) (fun v1 p1 => ?_)
  replace hF := fx_E hF p1.2
  refine q_istore_n (pc := 4) [(2, .int v1), (0, .ref a0), (1, .int x1)] hG dX4_readFactor_4 (by decide) rfl ?_
  refine q_iload_n (pc := 5) hG dX4_readFactor_5 0 rfl ?_
  refine q_bipush (pc := 6) hG dX4_readFactor_6 kb_91 ?_
  refine q_icmp_ne (pc := 8) hG 44 dX4_readFactor_8 rfl ?_ ?_
  · intro c8
    replace hF := fx_eq2 hF rfl tl_91 c8
    refine q_iload_n (pc := 44) hG dX4_readFactor_44 0 rfl ?_
    refine q_bipush (pc := 45) hG dX4_readFactor_45 kb_48 ?_
    refine q_bipush (pc := 47) hG dX4_readFactor_47 kb_57 ?_
    refine q_pN (pc := 49) [.int v1, .int 48, .int 57] [] hG (c_X11_isIn τ σ v1 48 57 hI) my_X11_isIn w238 nw_12 dX4_readFactor_49 rfl rfl (Nat.le_of_ble_eq_true rfl) (by decide) (fun v49 p49 => ?_)
    have fq49 := p49.2.1
    rewrite [tl_48, tl_57] at fq49
    replace hF := fx_E hF fq49
    refine q_if_eq (pc := 52) hG 60 dX4_readFactor_52 rfl ?_ ?_
    · intro c52
      replace hF := fx_eq1 hF rfl rfl c52
      refine q_iload_n (pc := 60) hG dX4_readFactor_60 0 rfl ?_
      refine q_pS (pc := 61) [.int v1] [] hG (c_X4_isValueLetter τ σ v1 hI) my_X4_isValueLetter w349 w348 dX4_readFactor_61 rfl rfl (Nat.le_of_ble_eq_true rfl) (by decide) (fun v61 p61 => ?_)
      replace hF := fx_E hF p61.2
      refine q_if_ne (pc := 64) hG 73 dX4_readFactor_64 rfl ?_ ?_
      · intro c64
        replace hF := fx_eq2 hF rfl rfl c64
        refine q_aload_n (pc := 73) hG dX4_readFactor_73 1 rfl ?_
        refine q_dup (pc := 74) hG dX4_readFactor_74 rfl ?_
        refine q_getI (pc := 75) hG fl_X4_22 dX4_readFactor_75 hI tA0 ff_4_2 (fun v75 f75 g75 => ?_)
        replace hF := fx_I hF f75 rfl
        refine q_iconst (pc := 78) hG dX4_readFactor_78 ki_1 ?_
        refine q_iadd (pc := 79) hG dX4_readFactor_79 (fun v79 e79 => ?_)
        replace hF := fx_B_add hF rfl tl_1 e79
        refine q_putI (pc := 80) hG fl_X4_22 dX4_readFactor_80 hS0 tA0 ff_4_2 (q_r_any v79) (by decide) rfl (fun s80 u80 w80 => ?_)
        replace hF := fx_P hF u80 rfl rfl
        have m80 : s80 a0 2 = .int v79 := by rw [u80]; exact q_up_same
        refine q_aload_n (pc := 83) hG dX4_readFactor_83 1 rfl ?_
        refine q_getR (pc := 84) (k2 := 3) (n2 := 1) hG fl_X4_31 dX4_readFactor_84 w80.1 tA0 ff_4_4 (fun b84 f84 T84 => ?_)
        replace hF := fx_R hF f84 rfl
        have f_1 := (w80.2 _ _ _ _ tA0 rfl).symm.trans f84
        refine q_bipush (pc := 87) hG dX4_readFactor_87 kb_105 ?_
        refine q_iload_n (pc := 89) hG dX4_readFactor_89 0 rfl ?_
        refine q_cVi (pc := 90) [.int 105, .int v1] [] hG (c_X3_add τ s80 b84 105 v1 w80.1 T84) my_X3_add mv_X3_add w344 dX4_readFactor_90 T84 (by decide) rfl rfl (Nat.le_of_ble_eq_true rfl) (by decide) (fun v90 s90 p90 => ?_)
        have w90 := w80.trans p90.1 rfl
        have fq90 := p90.2.2
        rewrite [tl_105] at fq90
        replace hF := fx_C hF fq90
        refine q_pop (pc := 93) hG dX4_readFactor_93 rfl ?_
        refine q_iconst (pc := 94) hG dX4_readFactor_94 ki_1 ?_
        exact q_zrt hG hE dX4_readFactor_95 (q_r.mono rl_1 (by decide)) ⟨w90, (q_r.mono rl_1 (by decide)), (by rw [tl_1]; exact fx_end hF hF0)⟩
      intro c64
      replace hF := fx_eq1 hF rfl rfl c64
      refine q_aload_n (pc := 67) hG dX4_readFactor_67 1 rfl ?_
      refine q_iconst (pc := 68) hG dX4_readFactor_68 ki_1 ?_
      refine q_cVi (pc := 69) [.int 1] [] hG (c_X4_fail τ σ a0 1 hI tA0) my_X4_fail mv_X4_fail w319 dX4_readFactor_69 tA0 (by decide) rfl rfl (Nat.le_of_ble_eq_true rfl) (by decide) (fun v69 s69 p69 => ?_)
      have w69 := hS0.trans p69.1 rfl
      have fq69 := p69.2.2
      rewrite [tl_1] at fq69
      replace hF := fx_C hF fq69
      exact q_zrt hG hE dX4_readFactor_72 (q_r.mono p69.2.1 (by decide)) ⟨w69, (q_r.mono p69.2.1 (by decide)), (fx_end hF hF0)⟩
    intro c52
    have g_2 := p49.2.2.mp (q_one p49.1 c52)
    have r_3 := q_rge p1.1 rl_48 g_2.1
    replace hF := fx_eq2 hF rfl rfl c52
    refine q_aload_n (pc := 55) hG dX4_readFactor_55 1 rfl ?_
    refine q_cVi (pc := 56) [] [] hG (c_X4_readNumber τ σ a0 hI tA0 at1 ht Tt) my_X4_readNumber mv_X4_readNumber w341 dX4_readFactor_56 tA0 (by decide) rfl rfl (Nat.le_of_ble_eq_true rfl) (by decide) (fun v56 s56 p56 => ?_)
    have w56 := hS0.trans p56.1 rfl
    replace hF := fx_C hF p56.2.2
    exact q_zrt hG hE dX4_readFactor_59 p56.2.1 ⟨w56, p56.2.1, (fx_end hF hF0)⟩
  intro c8
  replace hF := fx_eq1 hF rfl tl_91 c8
  refine q_aload_n (pc := 11) hG dX4_readFactor_11 1 rfl ?_
  refine q_iload_n (pc := 12) hG dX4_readFactor_12 2 rfl ?_
  refine q_cVi (pc := 13) [.int x1] [] hG (c_X4_mayOpen τ σ a0 x1 hI tA0) my_X4_mayOpen mv_X4_mayOpen w335 dX4_readFactor_13 tA0 (by decide) rfl rfl (Nat.le_of_ble_eq_true rfl) (by decide) (fun v13 s13 p13 => ?_)
  have w13 := hS0.trans p13.1 rfl
  replace hF := fx_C hF p13.2.2.1
  refine q_if_eq (pc := 16) hG 42 dX4_readFactor_16 rfl ?_ ?_
  · intro c16
    replace hF := fx_eq1 hF rfl rfl c16
    refine q_iconst (pc := 42) hG dX4_readFactor_42 ki_0 ?_
    exact q_zrt hG hE dX4_readFactor_43 (q_r.mono rl_0 (by decide)) ⟨w13, (q_r.mono rl_0 (by decide)), (by rw [tl_0]; exact fx_end hF hF0)⟩
  intro c16
  have g_4 := p13.2.2.2 (q_one p13.2.1 c16)
  replace hF := fx_eq2 hF rfl rfl c16
  refine q_aload_n (pc := 19) hG dX4_readFactor_19 1 rfl ?_
  refine q_iload_n (pc := 20) hG dX4_readFactor_20 2 rfl ?_
  refine q_iconst (pc := 21) hG dX4_readFactor_21 ki_1 ?_
  refine q_iadd (pc := 22) hG dX4_readFactor_22 (fun v22 e22 => ?_)
  replace hF := fx_add hF rfl tl_1 (q_addN (lo := 6) (hi := 6) e22 rA1 rl_1 (by decide)).1
  have r_5 := (q_addN (lo := 6) (hi := 6) e22 rA1 rl_1 (by decide)).2
  refine q_cVi (pc := 23) [.int v22] [] hG (c_X4_readSum_L6 τ s13 a0 v22 w13.1 tA0 r_5 at1 (w13.same tA0 rfl ht) Tt) my_X4_readSum mv_X4_readSum w326 dX4_readFactor_23 tA0 (by decide) rfl rfl (Nat.le_of_ble_eq_true rfl) (by decide) (fun v23 s23 p23 => ?_)
  have w23 := w13.trans p23.1 rfl
  replace hF := fx_C hF p23.2.2
  refine q_if_eq (pc := 26) hG 42 dX4_readFactor_26 rfl ?_ ?_
  · intro c26
    replace hF := fx_eq1 hF rfl rfl c26
    refine q_iconst (pc := 42) hG dX4_readFactor_42 ki_0 ?_
    exact q_zrt hG hE dX4_readFactor_43 (q_r.mono rl_0 (by decide)) ⟨w23, (q_r.mono rl_0 (by decide)), (by rw [tl_0]; exact fx_end hF hF0)⟩
  intro c26
  replace hF := fx_eq2 hF rfl rfl c26
  refine q_aload_n (pc := 29) hG dX4_readFactor_29 1 rfl ?_
  refine q_bipush (pc := 30) hG dX4_readFactor_30 kb_93 ?_
  refine q_cVi (pc := 32) [.int 93] [] hG (c_X4_expect τ s23 a0 93 w23.1 tA0 at1 (w23.same tA0 rfl ht) Tt) my_X4_expect mv_X4_expect w338 dX4_readFactor_32 tA0 (by decide) rfl rfl (Nat.le_of_ble_eq_true rfl) (by decide) (fun v32 s32 p32 => ?_)
  have w32 := w23.trans p32.1 rfl
  have fq32 := p32.2.2
  rewrite [tl_93] at fq32
  replace hF := fx_C hF fq32
  refine q_if_eq (pc := 35) hG 42 dX4_readFactor_35 rfl ?_ ?_
  · intro c35
    replace hF := fx_eq1 hF rfl rfl c35
    refine q_iconst (pc := 42) hG dX4_readFactor_42 ki_0 ?_
    exact q_zrt hG hE dX4_readFactor_43 (q_r.mono rl_0 (by decide)) ⟨w32, (q_r.mono rl_0 (by decide)), (by rw [tl_0]; exact fx_end hF hF0)⟩
  intro c35
  replace hF := fx_eq2 hF rfl rfl c35
  refine q_iconst (pc := 38) hG dX4_readFactor_38 ki_1 ?_
  refine q_goto (pc := 39) 43 hG dX4_readFactor_39 rfl ?_
  exact q_zrt hG hE dX4_readFactor_43 (q_r.mono rl_1 (by decide)) ⟨w32, (q_r.mono rl_1 (by decide)), (by rw [tl_1]; exact fx_end hF hF0)⟩
def md_X4_readTerm_L5 : List (Nat × Nat) := [(3, 1), (3, 2), (4, 2), (4, 3), (112, 0), (113, 0)]
set_option maxRecDepth 100000 in
set_option maxHeartbeats 4000000 in
theorem c_X4_readTerm_L5 {l : Launch} {D : q_D} (τ : q_T) (σ : q_V) (a0 : Nat) (x1 : Int32) (hI : q_I τ σ) (tA0 : τ a0 = some (4, 1)) (rA1 : q_r x1 5 5) (at1 : Nat) (ht : σ a0 0 = .ref at1) (Tt : τ at1 = some (110, 260)) : q_Ci l D yX4_readTerm cX4_readTerm 5 (some .boolean) 6 136 τ σ [.ref a0, .int x1] (fun r σ1 => q_S md_X4_readTerm_L5 τ σ σ1 ∧ (q_r r 0 1) ∧ ((r.toInt, fx_N σ1) = f_X4_readTerm_L5 (fx_N σ) a0 x1.toInt)) := by
  refine q_meti rfl (Nat.le_of_ble_eq_true rfl) (fun X hG hE => ?_)
  show q_O X 0 0 τ σ 0 [(0, .ref a0), (1, .int x1)] []
  have hS0 : q_S md_X4_readTerm_L5 τ σ σ := q_S.rf hI
  obtain ⟨Fv, hF⟩ : ∃ z, fx_eq z (f_X4_readTerm_L5 (fx_N σ) a0 x1.toInt) := ⟨_, fx_rf⟩
  have hF0 := hF
  unfold f_X4_readTerm_L5 at hF
  replace hF := fx_R hF ht rfl
  refine q_aload_n (pc := 0) hG dX4_readTerm_0 0 rfl ?_
  refine q_iload_n (pc := 1) hG dX4_readTerm_1 1 rfl ?_
  refine q_cVi (pc := 2) [.int x1] [] hG (c_X4_readFactor_L5 τ σ a0 x1 hI tA0 rA1 at1 ht Tt) my_X4_readFactor mv_X4_readFactor w332 dX4_readTerm_2 tA0 (by decide) rfl rfl (Nat.le_of_ble_eq_true rfl) (by decide) (fun v2 s2 p2 => ?_)
  have w2 := hS0.trans p2.1 rfl
  replace hF := fx_C hF p2.2.2
  refine q_istore_n (pc := 5) [(2, .int v2), (0, .ref a0), (1, .int x1)] hG dX4_readTerm_5 (by decide) rfl ?_
  refine q_iconst (pc := 6) hG dX4_readTerm_6 ki_0 ?_
  refine q_istore_n (pc := 7) [(3, .int 0), (2, .int v2), (0, .ref a0), (1, .int x1)] hG dX4_readTerm_7 (by decide) rfl ?_
  have J8 : ∀ (n8 : Nat) (p8_2 : Int32) (p8_3 : Int32) (σ8 : q_V), (q_r p8_2 0 1) → (q_r p8_3 0 240) → (q_S md_X4_readTerm_L5 τ σ σ8) → (fx_eq Fv (kL_X4_readTerm_L5_8 a0 x1.toInt n8 p8_2.toInt p8_3.toInt (fx_N σ8))) → ((240 - p8_3.toInt).toNat < n8) → q_O X 0 0 τ σ8 8 [(0, .ref a0), (1, .int x1), (2, .int p8_2), (3, .int p8_3)] [] := by
    intro n8
    induction n8 with
    | zero => intro p8_2 p8_3 σ8 r8_2 r8_3 hS8 hF hm8; exact absurd hm8 (Nat.not_lt_zero _)
    | succ n8 ih8 =>
      intro p8_2 p8_3 σ8 r8_2 r8_3 hS8 hF hm8
      replace hF := (show fx_eq Fv (kB_X4_readTerm_L5_8 (kL_X4_readTerm_L5_8 a0 x1.toInt n8) a0 x1.toInt p8_2.toInt p8_3.toInt (fx_N σ8)) from hF)
      unfold kB_X4_readTerm_L5_8 at hF
      refine q_iload_n (pc := 8) hG dX4_readTerm_8 3 rfl ?_
      refine q_sipush (pc := 9) hG dX4_readTerm_9 ks_240 ?_
      refine q_icmp_ge (pc := 12) hG 68 dX4_readTerm_12 rfl ?_ ?_
      · intro c12
        replace hF := fx_lt2 hF rfl tl_240 c12
        refine q_iload_n (pc := 68) hG dX4_readTerm_68 2 rfl ?_
        exact q_zrt hG hE dX4_readTerm_69 r8_2 ⟨hS8, r8_2, (fx_end hF hF0)⟩
      intro c12
      replace hF := fx_lt1 hF rfl tl_240 c12
      refine q_iload_n (pc := 15) hG dX4_readTerm_15 2 rfl ?_
      refine q_if_eq (pc := 16) hG 68 dX4_readTerm_16 rfl ?_ ?_
      · intro c16
        replace hF := fx_eq1 hF rfl rfl c16
        refine q_iload_n (pc := 68) hG dX4_readTerm_68 2 rfl ?_
        have r_1 := q_zeq c16
        exact q_zrt hG hE dX4_readTerm_69 (q_r.mono r_1 (by decide)) ⟨hS8, (q_r.mono r_1 (by decide)), (fx_end hF hF0)⟩
      intro c16
      replace hF := fx_eq2 hF rfl rfl c16
      refine q_aload_n (pc := 19) hG dX4_readTerm_19 0 rfl ?_
      refine q_pV (pc := 20) [] [] hG (c_X4_peek τ σ8 a0 hS8.1 tA0 at1 (hS8.same tA0 rfl ht) Tt) my_X4_peek mv_X4_peek w316 dX4_readTerm_20 tA0 (by decide) rfl rfl (Nat.le_of_ble_eq_true rfl) (by decide) (fun v20 p20 => ?_)
      replace hF := fx_E hF p20.2
      refine q_pS (pc := 23) [.int v20] [] hG (c_X4_isTimes τ σ8 v20 hS8.1) my_X4_isTimes w352 w351 dX4_readTerm_23 rfl rfl (Nat.le_of_ble_eq_true rfl) (by decide) (fun v23 p23 => ?_)
      replace hF := fx_E hF p23.2
      refine q_if_eq (pc := 26) hG 68 dX4_readTerm_26 rfl ?_ ?_
      · intro c26
        replace hF := fx_eq1 hF rfl rfl c26
        refine q_iload_n (pc := 68) hG dX4_readTerm_68 2 rfl ?_
        have r_2 := q_neL (c := 1) r8_2 c16 (by decide)
        exact q_zrt hG hE dX4_readTerm_69 (q_r.mono r_2 (by decide)) ⟨hS8, (q_r.mono r_2 (by decide)), (fx_end hF hF0)⟩
      intro c26
      replace hF := fx_eq2 hF rfl rfl c26
      refine q_aload_n (pc := 29) hG dX4_readTerm_29 0 rfl ?_
      refine q_pV (pc := 30) [] [] hG (c_X4_peek τ σ8 a0 hS8.1 tA0 at1 (hS8.same tA0 rfl ht) Tt) my_X4_peek mv_X4_peek w316 dX4_readTerm_30 tA0 (by decide) rfl rfl (Nat.le_of_ble_eq_true rfl) (by decide) (fun v30 p30 => ?_)
      replace hF := fx_E hF p30.2
      refine q_istore (pc := 33) [(4, .int v30), (0, .ref a0), (1, .int x1), (2, .int p8_2), (3, .int p8_3)] hG dX4_readTerm_33 (by decide) rfl ?_
      refine q_aload_n (pc := 35) hG dX4_readTerm_35 1 rfl ?_
      refine q_dup (pc := 36) hG dX4_readTerm_36 rfl ?_
      refine q_getI (pc := 37) hG fl_X4_22 dX4_readTerm_37 hS8.1 tA0 ff_4_2 (fun v37 f37 g37 => ?_)
      replace hF := fx_I hF f37 rfl
      refine q_iconst (pc := 40) hG dX4_readTerm_40 ki_1 ?_
      refine q_iadd (pc := 41) hG dX4_readTerm_41 (fun v41 e41 => ?_)
      replace hF := fx_B_add hF rfl tl_1 e41
      refine q_putI (pc := 42) hG fl_X4_22 dX4_readTerm_42 hS8 tA0 ff_4_2 (q_r_any v41) (by decide) rfl (fun s42 u42 w42 => ?_)
      replace hF := fx_P hF u42 rfl rfl
      have m42 : s42 a0 2 = .int v41 := by rw [u42]; exact q_up_same
      refine q_aload_n (pc := 45) hG dX4_readTerm_45 1 rfl ?_
      refine q_iload_n (pc := 46) hG dX4_readTerm_46 2 rfl ?_
      refine q_cVi (pc := 47) [.int x1] [] hG (c_X4_readFactor_L5 τ s42 a0 x1 w42.1 tA0 rA1 at1 (w42.same tA0 rfl ht) Tt) my_X4_readFactor mv_X4_readFactor w332 dX4_readTerm_47 tA0 (by decide) rfl rfl (Nat.le_of_ble_eq_true rfl) (by decide) (fun v47 s47 p47 => ?_)
      have w47 := w42.trans p47.1 rfl
      replace hF := fx_C hF p47.2.2
      refine q_istore_n (pc := 50) [(2, .int v47), (4, .int v30), (0, .ref a0), (1, .int x1), (3, .int p8_3)] hG dX4_readTerm_50 (by decide) rfl ?_
      refine q_aload_n (pc := 51) hG dX4_readTerm_51 2 rfl ?_
      refine q_getR (pc := 52) (k2 := 3) (n2 := 1) hG fl_X4_31 dX4_readTerm_52 w47.1 tA0 ff_4_4 (fun b52 f52 T52 => ?_)
      replace hF := fx_R hF f52 rfl
      have f_3 := (w47.2 _ _ _ _ tA0 rfl).symm.trans f52
      refine q_iload (pc := 55) hG dX4_readTerm_55 1 rfl ?_
      refine q_iconst (pc := 57) hG dX4_readTerm_57 ki_0 ?_
      refine q_cVi (pc := 58) [.int v30, .int 0] [] hG (c_X3_add τ s47 b52 v30 0 w47.1 T52) my_X3_add mv_X3_add w344 dX4_readTerm_58 T52 (by decide) rfl rfl (Nat.le_of_ble_eq_true rfl) (by decide) (fun v58 s58 p58 => ?_)
      have w58 := w47.trans p58.1 rfl
      have fq58 := p58.2.2
      rewrite [tl_0] at fq58
      replace hF := fx_C hF fq58
      refine q_pop (pc := 61) hG dX4_readTerm_61 rfl ?_
      obtain ⟨v62, e62⟩ : ∃ z : Int32, z = p8_3 + Int32.ofInt 1 := ⟨_, rfl⟩
      have r_4 := q_rlt r8_3 rl_240 c12 239 (by decide)
      have h62 := q_incN (lo := 1) (hi := 240) r_4 (by decide) (by decide) e62
      replace hF := fx_add hF rfl rfl h62.1
      refine q_iinc (pc := 62) [(3, .int v62), (2, .int v47), (4, .int v30), (0, .ref a0), (1, .int x1)] hG dX4_readTerm_62 4 rfl e62 (by decide) rfl ?_
      refine q_goto (pc := 65) 8 hG dX4_readTerm_65 rfl ?_
      refine q_lv [3, 4, 1, 0] rfl ?_
      exact ih8 v47 v62 s58 p47.2.1 (q_r.mono h62.2 (by decide)) w58 hF (q_measU hm8 (by have o0 := c12; have o1 := h62.1; have o2 := r_4; have o3 := h62.2; have l4 := tl_240; unfold q_r at o2 o3; omega) (h62.2).2)
  refine q_lv [2, 3, 1, 0] rfl ?_
  exact J8 ((240 - (0 : Int32).toInt).toNat + 1) v2 0 s2 p2.2.1 (q_r.mono rl_0 (by decide)) w2 (by rw [tl_0]; exact hF) (Nat.lt_succ_self _)
def md_X4_readSum_L5 : List (Nat × Nat) := [(3, 1), (3, 2), (4, 2), (4, 3), (112, 0), (113, 0)]
set_option maxRecDepth 100000 in
set_option maxHeartbeats 4000000 in
theorem c_X4_readSum_L5 {l : Launch} {D : q_D} (τ : q_T) (σ : q_V) (a0 : Nat) (x1 : Int32) (hI : q_I τ σ) (tA0 : τ a0 = some (4, 1)) (rA1 : q_r x1 5 5) (at1 : Nat) (ht : σ a0 0 = .ref at1) (Tt : τ at1 = some (110, 260)) : q_Ci l D yX4_readSum cX4_readSum 5 (some .boolean) 7 160 τ σ [.ref a0, .int x1] (fun r σ1 => q_S md_X4_readSum_L5 τ σ σ1 ∧ (q_r r 0 1) ∧ ((r.toInt, fx_N σ1) = f_X4_readSum_L5 (fx_N σ) a0 x1.toInt)) := by
  refine q_meti rfl (Nat.le_of_ble_eq_true rfl) (fun X hG hE => ?_)
  show q_O X 0 0 τ σ 0 [(0, .ref a0), (1, .int x1)] []
  have hS0 : q_S md_X4_readSum_L5 τ σ σ := q_S.rf hI
  obtain ⟨Fv, hF⟩ : ∃ z, fx_eq z (f_X4_readSum_L5 (fx_N σ) a0 x1.toInt) := ⟨_, fx_rf⟩
  have hF0 := hF
  unfold f_X4_readSum_L5 at hF
  replace hF := fx_R hF ht rfl
  refine q_aload_n (pc := 0) hG dX4_readSum_0 0 rfl ?_
  refine q_iload_n (pc := 1) hG dX4_readSum_1 1 rfl ?_
  refine q_cVi (pc := 2) [.int x1] [] hG (c_X4_readTerm_L5 τ σ a0 x1 hI tA0 rA1 at1 ht Tt) my_X4_readTerm mv_X4_readTerm w329 dX4_readSum_2 tA0 (by decide) rfl rfl (Nat.le_of_ble_eq_true rfl) (by decide) (fun v2 s2 p2 => ?_)
  have w2 := hS0.trans p2.1 rfl
  replace hF := fx_C hF p2.2.2
  refine q_istore_n (pc := 5) [(2, .int v2), (0, .ref a0), (1, .int x1)] hG dX4_readSum_5 (by decide) rfl ?_
  refine q_iconst (pc := 6) hG dX4_readSum_6 ki_0 ?_
  refine q_istore_n (pc := 7) [(3, .int 0), (2, .int v2), (0, .ref a0), (1, .int x1)] hG dX4_readSum_7 (by decide) rfl ?_
  have J8 : ∀ (n8 : Nat) (p8_2 : Int32) (p8_3 : Int32) (σ8 : q_V), (q_r p8_2 0 1) → (q_r p8_3 0 240) → (q_S md_X4_readSum_L5 τ σ σ8) → (fx_eq Fv (kL_X4_readSum_L5_8 a0 x1.toInt n8 p8_2.toInt p8_3.toInt (fx_N σ8))) → ((240 - p8_3.toInt).toNat < n8) → q_O X 0 0 τ σ8 8 [(0, .ref a0), (1, .int x1), (2, .int p8_2), (3, .int p8_3)] [] := by
    intro n8
    induction n8 with
    | zero => intro p8_2 p8_3 σ8 r8_2 r8_3 hS8 hF hm8; exact absurd hm8 (Nat.not_lt_zero _)
    | succ n8 ih8 =>
      intro p8_2 p8_3 σ8 r8_2 r8_3 hS8 hF hm8
      replace hF := (show fx_eq Fv (kB_X4_readSum_L5_8 (kL_X4_readSum_L5_8 a0 x1.toInt n8) a0 x1.toInt p8_2.toInt p8_3.toInt (fx_N σ8)) from hF)
      unfold kB_X4_readSum_L5_8 at hF
      refine q_iload_n (pc := 8) hG dX4_readSum_8 3 rfl ?_
      refine q_sipush (pc := 9) hG dX4_readSum_9 ks_240 ?_
      refine q_icmp_ge (pc := 12) hG 76 dX4_readSum_12 rfl ?_ ?_
      · intro c12
        replace hF := fx_lt2 hF rfl tl_240 c12
        refine q_iload_n (pc := 76) hG dX4_readSum_76 2 rfl ?_
        exact q_zrt hG hE dX4_readSum_77 r8_2 ⟨hS8, r8_2, (fx_end hF hF0)⟩
      intro c12
      replace hF := fx_lt1 hF rfl tl_240 c12
      refine q_iload_n (pc := 15) hG dX4_readSum_15 2 rfl ?_
      refine q_if_eq (pc := 16) hG 76 dX4_readSum_16 rfl ?_ ?_
      · intro c16
        replace hF := fx_eq1 hF rfl rfl c16
        refine q_iload_n (pc := 76) hG dX4_readSum_76 2 rfl ?_
        have r_1 := q_zeq c16
        exact q_zrt hG hE dX4_readSum_77 (q_r.mono r_1 (by decide)) ⟨hS8, (q_r.mono r_1 (by decide)), (fx_end hF hF0)⟩
      intro c16
      replace hF := fx_eq2 hF rfl rfl c16
      refine q_aload_n (pc := 19) hG dX4_readSum_19 0 rfl ?_
      refine q_pV (pc := 20) [] [] hG (c_X4_peek τ σ8 a0 hS8.1 tA0 at1 (hS8.same tA0 rfl ht) Tt) my_X4_peek mv_X4_peek w316 dX4_readSum_20 tA0 (by decide) rfl rfl (Nat.le_of_ble_eq_true rfl) (by decide) (fun v20 p20 => ?_)
      replace hF := fx_E hF p20.2
      refine q_bipush (pc := 23) hG dX4_readSum_23 kb_43 ?_
      have J37 : (fx_eq Fv (kJ_X4_readSum_L5_37 (fx_N σ8) a0 x1.toInt p8_3.toInt (kL_X4_readSum_L5_8 a0 x1.toInt n8))) → q_O X 0 0 τ σ8 37 [(0, .ref a0), (1, .int x1), (3, .int p8_3)] [] := by
        intro hF
        unfold kJ_X4_readSum_L5_37 at hF
        refine q_aload_n (pc := 37) hG dX4_readSum_37 0 rfl ?_
        refine q_pV (pc := 38) [] [] hG (c_X4_peek τ σ8 a0 hS8.1 tA0 at1 (hS8.same tA0 rfl ht) Tt) my_X4_peek mv_X4_peek w316 dX4_readSum_38 tA0 (by decide) rfl rfl (Nat.le_of_ble_eq_true rfl) (by decide) (fun v38 p38 => ?_)
        replace hF := fx_E hF p38.2
        refine q_istore (pc := 41) [(4, .int v38), (0, .ref a0), (1, .int x1), (3, .int p8_3)] hG dX4_readSum_41 (by decide) rfl ?_
        refine q_aload_n (pc := 43) hG dX4_readSum_43 1 rfl ?_
        refine q_dup (pc := 44) hG dX4_readSum_44 rfl ?_
        refine q_getI (pc := 45) hG fl_X4_22 dX4_readSum_45 hS8.1 tA0 ff_4_2 (fun v45 f45 g45 => ?_)
        replace hF := fx_I hF f45 rfl
        refine q_iconst (pc := 48) hG dX4_readSum_48 ki_1 ?_
        refine q_iadd (pc := 49) hG dX4_readSum_49 (fun v49 e49 => ?_)
        replace hF := fx_B_add hF rfl tl_1 e49
        refine q_putI (pc := 50) hG fl_X4_22 dX4_readSum_50 hS8 tA0 ff_4_2 (q_r_any v49) (by decide) rfl (fun s50 u50 w50 => ?_)
        replace hF := fx_P hF u50 rfl rfl
        have m50 : s50 a0 2 = .int v49 := by rw [u50]; exact q_up_same
        refine q_aload_n (pc := 53) hG dX4_readSum_53 1 rfl ?_
        refine q_iload_n (pc := 54) hG dX4_readSum_54 2 rfl ?_
        refine q_cVi (pc := 55) [.int x1] [] hG (c_X4_readTerm_L5 τ s50 a0 x1 w50.1 tA0 rA1 at1 (w50.same tA0 rfl ht) Tt) my_X4_readTerm mv_X4_readTerm w329 dX4_readSum_55 tA0 (by decide) rfl rfl (Nat.le_of_ble_eq_true rfl) (by decide) (fun v55 s55 p55 => ?_)
        have w55 := w50.trans p55.1 rfl
        replace hF := fx_C hF p55.2.2
        refine q_istore_n (pc := 58) [(2, .int v55), (4, .int v38), (0, .ref a0), (1, .int x1), (3, .int p8_3)] hG dX4_readSum_58 (by decide) rfl ?_
        refine q_aload_n (pc := 59) hG dX4_readSum_59 2 rfl ?_
        refine q_getR (pc := 60) (k2 := 3) (n2 := 1) hG fl_X4_31 dX4_readSum_60 w55.1 tA0 ff_4_4 (fun b60 f60 T60 => ?_)
        replace hF := fx_R hF f60 rfl
        have f_2 := (w55.2 _ _ _ _ tA0 rfl).symm.trans f60
        refine q_iload (pc := 63) hG dX4_readSum_63 1 rfl ?_
        refine q_iconst (pc := 65) hG dX4_readSum_65 ki_0 ?_
        refine q_cVi (pc := 66) [.int v38, .int 0] [] hG (c_X3_add τ s55 b60 v38 0 w55.1 T60) my_X3_add mv_X3_add w344 dX4_readSum_66 T60 (by decide) rfl rfl (Nat.le_of_ble_eq_true rfl) (by decide) (fun v66 s66 p66 => ?_)
        have w66 := w55.trans p66.1 rfl
        have fq66 := p66.2.2
        rewrite [tl_0] at fq66
        replace hF := fx_C hF fq66
        refine q_pop (pc := 69) hG dX4_readSum_69 rfl ?_
        obtain ⟨v70, e70⟩ : ∃ z : Int32, z = p8_3 + Int32.ofInt 1 := ⟨_, rfl⟩
        have r_3 := q_rlt r8_3 rl_240 c12 239 (by decide)
        have h70 := q_incN (lo := 1) (hi := 240) r_3 (by decide) (by decide) e70
        replace hF := fx_add hF rfl rfl h70.1
        refine q_iinc (pc := 70) [(3, .int v70), (2, .int v55), (4, .int v38), (0, .ref a0), (1, .int x1)] hG dX4_readSum_70 4 rfl e70 (by decide) rfl ?_
        refine q_goto (pc := 73) 8 hG dX4_readSum_73 rfl ?_
        refine q_lv [3, 4, 1, 0] rfl ?_
        exact ih8 v55 v70 s66 p55.2.1 (q_r.mono h70.2 (by decide)) w66 hF (q_measU hm8 (by have o0 := c12; have o1 := h70.1; have o2 := r_3; have o3 := h70.2; have l4 := tl_240; unfold q_r at o2 o3; omega) (h70.2).2)
      refine q_icmp_eq (pc := 25) hG 37 dX4_readSum_25 rfl ?_ ?_
      · intro c25
        replace hF := fx_eq1 hF rfl tl_43 c25
        refine q_lv [0, 1, 3] rfl ?_
        exact J37 hF
      intro c25
      replace hF := fx_eq2 hF rfl tl_43 c25
      refine q_aload_n (pc := 28) hG dX4_readSum_28 0 rfl ?_
      refine q_pV (pc := 29) [] [] hG (c_X4_peek τ σ8 a0 hS8.1 tA0 at1 (hS8.same tA0 rfl ht) Tt) my_X4_peek mv_X4_peek w316 dX4_readSum_29 tA0 (by decide) rfl rfl (Nat.le_of_ble_eq_true rfl) (by decide) (fun v29 p29 => ?_)
      replace hF := fx_E hF p29.2
      refine q_bipush (pc := 32) hG dX4_readSum_32 kb_45 ?_
      refine q_icmp_ne (pc := 34) hG 76 dX4_readSum_34 rfl ?_ ?_
      · intro c34
        replace hF := fx_eq2 hF rfl tl_45 c34
        refine q_iload_n (pc := 76) hG dX4_readSum_76 2 rfl ?_
        have r_4 := q_neL (c := 1) r8_2 c16 (by decide)
        exact q_zrt hG hE dX4_readSum_77 (q_r.mono r_4 (by decide)) ⟨hS8, (q_r.mono r_4 (by decide)), (fx_end hF hF0)⟩
      intro c34
      replace hF := fx_eq1 hF rfl tl_45 c34
      refine q_lv [0, 1, 3] rfl ?_
      exact J37 hF
  refine q_lv [2, 3, 1, 0] rfl ?_
  exact J8 ((240 - (0 : Int32).toInt).toNat + 1) v2 0 s2 p2.2.1 (q_r.mono rl_0 (by decide)) w2 (by rw [tl_0]; exact hF) (Nat.lt_succ_self _)
def md_X4_readFactor_L4 : List (Nat × Nat) := [(3, 1), (3, 2), (4, 2), (4, 3), (112, 0), (113, 0)]
set_option maxRecDepth 100000 in
set_option maxHeartbeats 4000000 in
theorem c_X4_readFactor_L4 {l : Launch} {D : q_D} (τ : q_T) (σ : q_V) (a0 : Nat) (x1 : Int32) (hI : q_I τ σ) (tA0 : τ a0 = some (4, 1)) (rA1 : q_r x1 4 4) (at1 : Nat) (ht : σ a0 0 = .ref at1) (Tt : τ at1 = some (110, 260)) : q_Ci l D yX4_readFactor cX4_readFactor 3 (some .boolean) 8 184 τ σ [.ref a0, .int x1] (fun r σ1 => q_S md_X4_readFactor_L4 τ σ σ1 ∧ (q_r r 0 1) ∧ ((r.toInt, fx_N σ1) = f_X4_readFactor_L4 (fx_N σ) a0 x1.toInt)) := by
  refine q_meti rfl (Nat.le_of_ble_eq_true rfl) (fun X hG hE => ?_)
  show q_O X 0 0 τ σ 0 [(0, .ref a0), (1, .int x1)] []
  have hS0 : q_S md_X4_readFactor_L4 τ σ σ := q_S.rf hI
  obtain ⟨Fv, hF⟩ : ∃ z, fx_eq z (f_X4_readFactor_L4 (fx_N σ) a0 x1.toInt) := ⟨_, fx_rf⟩
  have hF0 := hF
  unfold f_X4_readFactor_L4 at hF
  replace hF := fx_R hF ht rfl
  refine q_aload_n (pc := 0) hG dX4_readFactor_0 0 rfl ?_
  refine q_pV (pc := 1) [] [] hG (c_X4_peek τ σ a0 hI tA0 at1 ht Tt) my_X4_peek mv_X4_peek w316 dX4_readFactor_1 tA0 (by decide) rfl rfl (Nat.le_of_ble_eq_true rfl) (by decide) (fun v1 p1 => ?_)
  replace hF := fx_E hF p1.2
  refine q_istore_n (pc := 4) [(2, .int v1), (0, .ref a0), (1, .int x1)] hG dX4_readFactor_4 (by decide) rfl ?_
  refine q_iload_n (pc := 5) hG dX4_readFactor_5 0 rfl ?_
  refine q_bipush (pc := 6) hG dX4_readFactor_6 kb_91 ?_
  refine q_icmp_ne (pc := 8) hG 44 dX4_readFactor_8 rfl ?_ ?_
  · intro c8
    replace hF := fx_eq2 hF rfl tl_91 c8
    refine q_iload_n (pc := 44) hG dX4_readFactor_44 0 rfl ?_
    refine q_bipush (pc := 45) hG dX4_readFactor_45 kb_48 ?_
    refine q_bipush (pc := 47) hG dX4_readFactor_47 kb_57 ?_
    refine q_pN (pc := 49) [.int v1, .int 48, .int 57] [] hG (c_X11_isIn τ σ v1 48 57 hI) my_X11_isIn w238 nw_12 dX4_readFactor_49 rfl rfl (Nat.le_of_ble_eq_true rfl) (by decide) (fun v49 p49 => ?_)
    have fq49 := p49.2.1
    rewrite [tl_48, tl_57] at fq49
    replace hF := fx_E hF fq49
    refine q_if_eq (pc := 52) hG 60 dX4_readFactor_52 rfl ?_ ?_
    · intro c52
      replace hF := fx_eq1 hF rfl rfl c52
      refine q_iload_n (pc := 60) hG dX4_readFactor_60 0 rfl ?_
      refine q_pS (pc := 61) [.int v1] [] hG (c_X4_isValueLetter τ σ v1 hI) my_X4_isValueLetter w349 w348 dX4_readFactor_61 rfl rfl (Nat.le_of_ble_eq_true rfl) (by decide) (fun v61 p61 => ?_)
      replace hF := fx_E hF p61.2
      refine q_if_ne (pc := 64) hG 73 dX4_readFactor_64 rfl ?_ ?_
      · intro c64
        replace hF := fx_eq2 hF rfl rfl c64
        refine q_aload_n (pc := 73) hG dX4_readFactor_73 1 rfl ?_
        refine q_dup (pc := 74) hG dX4_readFactor_74 rfl ?_
        refine q_getI (pc := 75) hG fl_X4_22 dX4_readFactor_75 hI tA0 ff_4_2 (fun v75 f75 g75 => ?_)
        replace hF := fx_I hF f75 rfl
        refine q_iconst (pc := 78) hG dX4_readFactor_78 ki_1 ?_
        refine q_iadd (pc := 79) hG dX4_readFactor_79 (fun v79 e79 => ?_)
        replace hF := fx_B_add hF rfl tl_1 e79
        refine q_putI (pc := 80) hG fl_X4_22 dX4_readFactor_80 hS0 tA0 ff_4_2 (q_r_any v79) (by decide) rfl (fun s80 u80 w80 => ?_)
        replace hF := fx_P hF u80 rfl rfl
        have m80 : s80 a0 2 = .int v79 := by rw [u80]; exact q_up_same
        refine q_aload_n (pc := 83) hG dX4_readFactor_83 1 rfl ?_
        refine q_getR (pc := 84) (k2 := 3) (n2 := 1) hG fl_X4_31 dX4_readFactor_84 w80.1 tA0 ff_4_4 (fun b84 f84 T84 => ?_)
        replace hF := fx_R hF f84 rfl
        have f_1 := (w80.2 _ _ _ _ tA0 rfl).symm.trans f84
        refine q_bipush (pc := 87) hG dX4_readFactor_87 kb_105 ?_
        refine q_iload_n (pc := 89) hG dX4_readFactor_89 0 rfl ?_
        refine q_cVi (pc := 90) [.int 105, .int v1] [] hG (c_X3_add τ s80 b84 105 v1 w80.1 T84) my_X3_add mv_X3_add w344 dX4_readFactor_90 T84 (by decide) rfl rfl (Nat.le_of_ble_eq_true rfl) (by decide) (fun v90 s90 p90 => ?_)
        have w90 := w80.trans p90.1 rfl
        have fq90 := p90.2.2
        rewrite [tl_105] at fq90
        replace hF := fx_C hF fq90
        refine q_pop (pc := 93) hG dX4_readFactor_93 rfl ?_
        refine q_iconst (pc := 94) hG dX4_readFactor_94 ki_1 ?_
        exact q_zrt hG hE dX4_readFactor_95 (q_r.mono rl_1 (by decide)) ⟨w90, (q_r.mono rl_1 (by decide)), (by rw [tl_1]; exact fx_end hF hF0)⟩
      intro c64
      replace hF := fx_eq1 hF rfl rfl c64
      refine q_aload_n (pc := 67) hG dX4_readFactor_67 1 rfl ?_
      refine q_iconst (pc := 68) hG dX4_readFactor_68 ki_1 ?_
      refine q_cVi (pc := 69) [.int 1] [] hG (c_X4_fail τ σ a0 1 hI tA0) my_X4_fail mv_X4_fail w319 dX4_readFactor_69 tA0 (by decide) rfl rfl (Nat.le_of_ble_eq_true rfl) (by decide) (fun v69 s69 p69 => ?_)
      have w69 := hS0.trans p69.1 rfl
      have fq69 := p69.2.2
      rewrite [tl_1] at fq69
      replace hF := fx_C hF fq69
      exact q_zrt hG hE dX4_readFactor_72 (q_r.mono p69.2.1 (by decide)) ⟨w69, (q_r.mono p69.2.1 (by decide)), (fx_end hF hF0)⟩
    intro c52
    have g_2 := p49.2.2.mp (q_one p49.1 c52)
    have r_3 := q_rge p1.1 rl_48 g_2.1
    replace hF := fx_eq2 hF rfl rfl c52
    refine q_aload_n (pc := 55) hG dX4_readFactor_55 1 rfl ?_
    refine q_cVi (pc := 56) [] [] hG (c_X4_readNumber τ σ a0 hI tA0 at1 ht Tt) my_X4_readNumber mv_X4_readNumber w341 dX4_readFactor_56 tA0 (by decide) rfl rfl (Nat.le_of_ble_eq_true rfl) (by decide) (fun v56 s56 p56 => ?_)
    have w56 := hS0.trans p56.1 rfl
    replace hF := fx_C hF p56.2.2
    exact q_zrt hG hE dX4_readFactor_59 p56.2.1 ⟨w56, p56.2.1, (fx_end hF hF0)⟩
  intro c8
  replace hF := fx_eq1 hF rfl tl_91 c8
  refine q_aload_n (pc := 11) hG dX4_readFactor_11 1 rfl ?_
  refine q_iload_n (pc := 12) hG dX4_readFactor_12 2 rfl ?_
  refine q_cVi (pc := 13) [.int x1] [] hG (c_X4_mayOpen τ σ a0 x1 hI tA0) my_X4_mayOpen mv_X4_mayOpen w335 dX4_readFactor_13 tA0 (by decide) rfl rfl (Nat.le_of_ble_eq_true rfl) (by decide) (fun v13 s13 p13 => ?_)
  have w13 := hS0.trans p13.1 rfl
  replace hF := fx_C hF p13.2.2.1
  refine q_if_eq (pc := 16) hG 42 dX4_readFactor_16 rfl ?_ ?_
  · intro c16
    replace hF := fx_eq1 hF rfl rfl c16
    refine q_iconst (pc := 42) hG dX4_readFactor_42 ki_0 ?_
    exact q_zrt hG hE dX4_readFactor_43 (q_r.mono rl_0 (by decide)) ⟨w13, (q_r.mono rl_0 (by decide)), (by rw [tl_0]; exact fx_end hF hF0)⟩
  intro c16
  have g_4 := p13.2.2.2 (q_one p13.2.1 c16)
  replace hF := fx_eq2 hF rfl rfl c16
  refine q_aload_n (pc := 19) hG dX4_readFactor_19 1 rfl ?_
  refine q_iload_n (pc := 20) hG dX4_readFactor_20 2 rfl ?_
  refine q_iconst (pc := 21) hG dX4_readFactor_21 ki_1 ?_
  refine q_iadd (pc := 22) hG dX4_readFactor_22 (fun v22 e22 => ?_)
  replace hF := fx_add hF rfl tl_1 (q_addN (lo := 5) (hi := 5) e22 rA1 rl_1 (by decide)).1
  have r_5 := (q_addN (lo := 5) (hi := 5) e22 rA1 rl_1 (by decide)).2
  refine q_cVi (pc := 23) [.int v22] [] hG (c_X4_readSum_L5 τ s13 a0 v22 w13.1 tA0 r_5 at1 (w13.same tA0 rfl ht) Tt) my_X4_readSum mv_X4_readSum w326 dX4_readFactor_23 tA0 (by decide) rfl rfl (Nat.le_of_ble_eq_true rfl) (by decide) (fun v23 s23 p23 => ?_)
  have w23 := w13.trans p23.1 rfl
  replace hF := fx_C hF p23.2.2
  refine q_if_eq (pc := 26) hG 42 dX4_readFactor_26 rfl ?_ ?_
  · intro c26
    replace hF := fx_eq1 hF rfl rfl c26
    refine q_iconst (pc := 42) hG dX4_readFactor_42 ki_0 ?_
    exact q_zrt hG hE dX4_readFactor_43 (q_r.mono rl_0 (by decide)) ⟨w23, (q_r.mono rl_0 (by decide)), (by rw [tl_0]; exact fx_end hF hF0)⟩
  intro c26
  replace hF := fx_eq2 hF rfl rfl c26
  refine q_aload_n (pc := 29) hG dX4_readFactor_29 1 rfl ?_
  refine q_bipush (pc := 30) hG dX4_readFactor_30 kb_93 ?_
  refine q_cVi (pc := 32) [.int 93] [] hG (c_X4_expect τ s23 a0 93 w23.1 tA0 at1 (w23.same tA0 rfl ht) Tt) my_X4_expect mv_X4_expect w338 dX4_readFactor_32 tA0 (by decide) rfl rfl (Nat.le_of_ble_eq_true rfl) (by decide) (fun v32 s32 p32 => ?_)
  have w32 := w23.trans p32.1 rfl
  have fq32 := p32.2.2
  rewrite [tl_93] at fq32
  replace hF := fx_C hF fq32
  refine q_if_eq (pc := 35) hG 42 dX4_readFactor_35 rfl ?_ ?_
  · intro c35
    replace hF := fx_eq1 hF rfl rfl c35
    refine q_iconst (pc := 42) hG dX4_readFactor_42 ki_0 ?_
    exact q_zrt hG hE dX4_readFactor_43 (q_r.mono rl_0 (by decide)) ⟨w32, (q_r.mono rl_0 (by decide)), (by rw [tl_0]; exact fx_end hF hF0)⟩
  intro c35
  replace hF := fx_eq2 hF rfl rfl c35
  refine q_iconst (pc := 38) hG dX4_readFactor_38 ki_1 ?_
  refine q_goto (pc := 39) 43 hG dX4_readFactor_39 rfl ?_
  exact q_zrt hG hE dX4_readFactor_43 (q_r.mono rl_1 (by decide)) ⟨w32, (q_r.mono rl_1 (by decide)), (by rw [tl_1]; exact fx_end hF hF0)⟩
def md_X4_readTerm_L4 : List (Nat × Nat) := [(3, 1), (3, 2), (4, 2), (4, 3), (112, 0), (113, 0)]
set_option maxRecDepth 100000 in
set_option maxHeartbeats 4000000 in
theorem c_X4_readTerm_L4 {l : Launch} {D : q_D} (τ : q_T) (σ : q_V) (a0 : Nat) (x1 : Int32) (hI : q_I τ σ) (tA0 : τ a0 = some (4, 1)) (rA1 : q_r x1 4 4) (at1 : Nat) (ht : σ a0 0 = .ref at1) (Tt : τ at1 = some (110, 260)) : q_Ci l D yX4_readTerm cX4_readTerm 5 (some .boolean) 9 206 τ σ [.ref a0, .int x1] (fun r σ1 => q_S md_X4_readTerm_L4 τ σ σ1 ∧ (q_r r 0 1) ∧ ((r.toInt, fx_N σ1) = f_X4_readTerm_L4 (fx_N σ) a0 x1.toInt)) := by
  refine q_meti rfl (Nat.le_of_ble_eq_true rfl) (fun X hG hE => ?_)
  show q_O X 0 0 τ σ 0 [(0, .ref a0), (1, .int x1)] []
  have hS0 : q_S md_X4_readTerm_L4 τ σ σ := q_S.rf hI
  obtain ⟨Fv, hF⟩ : ∃ z, fx_eq z (f_X4_readTerm_L4 (fx_N σ) a0 x1.toInt) := ⟨_, fx_rf⟩
  have hF0 := hF
  unfold f_X4_readTerm_L4 at hF
  replace hF := fx_R hF ht rfl
  refine q_aload_n (pc := 0) hG dX4_readTerm_0 0 rfl ?_
  refine q_iload_n (pc := 1) hG dX4_readTerm_1 1 rfl ?_
  refine q_cVi (pc := 2) [.int x1] [] hG (c_X4_readFactor_L4 τ σ a0 x1 hI tA0 rA1 at1 ht Tt) my_X4_readFactor mv_X4_readFactor w332 dX4_readTerm_2 tA0 (by decide) rfl rfl (Nat.le_of_ble_eq_true rfl) (by decide) (fun v2 s2 p2 => ?_)
  have w2 := hS0.trans p2.1 rfl
  replace hF := fx_C hF p2.2.2
  refine q_istore_n (pc := 5) [(2, .int v2), (0, .ref a0), (1, .int x1)] hG dX4_readTerm_5 (by decide) rfl ?_
  refine q_iconst (pc := 6) hG dX4_readTerm_6 ki_0 ?_
  refine q_istore_n (pc := 7) [(3, .int 0), (2, .int v2), (0, .ref a0), (1, .int x1)] hG dX4_readTerm_7 (by decide) rfl ?_
  have J8 : ∀ (n8 : Nat) (p8_2 : Int32) (p8_3 : Int32) (σ8 : q_V), (q_r p8_2 0 1) → (q_r p8_3 0 240) → (q_S md_X4_readTerm_L4 τ σ σ8) → (fx_eq Fv (kL_X4_readTerm_L4_8 a0 x1.toInt n8 p8_2.toInt p8_3.toInt (fx_N σ8))) → ((240 - p8_3.toInt).toNat < n8) → q_O X 0 0 τ σ8 8 [(0, .ref a0), (1, .int x1), (2, .int p8_2), (3, .int p8_3)] [] := by
    intro n8
    induction n8 with
    | zero => intro p8_2 p8_3 σ8 r8_2 r8_3 hS8 hF hm8; exact absurd hm8 (Nat.not_lt_zero _)
    | succ n8 ih8 =>
      intro p8_2 p8_3 σ8 r8_2 r8_3 hS8 hF hm8
      replace hF := (show fx_eq Fv (kB_X4_readTerm_L4_8 (kL_X4_readTerm_L4_8 a0 x1.toInt n8) a0 x1.toInt p8_2.toInt p8_3.toInt (fx_N σ8)) from hF)
      unfold kB_X4_readTerm_L4_8 at hF
      refine q_iload_n (pc := 8) hG dX4_readTerm_8 3 rfl ?_
      refine q_sipush (pc := 9) hG dX4_readTerm_9 ks_240 ?_
      refine q_icmp_ge (pc := 12) hG 68 dX4_readTerm_12 rfl ?_ ?_
      · intro c12
        replace hF := fx_lt2 hF rfl tl_240 c12
        refine q_iload_n (pc := 68) hG dX4_readTerm_68 2 rfl ?_
        exact q_zrt hG hE dX4_readTerm_69 r8_2 ⟨hS8, r8_2, (fx_end hF hF0)⟩
      intro c12
      replace hF := fx_lt1 hF rfl tl_240 c12
      refine q_iload_n (pc := 15) hG dX4_readTerm_15 2 rfl ?_
      refine q_if_eq (pc := 16) hG 68 dX4_readTerm_16 rfl ?_ ?_
      · intro c16
        replace hF := fx_eq1 hF rfl rfl c16
        refine q_iload_n (pc := 68) hG dX4_readTerm_68 2 rfl ?_
        have r_1 := q_zeq c16
        exact q_zrt hG hE dX4_readTerm_69 (q_r.mono r_1 (by decide)) ⟨hS8, (q_r.mono r_1 (by decide)), (fx_end hF hF0)⟩
      intro c16
      replace hF := fx_eq2 hF rfl rfl c16
      refine q_aload_n (pc := 19) hG dX4_readTerm_19 0 rfl ?_
      refine q_pV (pc := 20) [] [] hG (c_X4_peek τ σ8 a0 hS8.1 tA0 at1 (hS8.same tA0 rfl ht) Tt) my_X4_peek mv_X4_peek w316 dX4_readTerm_20 tA0 (by decide) rfl rfl (Nat.le_of_ble_eq_true rfl) (by decide) (fun v20 p20 => ?_)
      replace hF := fx_E hF p20.2
      refine q_pS (pc := 23) [.int v20] [] hG (c_X4_isTimes τ σ8 v20 hS8.1) my_X4_isTimes w352 w351 dX4_readTerm_23 rfl rfl (Nat.le_of_ble_eq_true rfl) (by decide) (fun v23 p23 => ?_)
      replace hF := fx_E hF p23.2
      refine q_if_eq (pc := 26) hG 68 dX4_readTerm_26 rfl ?_ ?_
      · intro c26
        replace hF := fx_eq1 hF rfl rfl c26
        refine q_iload_n (pc := 68) hG dX4_readTerm_68 2 rfl ?_
        have r_2 := q_neL (c := 1) r8_2 c16 (by decide)
        exact q_zrt hG hE dX4_readTerm_69 (q_r.mono r_2 (by decide)) ⟨hS8, (q_r.mono r_2 (by decide)), (fx_end hF hF0)⟩
      intro c26
      replace hF := fx_eq2 hF rfl rfl c26
      refine q_aload_n (pc := 29) hG dX4_readTerm_29 0 rfl ?_
      refine q_pV (pc := 30) [] [] hG (c_X4_peek τ σ8 a0 hS8.1 tA0 at1 (hS8.same tA0 rfl ht) Tt) my_X4_peek mv_X4_peek w316 dX4_readTerm_30 tA0 (by decide) rfl rfl (Nat.le_of_ble_eq_true rfl) (by decide) (fun v30 p30 => ?_)
      replace hF := fx_E hF p30.2
      refine q_istore (pc := 33) [(4, .int v30), (0, .ref a0), (1, .int x1), (2, .int p8_2), (3, .int p8_3)] hG dX4_readTerm_33 (by decide) rfl ?_
      refine q_aload_n (pc := 35) hG dX4_readTerm_35 1 rfl ?_
      refine q_dup (pc := 36) hG dX4_readTerm_36 rfl ?_
      refine q_getI (pc := 37) hG fl_X4_22 dX4_readTerm_37 hS8.1 tA0 ff_4_2 (fun v37 f37 g37 => ?_)
      replace hF := fx_I hF f37 rfl
      refine q_iconst (pc := 40) hG dX4_readTerm_40 ki_1 ?_
      refine q_iadd (pc := 41) hG dX4_readTerm_41 (fun v41 e41 => ?_)
      replace hF := fx_B_add hF rfl tl_1 e41
      refine q_putI (pc := 42) hG fl_X4_22 dX4_readTerm_42 hS8 tA0 ff_4_2 (q_r_any v41) (by decide) rfl (fun s42 u42 w42 => ?_)
      replace hF := fx_P hF u42 rfl rfl
      have m42 : s42 a0 2 = .int v41 := by rw [u42]; exact q_up_same
      refine q_aload_n (pc := 45) hG dX4_readTerm_45 1 rfl ?_
      refine q_iload_n (pc := 46) hG dX4_readTerm_46 2 rfl ?_
      refine q_cVi (pc := 47) [.int x1] [] hG (c_X4_readFactor_L4 τ s42 a0 x1 w42.1 tA0 rA1 at1 (w42.same tA0 rfl ht) Tt) my_X4_readFactor mv_X4_readFactor w332 dX4_readTerm_47 tA0 (by decide) rfl rfl (Nat.le_of_ble_eq_true rfl) (by decide) (fun v47 s47 p47 => ?_)
      have w47 := w42.trans p47.1 rfl
      replace hF := fx_C hF p47.2.2
      refine q_istore_n (pc := 50) [(2, .int v47), (4, .int v30), (0, .ref a0), (1, .int x1), (3, .int p8_3)] hG dX4_readTerm_50 (by decide) rfl ?_
      refine q_aload_n (pc := 51) hG dX4_readTerm_51 2 rfl ?_
      refine q_getR (pc := 52) (k2 := 3) (n2 := 1) hG fl_X4_31 dX4_readTerm_52 w47.1 tA0 ff_4_4 (fun b52 f52 T52 => ?_)
      replace hF := fx_R hF f52 rfl
      have f_3 := (w47.2 _ _ _ _ tA0 rfl).symm.trans f52
      refine q_iload (pc := 55) hG dX4_readTerm_55 1 rfl ?_
      refine q_iconst (pc := 57) hG dX4_readTerm_57 ki_0 ?_
      refine q_cVi (pc := 58) [.int v30, .int 0] [] hG (c_X3_add τ s47 b52 v30 0 w47.1 T52) my_X3_add mv_X3_add w344 dX4_readTerm_58 T52 (by decide) rfl rfl (Nat.le_of_ble_eq_true rfl) (by decide) (fun v58 s58 p58 => ?_)
      have w58 := w47.trans p58.1 rfl
      have fq58 := p58.2.2
      rewrite [tl_0] at fq58
      replace hF := fx_C hF fq58
      refine q_pop (pc := 61) hG dX4_readTerm_61 rfl ?_
      obtain ⟨v62, e62⟩ : ∃ z : Int32, z = p8_3 + Int32.ofInt 1 := ⟨_, rfl⟩
      have r_4 := q_rlt r8_3 rl_240 c12 239 (by decide)
      have h62 := q_incN (lo := 1) (hi := 240) r_4 (by decide) (by decide) e62
      replace hF := fx_add hF rfl rfl h62.1
      refine q_iinc (pc := 62) [(3, .int v62), (2, .int v47), (4, .int v30), (0, .ref a0), (1, .int x1)] hG dX4_readTerm_62 4 rfl e62 (by decide) rfl ?_
      refine q_goto (pc := 65) 8 hG dX4_readTerm_65 rfl ?_
      refine q_lv [3, 4, 1, 0] rfl ?_
      exact ih8 v47 v62 s58 p47.2.1 (q_r.mono h62.2 (by decide)) w58 hF (q_measU hm8 (by have o0 := c12; have o1 := h62.1; have o2 := r_4; have o3 := h62.2; have l4 := tl_240; unfold q_r at o2 o3; omega) (h62.2).2)
  refine q_lv [2, 3, 1, 0] rfl ?_
  exact J8 ((240 - (0 : Int32).toInt).toNat + 1) v2 0 s2 p2.2.1 (q_r.mono rl_0 (by decide)) w2 (by rw [tl_0]; exact hF) (Nat.lt_succ_self _)
def md_X4_readSum_L4 : List (Nat × Nat) := [(3, 1), (3, 2), (4, 2), (4, 3), (112, 0), (113, 0)]
set_option maxRecDepth 100000 in
set_option maxHeartbeats 4000000 in
theorem c_X4_readSum_L4 {l : Launch} {D : q_D} (τ : q_T) (σ : q_V) (a0 : Nat) (x1 : Int32) (hI : q_I τ σ) (tA0 : τ a0 = some (4, 1)) (rA1 : q_r x1 4 4) (at1 : Nat) (ht : σ a0 0 = .ref at1) (Tt : τ at1 = some (110, 260)) : q_Ci l D yX4_readSum cX4_readSum 5 (some .boolean) 10 230 τ σ [.ref a0, .int x1] (fun r σ1 => q_S md_X4_readSum_L4 τ σ σ1 ∧ (q_r r 0 1) ∧ ((r.toInt, fx_N σ1) = f_X4_readSum_L4 (fx_N σ) a0 x1.toInt)) := by
  refine q_meti rfl (Nat.le_of_ble_eq_true rfl) (fun X hG hE => ?_)
  show q_O X 0 0 τ σ 0 [(0, .ref a0), (1, .int x1)] []
  have hS0 : q_S md_X4_readSum_L4 τ σ σ := q_S.rf hI
  obtain ⟨Fv, hF⟩ : ∃ z, fx_eq z (f_X4_readSum_L4 (fx_N σ) a0 x1.toInt) := ⟨_, fx_rf⟩
  have hF0 := hF
  unfold f_X4_readSum_L4 at hF
  replace hF := fx_R hF ht rfl
  refine q_aload_n (pc := 0) hG dX4_readSum_0 0 rfl ?_
  refine q_iload_n (pc := 1) hG dX4_readSum_1 1 rfl ?_
  refine q_cVi (pc := 2) [.int x1] [] hG (c_X4_readTerm_L4 τ σ a0 x1 hI tA0 rA1 at1 ht Tt) my_X4_readTerm mv_X4_readTerm w329 dX4_readSum_2 tA0 (by decide) rfl rfl (Nat.le_of_ble_eq_true rfl) (by decide) (fun v2 s2 p2 => ?_)
  have w2 := hS0.trans p2.1 rfl
  replace hF := fx_C hF p2.2.2
  refine q_istore_n (pc := 5) [(2, .int v2), (0, .ref a0), (1, .int x1)] hG dX4_readSum_5 (by decide) rfl ?_
  refine q_iconst (pc := 6) hG dX4_readSum_6 ki_0 ?_
  refine q_istore_n (pc := 7) [(3, .int 0), (2, .int v2), (0, .ref a0), (1, .int x1)] hG dX4_readSum_7 (by decide) rfl ?_
  have J8 : ∀ (n8 : Nat) (p8_2 : Int32) (p8_3 : Int32) (σ8 : q_V), (q_r p8_2 0 1) → (q_r p8_3 0 240) → (q_S md_X4_readSum_L4 τ σ σ8) → (fx_eq Fv (kL_X4_readSum_L4_8 a0 x1.toInt n8 p8_2.toInt p8_3.toInt (fx_N σ8))) → ((240 - p8_3.toInt).toNat < n8) → q_O X 0 0 τ σ8 8 [(0, .ref a0), (1, .int x1), (2, .int p8_2), (3, .int p8_3)] [] := by
    intro n8
    induction n8 with
    | zero => intro p8_2 p8_3 σ8 r8_2 r8_3 hS8 hF hm8; exact absurd hm8 (Nat.not_lt_zero _)
    | succ n8 ih8 =>
      intro p8_2 p8_3 σ8 r8_2 r8_3 hS8 hF hm8
      replace hF := (show fx_eq Fv (kB_X4_readSum_L4_8 (kL_X4_readSum_L4_8 a0 x1.toInt n8) a0 x1.toInt p8_2.toInt p8_3.toInt (fx_N σ8)) from hF)
      unfold kB_X4_readSum_L4_8 at hF
      refine q_iload_n (pc := 8) hG dX4_readSum_8 3 rfl ?_
      refine q_sipush (pc := 9) hG dX4_readSum_9 ks_240 ?_
      refine q_icmp_ge (pc := 12) hG 76 dX4_readSum_12 rfl ?_ ?_
      · intro c12
        replace hF := fx_lt2 hF rfl tl_240 c12
        refine q_iload_n (pc := 76) hG dX4_readSum_76 2 rfl ?_
        exact q_zrt hG hE dX4_readSum_77 r8_2 ⟨hS8, r8_2, (fx_end hF hF0)⟩
      intro c12
      replace hF := fx_lt1 hF rfl tl_240 c12
      refine q_iload_n (pc := 15) hG dX4_readSum_15 2 rfl ?_
      refine q_if_eq (pc := 16) hG 76 dX4_readSum_16 rfl ?_ ?_
      · intro c16
        replace hF := fx_eq1 hF rfl rfl c16
        refine q_iload_n (pc := 76) hG dX4_readSum_76 2 rfl ?_
        have r_1 := q_zeq c16
        exact q_zrt hG hE dX4_readSum_77 (q_r.mono r_1 (by decide)) ⟨hS8, (q_r.mono r_1 (by decide)), (fx_end hF hF0)⟩
      intro c16
      replace hF := fx_eq2 hF rfl rfl c16
      refine q_aload_n (pc := 19) hG dX4_readSum_19 0 rfl ?_
      refine q_pV (pc := 20) [] [] hG (c_X4_peek τ σ8 a0 hS8.1 tA0 at1 (hS8.same tA0 rfl ht) Tt) my_X4_peek mv_X4_peek w316 dX4_readSum_20 tA0 (by decide) rfl rfl (Nat.le_of_ble_eq_true rfl) (by decide) (fun v20 p20 => ?_)
      replace hF := fx_E hF p20.2
      refine q_bipush (pc := 23) hG dX4_readSum_23 kb_43 ?_
      have J37 : (fx_eq Fv (kJ_X4_readSum_L4_37 (fx_N σ8) a0 x1.toInt p8_3.toInt (kL_X4_readSum_L4_8 a0 x1.toInt n8))) → q_O X 0 0 τ σ8 37 [(0, .ref a0), (1, .int x1), (3, .int p8_3)] [] := by
        intro hF
        unfold kJ_X4_readSum_L4_37 at hF
        refine q_aload_n (pc := 37) hG dX4_readSum_37 0 rfl ?_
        refine q_pV (pc := 38) [] [] hG (c_X4_peek τ σ8 a0 hS8.1 tA0 at1 (hS8.same tA0 rfl ht) Tt) my_X4_peek mv_X4_peek w316 dX4_readSum_38 tA0 (by decide) rfl rfl (Nat.le_of_ble_eq_true rfl) (by decide) (fun v38 p38 => ?_)
        replace hF := fx_E hF p38.2
        refine q_istore (pc := 41) [(4, .int v38), (0, .ref a0), (1, .int x1), (3, .int p8_3)] hG dX4_readSum_41 (by decide) rfl ?_
        refine q_aload_n (pc := 43) hG dX4_readSum_43 1 rfl ?_
        refine q_dup (pc := 44) hG dX4_readSum_44 rfl ?_
        refine q_getI (pc := 45) hG fl_X4_22 dX4_readSum_45 hS8.1 tA0 ff_4_2 (fun v45 f45 g45 => ?_)
        replace hF := fx_I hF f45 rfl
        refine q_iconst (pc := 48) hG dX4_readSum_48 ki_1 ?_
        refine q_iadd (pc := 49) hG dX4_readSum_49 (fun v49 e49 => ?_)
        replace hF := fx_B_add hF rfl tl_1 e49
        refine q_putI (pc := 50) hG fl_X4_22 dX4_readSum_50 hS8 tA0 ff_4_2 (q_r_any v49) (by decide) rfl (fun s50 u50 w50 => ?_)
        replace hF := fx_P hF u50 rfl rfl
        have m50 : s50 a0 2 = .int v49 := by rw [u50]; exact q_up_same
        refine q_aload_n (pc := 53) hG dX4_readSum_53 1 rfl ?_
        refine q_iload_n (pc := 54) hG dX4_readSum_54 2 rfl ?_
        refine q_cVi (pc := 55) [.int x1] [] hG (c_X4_readTerm_L4 τ s50 a0 x1 w50.1 tA0 rA1 at1 (w50.same tA0 rfl ht) Tt) my_X4_readTerm mv_X4_readTerm w329 dX4_readSum_55 tA0 (by decide) rfl rfl (Nat.le_of_ble_eq_true rfl) (by decide) (fun v55 s55 p55 => ?_)
        have w55 := w50.trans p55.1 rfl
        replace hF := fx_C hF p55.2.2
        refine q_istore_n (pc := 58) [(2, .int v55), (4, .int v38), (0, .ref a0), (1, .int x1), (3, .int p8_3)] hG dX4_readSum_58 (by decide) rfl ?_
        refine q_aload_n (pc := 59) hG dX4_readSum_59 2 rfl ?_
        refine q_getR (pc := 60) (k2 := 3) (n2 := 1) hG fl_X4_31 dX4_readSum_60 w55.1 tA0 ff_4_4 (fun b60 f60 T60 => ?_)
        replace hF := fx_R hF f60 rfl
        have f_2 := (w55.2 _ _ _ _ tA0 rfl).symm.trans f60
        refine q_iload (pc := 63) hG dX4_readSum_63 1 rfl ?_
        refine q_iconst (pc := 65) hG dX4_readSum_65 ki_0 ?_
        refine q_cVi (pc := 66) [.int v38, .int 0] [] hG (c_X3_add τ s55 b60 v38 0 w55.1 T60) my_X3_add mv_X3_add w344 dX4_readSum_66 T60 (by decide) rfl rfl (Nat.le_of_ble_eq_true rfl) (by decide) (fun v66 s66 p66 => ?_)
        have w66 := w55.trans p66.1 rfl
        have fq66 := p66.2.2
        rewrite [tl_0] at fq66
        replace hF := fx_C hF fq66
        refine q_pop (pc := 69) hG dX4_readSum_69 rfl ?_
        obtain ⟨v70, e70⟩ : ∃ z : Int32, z = p8_3 + Int32.ofInt 1 := ⟨_, rfl⟩
        have r_3 := q_rlt r8_3 rl_240 c12 239 (by decide)
        have h70 := q_incN (lo := 1) (hi := 240) r_3 (by decide) (by decide) e70
        replace hF := fx_add hF rfl rfl h70.1
        refine q_iinc (pc := 70) [(3, .int v70), (2, .int v55), (4, .int v38), (0, .ref a0), (1, .int x1)] hG dX4_readSum_70 4 rfl e70 (by decide) rfl ?_
        refine q_goto (pc := 73) 8 hG dX4_readSum_73 rfl ?_
        refine q_lv [3, 4, 1, 0] rfl ?_
        exact ih8 v55 v70 s66 p55.2.1 (q_r.mono h70.2 (by decide)) w66 hF (q_measU hm8 (by have o0 := c12; have o1 := h70.1; have o2 := r_3; have o3 := h70.2; have l4 := tl_240; unfold q_r at o2 o3; omega) (h70.2).2)
      refine q_icmp_eq (pc := 25) hG 37 dX4_readSum_25 rfl ?_ ?_
      · intro c25
        replace hF := fx_eq1 hF rfl tl_43 c25
        refine q_lv [0, 1, 3] rfl ?_
        exact J37 hF
      intro c25
      replace hF := fx_eq2 hF rfl tl_43 c25
      refine q_aload_n (pc := 28) hG dX4_readSum_28 0 rfl ?_
      refine q_pV (pc := 29) [] [] hG (c_X4_peek τ σ8 a0 hS8.1 tA0 at1 (hS8.same tA0 rfl ht) Tt) my_X4_peek mv_X4_peek w316 dX4_readSum_29 tA0 (by decide) rfl rfl (Nat.le_of_ble_eq_true rfl) (by decide) (fun v29 p29 => ?_)
      replace hF := fx_E hF p29.2
      refine q_bipush (pc := 32) hG dX4_readSum_32 kb_45 ?_
      refine q_icmp_ne (pc := 34) hG 76 dX4_readSum_34 rfl ?_ ?_
      · intro c34
        replace hF := fx_eq2 hF rfl tl_45 c34
        refine q_iload_n (pc := 76) hG dX4_readSum_76 2 rfl ?_
        have r_4 := q_neL (c := 1) r8_2 c16 (by decide)
        exact q_zrt hG hE dX4_readSum_77 (q_r.mono r_4 (by decide)) ⟨hS8, (q_r.mono r_4 (by decide)), (fx_end hF hF0)⟩
      intro c34
      replace hF := fx_eq1 hF rfl tl_45 c34
      refine q_lv [0, 1, 3] rfl ?_
      exact J37 hF
  refine q_lv [2, 3, 1, 0] rfl ?_
  exact J8 ((240 - (0 : Int32).toInt).toNat + 1) v2 0 s2 p2.2.1 (q_r.mono rl_0 (by decide)) w2 (by rw [tl_0]; exact hF) (Nat.lt_succ_self _)
def md_X4_readFactor_L3 : List (Nat × Nat) := [(3, 1), (3, 2), (4, 2), (4, 3), (112, 0), (113, 0)]
set_option maxRecDepth 100000 in
set_option maxHeartbeats 4000000 in
theorem c_X4_readFactor_L3 {l : Launch} {D : q_D} (τ : q_T) (σ : q_V) (a0 : Nat) (x1 : Int32) (hI : q_I τ σ) (tA0 : τ a0 = some (4, 1)) (rA1 : q_r x1 3 3) (at1 : Nat) (ht : σ a0 0 = .ref at1) (Tt : τ at1 = some (110, 260)) : q_Ci l D yX4_readFactor cX4_readFactor 3 (some .boolean) 11 254 τ σ [.ref a0, .int x1] (fun r σ1 => q_S md_X4_readFactor_L3 τ σ σ1 ∧ (q_r r 0 1) ∧ ((r.toInt, fx_N σ1) = f_X4_readFactor_L3 (fx_N σ) a0 x1.toInt)) := by
  refine q_meti rfl (Nat.le_of_ble_eq_true rfl) (fun X hG hE => ?_)
  show q_O X 0 0 τ σ 0 [(0, .ref a0), (1, .int x1)] []
  have hS0 : q_S md_X4_readFactor_L3 τ σ σ := q_S.rf hI
  obtain ⟨Fv, hF⟩ : ∃ z, fx_eq z (f_X4_readFactor_L3 (fx_N σ) a0 x1.toInt) := ⟨_, fx_rf⟩
  have hF0 := hF
  unfold f_X4_readFactor_L3 at hF
  replace hF := fx_R hF ht rfl
  refine q_aload_n (pc := 0) hG dX4_readFactor_0 0 rfl ?_
  refine q_pV (pc := 1) [] [] hG (c_X4_peek τ σ a0 hI tA0 at1 ht Tt) my_X4_peek mv_X4_peek w316 dX4_readFactor_1 tA0 (by decide) rfl rfl (Nat.le_of_ble_eq_true rfl) (by decide) (fun v1 p1 => ?_)
  replace hF := fx_E hF p1.2
  refine q_istore_n (pc := 4) [(2, .int v1), (0, .ref a0), (1, .int x1)] hG dX4_readFactor_4 (by decide) rfl ?_
  refine q_iload_n (pc := 5) hG dX4_readFactor_5 0 rfl ?_
  refine q_bipush (pc := 6) hG dX4_readFactor_6 kb_91 ?_
  refine q_icmp_ne (pc := 8) hG 44 dX4_readFactor_8 rfl ?_ ?_
  · intro c8
    replace hF := fx_eq2 hF rfl tl_91 c8
    refine q_iload_n (pc := 44) hG dX4_readFactor_44 0 rfl ?_
    refine q_bipush (pc := 45) hG dX4_readFactor_45 kb_48 ?_
    refine q_bipush (pc := 47) hG dX4_readFactor_47 kb_57 ?_
    refine q_pN (pc := 49) [.int v1, .int 48, .int 57] [] hG (c_X11_isIn τ σ v1 48 57 hI) my_X11_isIn w238 nw_12 dX4_readFactor_49 rfl rfl (Nat.le_of_ble_eq_true rfl) (by decide) (fun v49 p49 => ?_)
    have fq49 := p49.2.1
    rewrite [tl_48, tl_57] at fq49
    replace hF := fx_E hF fq49
    refine q_if_eq (pc := 52) hG 60 dX4_readFactor_52 rfl ?_ ?_
    · intro c52
      replace hF := fx_eq1 hF rfl rfl c52
      refine q_iload_n (pc := 60) hG dX4_readFactor_60 0 rfl ?_
      refine q_pS (pc := 61) [.int v1] [] hG (c_X4_isValueLetter τ σ v1 hI) my_X4_isValueLetter w349 w348 dX4_readFactor_61 rfl rfl (Nat.le_of_ble_eq_true rfl) (by decide) (fun v61 p61 => ?_)
      replace hF := fx_E hF p61.2
      refine q_if_ne (pc := 64) hG 73 dX4_readFactor_64 rfl ?_ ?_
      · intro c64
        replace hF := fx_eq2 hF rfl rfl c64
        refine q_aload_n (pc := 73) hG dX4_readFactor_73 1 rfl ?_
        refine q_dup (pc := 74) hG dX4_readFactor_74 rfl ?_
        refine q_getI (pc := 75) hG fl_X4_22 dX4_readFactor_75 hI tA0 ff_4_2 (fun v75 f75 g75 => ?_)
        replace hF := fx_I hF f75 rfl
        refine q_iconst (pc := 78) hG dX4_readFactor_78 ki_1 ?_
        refine q_iadd (pc := 79) hG dX4_readFactor_79 (fun v79 e79 => ?_)
        replace hF := fx_B_add hF rfl tl_1 e79
        refine q_putI (pc := 80) hG fl_X4_22 dX4_readFactor_80 hS0 tA0 ff_4_2 (q_r_any v79) (by decide) rfl (fun s80 u80 w80 => ?_)
        replace hF := fx_P hF u80 rfl rfl
        have m80 : s80 a0 2 = .int v79 := by rw [u80]; exact q_up_same
        refine q_aload_n (pc := 83) hG dX4_readFactor_83 1 rfl ?_
        refine q_getR (pc := 84) (k2 := 3) (n2 := 1) hG fl_X4_31 dX4_readFactor_84 w80.1 tA0 ff_4_4 (fun b84 f84 T84 => ?_)
        replace hF := fx_R hF f84 rfl
        have f_1 := (w80.2 _ _ _ _ tA0 rfl).symm.trans f84
        refine q_bipush (pc := 87) hG dX4_readFactor_87 kb_105 ?_
        refine q_iload_n (pc := 89) hG dX4_readFactor_89 0 rfl ?_
        refine q_cVi (pc := 90) [.int 105, .int v1] [] hG (c_X3_add τ s80 b84 105 v1 w80.1 T84) my_X3_add mv_X3_add w344 dX4_readFactor_90 T84 (by decide) rfl rfl (Nat.le_of_ble_eq_true rfl) (by decide) (fun v90 s90 p90 => ?_)
        have w90 := w80.trans p90.1 rfl
        have fq90 := p90.2.2
        rewrite [tl_105] at fq90
        replace hF := fx_C hF fq90
        refine q_pop (pc := 93) hG dX4_readFactor_93 rfl ?_
        refine q_iconst (pc := 94) hG dX4_readFactor_94 ki_1 ?_
        exact q_zrt hG hE dX4_readFactor_95 (q_r.mono rl_1 (by decide)) ⟨w90, (q_r.mono rl_1 (by decide)), (by rw [tl_1]; exact fx_end hF hF0)⟩
      intro c64
      replace hF := fx_eq1 hF rfl rfl c64
      refine q_aload_n (pc := 67) hG dX4_readFactor_67 1 rfl ?_
      refine q_iconst (pc := 68) hG dX4_readFactor_68 ki_1 ?_
      refine q_cVi (pc := 69) [.int 1] [] hG (c_X4_fail τ σ a0 1 hI tA0) my_X4_fail mv_X4_fail w319 dX4_readFactor_69 tA0 (by decide) rfl rfl (Nat.le_of_ble_eq_true rfl) (by decide) (fun v69 s69 p69 => ?_)
      have w69 := hS0.trans p69.1 rfl
      have fq69 := p69.2.2
      rewrite [tl_1] at fq69
      replace hF := fx_C hF fq69
      exact q_zrt hG hE dX4_readFactor_72 (q_r.mono p69.2.1 (by decide)) ⟨w69, (q_r.mono p69.2.1 (by decide)), (fx_end hF hF0)⟩
    intro c52
    have g_2 := p49.2.2.mp (q_one p49.1 c52)
    have r_3 := q_rge p1.1 rl_48 g_2.1
    replace hF := fx_eq2 hF rfl rfl c52
    refine q_aload_n (pc := 55) hG dX4_readFactor_55 1 rfl ?_
    refine q_cVi (pc := 56) [] [] hG (c_X4_readNumber τ σ a0 hI tA0 at1 ht Tt) my_X4_readNumber mv_X4_readNumber w341 dX4_readFactor_56 tA0 (by decide) rfl rfl (Nat.le_of_ble_eq_true rfl) (by decide) (fun v56 s56 p56 => ?_)
    have w56 := hS0.trans p56.1 rfl
    replace hF := fx_C hF p56.2.2
    exact q_zrt hG hE dX4_readFactor_59 p56.2.1 ⟨w56, p56.2.1, (fx_end hF hF0)⟩
  intro c8
  replace hF := fx_eq1 hF rfl tl_91 c8
  refine q_aload_n (pc := 11) hG dX4_readFactor_11 1 rfl ?_
  refine q_iload_n (pc := 12) hG dX4_readFactor_12 2 rfl ?_
  refine q_cVi (pc := 13) [.int x1] [] hG (c_X4_mayOpen τ σ a0 x1 hI tA0) my_X4_mayOpen mv_X4_mayOpen w335 dX4_readFactor_13 tA0 (by decide) rfl rfl (Nat.le_of_ble_eq_true rfl) (by decide) (fun v13 s13 p13 => ?_)
  have w13 := hS0.trans p13.1 rfl
  replace hF := fx_C hF p13.2.2.1
  refine q_if_eq (pc := 16) hG 42 dX4_readFactor_16 rfl ?_ ?_
  · intro c16
    replace hF := fx_eq1 hF rfl rfl c16
    refine q_iconst (pc := 42) hG dX4_readFactor_42 ki_0 ?_
    exact q_zrt hG hE dX4_readFactor_43 (q_r.mono rl_0 (by decide)) ⟨w13, (q_r.mono rl_0 (by decide)), (by rw [tl_0]; exact fx_end hF hF0)⟩
  intro c16
  have g_4 := p13.2.2.2 (q_one p13.2.1 c16)
  replace hF := fx_eq2 hF rfl rfl c16
  refine q_aload_n (pc := 19) hG dX4_readFactor_19 1 rfl ?_
  refine q_iload_n (pc := 20) hG dX4_readFactor_20 2 rfl ?_
  refine q_iconst (pc := 21) hG dX4_readFactor_21 ki_1 ?_
  refine q_iadd (pc := 22) hG dX4_readFactor_22 (fun v22 e22 => ?_)
  replace hF := fx_add hF rfl tl_1 (q_addN (lo := 4) (hi := 4) e22 rA1 rl_1 (by decide)).1
  have r_5 := (q_addN (lo := 4) (hi := 4) e22 rA1 rl_1 (by decide)).2
  refine q_cVi (pc := 23) [.int v22] [] hG (c_X4_readSum_L4 τ s13 a0 v22 w13.1 tA0 r_5 at1 (w13.same tA0 rfl ht) Tt) my_X4_readSum mv_X4_readSum w326 dX4_readFactor_23 tA0 (by decide) rfl rfl (Nat.le_of_ble_eq_true rfl) (by decide) (fun v23 s23 p23 => ?_)
  have w23 := w13.trans p23.1 rfl
  replace hF := fx_C hF p23.2.2
  refine q_if_eq (pc := 26) hG 42 dX4_readFactor_26 rfl ?_ ?_
  · intro c26
    replace hF := fx_eq1 hF rfl rfl c26
    refine q_iconst (pc := 42) hG dX4_readFactor_42 ki_0 ?_
    exact q_zrt hG hE dX4_readFactor_43 (q_r.mono rl_0 (by decide)) ⟨w23, (q_r.mono rl_0 (by decide)), (by rw [tl_0]; exact fx_end hF hF0)⟩
  intro c26
  replace hF := fx_eq2 hF rfl rfl c26
  refine q_aload_n (pc := 29) hG dX4_readFactor_29 1 rfl ?_
  refine q_bipush (pc := 30) hG dX4_readFactor_30 kb_93 ?_
  refine q_cVi (pc := 32) [.int 93] [] hG (c_X4_expect τ s23 a0 93 w23.1 tA0 at1 (w23.same tA0 rfl ht) Tt) my_X4_expect mv_X4_expect w338 dX4_readFactor_32 tA0 (by decide) rfl rfl (Nat.le_of_ble_eq_true rfl) (by decide) (fun v32 s32 p32 => ?_)
  have w32 := w23.trans p32.1 rfl
  have fq32 := p32.2.2
  rewrite [tl_93] at fq32
  replace hF := fx_C hF fq32
  refine q_if_eq (pc := 35) hG 42 dX4_readFactor_35 rfl ?_ ?_
  · intro c35
    replace hF := fx_eq1 hF rfl rfl c35
    refine q_iconst (pc := 42) hG dX4_readFactor_42 ki_0 ?_
    exact q_zrt hG hE dX4_readFactor_43 (q_r.mono rl_0 (by decide)) ⟨w32, (q_r.mono rl_0 (by decide)), (by rw [tl_0]; exact fx_end hF hF0)⟩
  intro c35
  replace hF := fx_eq2 hF rfl rfl c35
  refine q_iconst (pc := 38) hG dX4_readFactor_38 ki_1 ?_
  refine q_goto (pc := 39) 43 hG dX4_readFactor_39 rfl ?_
  exact q_zrt hG hE dX4_readFactor_43 (q_r.mono rl_1 (by decide)) ⟨w32, (q_r.mono rl_1 (by decide)), (by rw [tl_1]; exact fx_end hF hF0)⟩
def md_X4_readTerm_L3 : List (Nat × Nat) := [(3, 1), (3, 2), (4, 2), (4, 3), (112, 0), (113, 0)]
set_option maxRecDepth 100000 in
set_option maxHeartbeats 4000000 in
theorem c_X4_readTerm_L3 {l : Launch} {D : q_D} (τ : q_T) (σ : q_V) (a0 : Nat) (x1 : Int32) (hI : q_I τ σ) (tA0 : τ a0 = some (4, 1)) (rA1 : q_r x1 3 3) (at1 : Nat) (ht : σ a0 0 = .ref at1) (Tt : τ at1 = some (110, 260)) : q_Ci l D yX4_readTerm cX4_readTerm 5 (some .boolean) 12 276 τ σ [.ref a0, .int x1] (fun r σ1 => q_S md_X4_readTerm_L3 τ σ σ1 ∧ (q_r r 0 1) ∧ ((r.toInt, fx_N σ1) = f_X4_readTerm_L3 (fx_N σ) a0 x1.toInt)) := by
  refine q_meti rfl (Nat.le_of_ble_eq_true rfl) (fun X hG hE => ?_)
  show q_O X 0 0 τ σ 0 [(0, .ref a0), (1, .int x1)] []
  have hS0 : q_S md_X4_readTerm_L3 τ σ σ := q_S.rf hI
  obtain ⟨Fv, hF⟩ : ∃ z, fx_eq z (f_X4_readTerm_L3 (fx_N σ) a0 x1.toInt) := ⟨_, fx_rf⟩
  have hF0 := hF
  unfold f_X4_readTerm_L3 at hF
  replace hF := fx_R hF ht rfl
  refine q_aload_n (pc := 0) hG dX4_readTerm_0 0 rfl ?_
  refine q_iload_n (pc := 1) hG dX4_readTerm_1 1 rfl ?_
  refine q_cVi (pc := 2) [.int x1] [] hG (c_X4_readFactor_L3 τ σ a0 x1 hI tA0 rA1 at1 ht Tt) my_X4_readFactor mv_X4_readFactor w332 dX4_readTerm_2 tA0 (by decide) rfl rfl (Nat.le_of_ble_eq_true rfl) (by decide) (fun v2 s2 p2 => ?_)
  have w2 := hS0.trans p2.1 rfl
  replace hF := fx_C hF p2.2.2
  refine q_istore_n (pc := 5) [(2, .int v2), (0, .ref a0), (1, .int x1)] hG dX4_readTerm_5 (by decide) rfl ?_
  refine q_iconst (pc := 6) hG dX4_readTerm_6 ki_0 ?_
  refine q_istore_n (pc := 7) [(3, .int 0), (2, .int v2), (0, .ref a0), (1, .int x1)] hG dX4_readTerm_7 (by decide) rfl ?_
  have J8 : ∀ (n8 : Nat) (p8_2 : Int32) (p8_3 : Int32) (σ8 : q_V), (q_r p8_2 0 1) → (q_r p8_3 0 240) → (q_S md_X4_readTerm_L3 τ σ σ8) → (fx_eq Fv (kL_X4_readTerm_L3_8 a0 x1.toInt n8 p8_2.toInt p8_3.toInt (fx_N σ8))) → ((240 - p8_3.toInt).toNat < n8) → q_O X 0 0 τ σ8 8 [(0, .ref a0), (1, .int x1), (2, .int p8_2), (3, .int p8_3)] [] := by
    intro n8
    induction n8 with
    | zero => intro p8_2 p8_3 σ8 r8_2 r8_3 hS8 hF hm8; exact absurd hm8 (Nat.not_lt_zero _)
    | succ n8 ih8 =>
      intro p8_2 p8_3 σ8 r8_2 r8_3 hS8 hF hm8
      replace hF := (show fx_eq Fv (kB_X4_readTerm_L3_8 (kL_X4_readTerm_L3_8 a0 x1.toInt n8) a0 x1.toInt p8_2.toInt p8_3.toInt (fx_N σ8)) from hF)
      unfold kB_X4_readTerm_L3_8 at hF
      refine q_iload_n (pc := 8) hG dX4_readTerm_8 3 rfl ?_
      refine q_sipush (pc := 9) hG dX4_readTerm_9 ks_240 ?_
      refine q_icmp_ge (pc := 12) hG 68 dX4_readTerm_12 rfl ?_ ?_
      · intro c12
        replace hF := fx_lt2 hF rfl tl_240 c12
        refine q_iload_n (pc := 68) hG dX4_readTerm_68 2 rfl ?_
        exact q_zrt hG hE dX4_readTerm_69 r8_2 ⟨hS8, r8_2, (fx_end hF hF0)⟩
      intro c12
      replace hF := fx_lt1 hF rfl tl_240 c12
      refine q_iload_n (pc := 15) hG dX4_readTerm_15 2 rfl ?_
      refine q_if_eq (pc := 16) hG 68 dX4_readTerm_16 rfl ?_ ?_
      · intro c16
        replace hF := fx_eq1 hF rfl rfl c16
        refine q_iload_n (pc := 68) hG dX4_readTerm_68 2 rfl ?_
        have r_1 := q_zeq c16
        exact q_zrt hG hE dX4_readTerm_69 (q_r.mono r_1 (by decide)) ⟨hS8, (q_r.mono r_1 (by decide)), (fx_end hF hF0)⟩
      intro c16
      replace hF := fx_eq2 hF rfl rfl c16
      refine q_aload_n (pc := 19) hG dX4_readTerm_19 0 rfl ?_
      refine q_pV (pc := 20) [] [] hG (c_X4_peek τ σ8 a0 hS8.1 tA0 at1 (hS8.same tA0 rfl ht) Tt) my_X4_peek mv_X4_peek w316 dX4_readTerm_20 tA0 (by decide) rfl rfl (Nat.le_of_ble_eq_true rfl) (by decide) (fun v20 p20 => ?_)
      replace hF := fx_E hF p20.2
      refine q_pS (pc := 23) [.int v20] [] hG (c_X4_isTimes τ σ8 v20 hS8.1) my_X4_isTimes w352 w351 dX4_readTerm_23 rfl rfl (Nat.le_of_ble_eq_true rfl) (by decide) (fun v23 p23 => ?_)
      replace hF := fx_E hF p23.2
      refine q_if_eq (pc := 26) hG 68 dX4_readTerm_26 rfl ?_ ?_
      · intro c26
        replace hF := fx_eq1 hF rfl rfl c26
        refine q_iload_n (pc := 68) hG dX4_readTerm_68 2 rfl ?_
        have r_2 := q_neL (c := 1) r8_2 c16 (by decide)
        exact q_zrt hG hE dX4_readTerm_69 (q_r.mono r_2 (by decide)) ⟨hS8, (q_r.mono r_2 (by decide)), (fx_end hF hF0)⟩
      intro c26
      replace hF := fx_eq2 hF rfl rfl c26
      refine q_aload_n (pc := 29) hG dX4_readTerm_29 0 rfl ?_
      refine q_pV (pc := 30) [] [] hG (c_X4_peek τ σ8 a0 hS8.1 tA0 at1 (hS8.same tA0 rfl ht) Tt) my_X4_peek mv_X4_peek w316 dX4_readTerm_30 tA0 (by decide) rfl rfl (Nat.le_of_ble_eq_true rfl) (by decide) (fun v30 p30 => ?_)
      replace hF := fx_E hF p30.2
      refine q_istore (pc := 33) [(4, .int v30), (0, .ref a0), (1, .int x1), (2, .int p8_2), (3, .int p8_3)] hG dX4_readTerm_33 (by decide) rfl ?_
      refine q_aload_n (pc := 35) hG dX4_readTerm_35 1 rfl ?_
      refine q_dup (pc := 36) hG dX4_readTerm_36 rfl ?_
      refine q_getI (pc := 37) hG fl_X4_22 dX4_readTerm_37 hS8.1 tA0 ff_4_2 (fun v37 f37 g37 => ?_)
      replace hF := fx_I hF f37 rfl
      refine q_iconst (pc := 40) hG dX4_readTerm_40 ki_1 ?_
      refine q_iadd (pc := 41) hG dX4_readTerm_41 (fun v41 e41 => ?_)
      replace hF := fx_B_add hF rfl tl_1 e41
      refine q_putI (pc := 42) hG fl_X4_22 dX4_readTerm_42 hS8 tA0 ff_4_2 (q_r_any v41) (by decide) rfl (fun s42 u42 w42 => ?_)
      replace hF := fx_P hF u42 rfl rfl
      have m42 : s42 a0 2 = .int v41 := by rw [u42]; exact q_up_same
      refine q_aload_n (pc := 45) hG dX4_readTerm_45 1 rfl ?_
      refine q_iload_n (pc := 46) hG dX4_readTerm_46 2 rfl ?_
      refine q_cVi (pc := 47) [.int x1] [] hG (c_X4_readFactor_L3 τ s42 a0 x1 w42.1 tA0 rA1 at1 (w42.same tA0 rfl ht) Tt) my_X4_readFactor mv_X4_readFactor w332 dX4_readTerm_47 tA0 (by decide) rfl rfl (Nat.le_of_ble_eq_true rfl) (by decide) (fun v47 s47 p47 => ?_)
      have w47 := w42.trans p47.1 rfl
      replace hF := fx_C hF p47.2.2
      refine q_istore_n (pc := 50) [(2, .int v47), (4, .int v30), (0, .ref a0), (1, .int x1), (3, .int p8_3)] hG dX4_readTerm_50 (by decide) rfl ?_
      refine q_aload_n (pc := 51) hG dX4_readTerm_51 2 rfl ?_
      refine q_getR (pc := 52) (k2 := 3) (n2 := 1) hG fl_X4_31 dX4_readTerm_52 w47.1 tA0 ff_4_4 (fun b52 f52 T52 => ?_)
      replace hF := fx_R hF f52 rfl
      have f_3 := (w47.2 _ _ _ _ tA0 rfl).symm.trans f52
      refine q_iload (pc := 55) hG dX4_readTerm_55 1 rfl ?_
      refine q_iconst (pc := 57) hG dX4_readTerm_57 ki_0 ?_
      refine q_cVi (pc := 58) [.int v30, .int 0] [] hG (c_X3_add τ s47 b52 v30 0 w47.1 T52) my_X3_add mv_X3_add w344 dX4_readTerm_58 T52 (by decide) rfl rfl (Nat.le_of_ble_eq_true rfl) (by decide) (fun v58 s58 p58 => ?_)
      have w58 := w47.trans p58.1 rfl
      have fq58 := p58.2.2
      rewrite [tl_0] at fq58
      replace hF := fx_C hF fq58
      refine q_pop (pc := 61) hG dX4_readTerm_61 rfl ?_
      obtain ⟨v62, e62⟩ : ∃ z : Int32, z = p8_3 + Int32.ofInt 1 := ⟨_, rfl⟩
      have r_4 := q_rlt r8_3 rl_240 c12 239 (by decide)
      have h62 := q_incN (lo := 1) (hi := 240) r_4 (by decide) (by decide) e62
      replace hF := fx_add hF rfl rfl h62.1
      refine q_iinc (pc := 62) [(3, .int v62), (2, .int v47), (4, .int v30), (0, .ref a0), (1, .int x1)] hG dX4_readTerm_62 4 rfl e62 (by decide) rfl ?_
      refine q_goto (pc := 65) 8 hG dX4_readTerm_65 rfl ?_
      refine q_lv [3, 4, 1, 0] rfl ?_
      exact ih8 v47 v62 s58 p47.2.1 (q_r.mono h62.2 (by decide)) w58 hF (q_measU hm8 (by have o0 := c12; have o1 := h62.1; have o2 := r_4; have o3 := h62.2; have l4 := tl_240; unfold q_r at o2 o3; omega) (h62.2).2)
  refine q_lv [2, 3, 1, 0] rfl ?_
  exact J8 ((240 - (0 : Int32).toInt).toNat + 1) v2 0 s2 p2.2.1 (q_r.mono rl_0 (by decide)) w2 (by rw [tl_0]; exact hF) (Nat.lt_succ_self _)
def md_X4_readSum_L3 : List (Nat × Nat) := [(3, 1), (3, 2), (4, 2), (4, 3), (112, 0), (113, 0)]
set_option maxRecDepth 100000 in
set_option maxHeartbeats 4000000 in
theorem c_X4_readSum_L3 {l : Launch} {D : q_D} (τ : q_T) (σ : q_V) (a0 : Nat) (x1 : Int32) (hI : q_I τ σ) (tA0 : τ a0 = some (4, 1)) (rA1 : q_r x1 3 3) (at1 : Nat) (ht : σ a0 0 = .ref at1) (Tt : τ at1 = some (110, 260)) : q_Ci l D yX4_readSum cX4_readSum 5 (some .boolean) 13 300 τ σ [.ref a0, .int x1] (fun r σ1 => q_S md_X4_readSum_L3 τ σ σ1 ∧ (q_r r 0 1) ∧ ((r.toInt, fx_N σ1) = f_X4_readSum_L3 (fx_N σ) a0 x1.toInt)) := by
  refine q_meti rfl (Nat.le_of_ble_eq_true rfl) (fun X hG hE => ?_)
  show q_O X 0 0 τ σ 0 [(0, .ref a0), (1, .int x1)] []
  have hS0 : q_S md_X4_readSum_L3 τ σ σ := q_S.rf hI
  obtain ⟨Fv, hF⟩ : ∃ z, fx_eq z (f_X4_readSum_L3 (fx_N σ) a0 x1.toInt) := ⟨_, fx_rf⟩
  have hF0 := hF
  unfold f_X4_readSum_L3 at hF
  replace hF := fx_R hF ht rfl
  refine q_aload_n (pc := 0) hG dX4_readSum_0 0 rfl ?_
  refine q_iload_n (pc := 1) hG dX4_readSum_1 1 rfl ?_
  refine q_cVi (pc := 2) [.int x1] [] hG (c_X4_readTerm_L3 τ σ a0 x1 hI tA0 rA1 at1 ht Tt) my_X4_readTerm mv_X4_readTerm w329 dX4_readSum_2 tA0 (by decide) rfl rfl (Nat.le_of_ble_eq_true rfl) (by decide) (fun v2 s2 p2 => ?_)
  have w2 := hS0.trans p2.1 rfl
  replace hF := fx_C hF p2.2.2
  refine q_istore_n (pc := 5) [(2, .int v2), (0, .ref a0), (1, .int x1)] hG dX4_readSum_5 (by decide) rfl ?_
  refine q_iconst (pc := 6) hG dX4_readSum_6 ki_0 ?_
  refine q_istore_n (pc := 7) [(3, .int 0), (2, .int v2), (0, .ref a0), (1, .int x1)] hG dX4_readSum_7 (by decide) rfl ?_
  have J8 : ∀ (n8 : Nat) (p8_2 : Int32) (p8_3 : Int32) (σ8 : q_V), (q_r p8_2 0 1) → (q_r p8_3 0 240) → (q_S md_X4_readSum_L3 τ σ σ8) → (fx_eq Fv (kL_X4_readSum_L3_8 a0 x1.toInt n8 p8_2.toInt p8_3.toInt (fx_N σ8))) → ((240 - p8_3.toInt).toNat < n8) → q_O X 0 0 τ σ8 8 [(0, .ref a0), (1, .int x1), (2, .int p8_2), (3, .int p8_3)] [] := by
    intro n8
    induction n8 with
    | zero => intro p8_2 p8_3 σ8 r8_2 r8_3 hS8 hF hm8; exact absurd hm8 (Nat.not_lt_zero _)
    | succ n8 ih8 =>
      intro p8_2 p8_3 σ8 r8_2 r8_3 hS8 hF hm8
      replace hF := (show fx_eq Fv (kB_X4_readSum_L3_8 (kL_X4_readSum_L3_8 a0 x1.toInt n8) a0 x1.toInt p8_2.toInt p8_3.toInt (fx_N σ8)) from hF)
      unfold kB_X4_readSum_L3_8 at hF
      refine q_iload_n (pc := 8) hG dX4_readSum_8 3 rfl ?_
      refine q_sipush (pc := 9) hG dX4_readSum_9 ks_240 ?_
      refine q_icmp_ge (pc := 12) hG 76 dX4_readSum_12 rfl ?_ ?_
      · intro c12
        replace hF := fx_lt2 hF rfl tl_240 c12
        refine q_iload_n (pc := 76) hG dX4_readSum_76 2 rfl ?_
        exact q_zrt hG hE dX4_readSum_77 r8_2 ⟨hS8, r8_2, (fx_end hF hF0)⟩
      intro c12
      replace hF := fx_lt1 hF rfl tl_240 c12
      refine q_iload_n (pc := 15) hG dX4_readSum_15 2 rfl ?_
      refine q_if_eq (pc := 16) hG 76 dX4_readSum_16 rfl ?_ ?_
      · intro c16
        replace hF := fx_eq1 hF rfl rfl c16
        refine q_iload_n (pc := 76) hG dX4_readSum_76 2 rfl ?_
        have r_1 := q_zeq c16
        exact q_zrt hG hE dX4_readSum_77 (q_r.mono r_1 (by decide)) ⟨hS8, (q_r.mono r_1 (by decide)), (fx_end hF hF0)⟩
      intro c16
      replace hF := fx_eq2 hF rfl rfl c16
      refine q_aload_n (pc := 19) hG dX4_readSum_19 0 rfl ?_
      refine q_pV (pc := 20) [] [] hG (c_X4_peek τ σ8 a0 hS8.1 tA0 at1 (hS8.same tA0 rfl ht) Tt) my_X4_peek mv_X4_peek w316 dX4_readSum_20 tA0 (by decide) rfl rfl (Nat.le_of_ble_eq_true rfl) (by decide) (fun v20 p20 => ?_)
      replace hF := fx_E hF p20.2
      refine q_bipush (pc := 23) hG dX4_readSum_23 kb_43 ?_
      have J37 : (fx_eq Fv (kJ_X4_readSum_L3_37 (fx_N σ8) a0 x1.toInt p8_3.toInt (kL_X4_readSum_L3_8 a0 x1.toInt n8))) → q_O X 0 0 τ σ8 37 [(0, .ref a0), (1, .int x1), (3, .int p8_3)] [] := by
        intro hF
        unfold kJ_X4_readSum_L3_37 at hF
        refine q_aload_n (pc := 37) hG dX4_readSum_37 0 rfl ?_
        refine q_pV (pc := 38) [] [] hG (c_X4_peek τ σ8 a0 hS8.1 tA0 at1 (hS8.same tA0 rfl ht) Tt) my_X4_peek mv_X4_peek w316 dX4_readSum_38 tA0 (by decide) rfl rfl (Nat.le_of_ble_eq_true rfl) (by decide) (fun v38 p38 => ?_)
        replace hF := fx_E hF p38.2
        refine q_istore (pc := 41) [(4, .int v38), (0, .ref a0), (1, .int x1), (3, .int p8_3)] hG dX4_readSum_41 (by decide) rfl ?_
        refine q_aload_n (pc := 43) hG dX4_readSum_43 1 rfl ?_
        refine q_dup (pc := 44) hG dX4_readSum_44 rfl ?_
        refine q_getI (pc := 45) hG fl_X4_22 dX4_readSum_45 hS8.1 tA0 ff_4_2 (fun v45 f45 g45 => ?_)
        replace hF := fx_I hF f45 rfl
        refine q_iconst (pc := 48) hG dX4_readSum_48 ki_1 ?_
        refine q_iadd (pc := 49) hG dX4_readSum_49 (fun v49 e49 => ?_)
        replace hF := fx_B_add hF rfl tl_1 e49
        refine q_putI (pc := 50) hG fl_X4_22 dX4_readSum_50 hS8 tA0 ff_4_2 (q_r_any v49) (by decide) rfl (fun s50 u50 w50 => ?_)
        replace hF := fx_P hF u50 rfl rfl
        have m50 : s50 a0 2 = .int v49 := by rw [u50]; exact q_up_same
        refine q_aload_n (pc := 53) hG dX4_readSum_53 1 rfl ?_
        refine q_iload_n (pc := 54) hG dX4_readSum_54 2 rfl ?_
        refine q_cVi (pc := 55) [.int x1] [] hG (c_X4_readTerm_L3 τ s50 a0 x1 w50.1 tA0 rA1 at1 (w50.same tA0 rfl ht) Tt) my_X4_readTerm mv_X4_readTerm w329 dX4_readSum_55 tA0 (by decide) rfl rfl (Nat.le_of_ble_eq_true rfl) (by decide) (fun v55 s55 p55 => ?_)
        have w55 := w50.trans p55.1 rfl
        replace hF := fx_C hF p55.2.2
        refine q_istore_n (pc := 58) [(2, .int v55), (4, .int v38), (0, .ref a0), (1, .int x1), (3, .int p8_3)] hG dX4_readSum_58 (by decide) rfl ?_
        refine q_aload_n (pc := 59) hG dX4_readSum_59 2 rfl ?_
        refine q_getR (pc := 60) (k2 := 3) (n2 := 1) hG fl_X4_31 dX4_readSum_60 w55.1 tA0 ff_4_4 (fun b60 f60 T60 => ?_)
        replace hF := fx_R hF f60 rfl
        have f_2 := (w55.2 _ _ _ _ tA0 rfl).symm.trans f60
        refine q_iload (pc := 63) hG dX4_readSum_63 1 rfl ?_
        refine q_iconst (pc := 65) hG dX4_readSum_65 ki_0 ?_
        refine q_cVi (pc := 66) [.int v38, .int 0] [] hG (c_X3_add τ s55 b60 v38 0 w55.1 T60) my_X3_add mv_X3_add w344 dX4_readSum_66 T60 (by decide) rfl rfl (Nat.le_of_ble_eq_true rfl) (by decide) (fun v66 s66 p66 => ?_)
        have w66 := w55.trans p66.1 rfl
        have fq66 := p66.2.2
        rewrite [tl_0] at fq66
        replace hF := fx_C hF fq66
        refine q_pop (pc := 69) hG dX4_readSum_69 rfl ?_
        obtain ⟨v70, e70⟩ : ∃ z : Int32, z = p8_3 + Int32.ofInt 1 := ⟨_, rfl⟩
        have r_3 := q_rlt r8_3 rl_240 c12 239 (by decide)
        have h70 := q_incN (lo := 1) (hi := 240) r_3 (by decide) (by decide) e70
        replace hF := fx_add hF rfl rfl h70.1
        refine q_iinc (pc := 70) [(3, .int v70), (2, .int v55), (4, .int v38), (0, .ref a0), (1, .int x1)] hG dX4_readSum_70 4 rfl e70 (by decide) rfl ?_
        refine q_goto (pc := 73) 8 hG dX4_readSum_73 rfl ?_
        refine q_lv [3, 4, 1, 0] rfl ?_
        exact ih8 v55 v70 s66 p55.2.1 (q_r.mono h70.2 (by decide)) w66 hF (q_measU hm8 (by have o0 := c12; have o1 := h70.1; have o2 := r_3; have o3 := h70.2; have l4 := tl_240; unfold q_r at o2 o3; omega) (h70.2).2)
      refine q_icmp_eq (pc := 25) hG 37 dX4_readSum_25 rfl ?_ ?_
      · intro c25
        replace hF := fx_eq1 hF rfl tl_43 c25
        refine q_lv [0, 1, 3] rfl ?_
        exact J37 hF
      intro c25
      replace hF := fx_eq2 hF rfl tl_43 c25
      refine q_aload_n (pc := 28) hG dX4_readSum_28 0 rfl ?_
      refine q_pV (pc := 29) [] [] hG (c_X4_peek τ σ8 a0 hS8.1 tA0 at1 (hS8.same tA0 rfl ht) Tt) my_X4_peek mv_X4_peek w316 dX4_readSum_29 tA0 (by decide) rfl rfl (Nat.le_of_ble_eq_true rfl) (by decide) (fun v29 p29 => ?_)
      replace hF := fx_E hF p29.2
      refine q_bipush (pc := 32) hG dX4_readSum_32 kb_45 ?_
      refine q_icmp_ne (pc := 34) hG 76 dX4_readSum_34 rfl ?_ ?_
      · intro c34
        replace hF := fx_eq2 hF rfl tl_45 c34
        refine q_iload_n (pc := 76) hG dX4_readSum_76 2 rfl ?_
        have r_4 := q_neL (c := 1) r8_2 c16 (by decide)
        exact q_zrt hG hE dX4_readSum_77 (q_r.mono r_4 (by decide)) ⟨hS8, (q_r.mono r_4 (by decide)), (fx_end hF hF0)⟩
      intro c34
      replace hF := fx_eq1 hF rfl tl_45 c34
      refine q_lv [0, 1, 3] rfl ?_
      exact J37 hF
  refine q_lv [2, 3, 1, 0] rfl ?_
  exact J8 ((240 - (0 : Int32).toInt).toNat + 1) v2 0 s2 p2.2.1 (q_r.mono rl_0 (by decide)) w2 (by rw [tl_0]; exact hF) (Nat.lt_succ_self _)
def md_X4_readFactor_L2 : List (Nat × Nat) := [(3, 1), (3, 2), (4, 2), (4, 3), (112, 0), (113, 0)]
set_option maxRecDepth 100000 in
set_option maxHeartbeats 4000000 in
theorem c_X4_readFactor_L2 {l : Launch} {D : q_D} (τ : q_T) (σ : q_V) (a0 : Nat) (x1 : Int32) (hI : q_I τ σ) (tA0 : τ a0 = some (4, 1)) (rA1 : q_r x1 2 2) (at1 : Nat) (ht : σ a0 0 = .ref at1) (Tt : τ at1 = some (110, 260)) : q_Ci l D yX4_readFactor cX4_readFactor 3 (some .boolean) 14 324 τ σ [.ref a0, .int x1] (fun r σ1 => q_S md_X4_readFactor_L2 τ σ σ1 ∧ (q_r r 0 1) ∧ ((r.toInt, fx_N σ1) = f_X4_readFactor_L2 (fx_N σ) a0 x1.toInt)) := by
  refine q_meti rfl (Nat.le_of_ble_eq_true rfl) (fun X hG hE => ?_)
  show q_O X 0 0 τ σ 0 [(0, .ref a0), (1, .int x1)] []
  have hS0 : q_S md_X4_readFactor_L2 τ σ σ := q_S.rf hI
  obtain ⟨Fv, hF⟩ : ∃ z, fx_eq z (f_X4_readFactor_L2 (fx_N σ) a0 x1.toInt) := ⟨_, fx_rf⟩
  have hF0 := hF
  unfold f_X4_readFactor_L2 at hF
  replace hF := fx_R hF ht rfl
  refine q_aload_n (pc := 0) hG dX4_readFactor_0 0 rfl ?_
  refine q_pV (pc := 1) [] [] hG (c_X4_peek τ σ a0 hI tA0 at1 ht Tt) my_X4_peek mv_X4_peek w316 dX4_readFactor_1 tA0 (by decide) rfl rfl (Nat.le_of_ble_eq_true rfl) (by decide) (fun v1 p1 => ?_)
  replace hF := fx_E hF p1.2
  refine q_istore_n (pc := 4) [(2, .int v1), (0, .ref a0), (1, .int x1)] hG dX4_readFactor_4 (by decide) rfl ?_
  refine q_iload_n (pc := 5) hG dX4_readFactor_5 0 rfl ?_
  refine q_bipush (pc := 6) hG dX4_readFactor_6 kb_91 ?_
  refine q_icmp_ne (pc := 8) hG 44 dX4_readFactor_8 rfl ?_ ?_
  · intro c8
    replace hF := fx_eq2 hF rfl tl_91 c8
    refine q_iload_n (pc := 44) hG dX4_readFactor_44 0 rfl ?_
    refine q_bipush (pc := 45) hG dX4_readFactor_45 kb_48 ?_
    refine q_bipush (pc := 47) hG dX4_readFactor_47 kb_57 ?_
    refine q_pN (pc := 49) [.int v1, .int 48, .int 57] [] hG (c_X11_isIn τ σ v1 48 57 hI) my_X11_isIn w238 nw_12 dX4_readFactor_49 rfl rfl (Nat.le_of_ble_eq_true rfl) (by decide) (fun v49 p49 => ?_)
    have fq49 := p49.2.1
    rewrite [tl_48, tl_57] at fq49
    replace hF := fx_E hF fq49
    refine q_if_eq (pc := 52) hG 60 dX4_readFactor_52 rfl ?_ ?_
    · intro c52
      replace hF := fx_eq1 hF rfl rfl c52
      refine q_iload_n (pc := 60) hG dX4_readFactor_60 0 rfl ?_
      refine q_pS (pc := 61) [.int v1] [] hG (c_X4_isValueLetter τ σ v1 hI) my_X4_isValueLetter w349 w348 dX4_readFactor_61 rfl rfl (Nat.le_of_ble_eq_true rfl) (by decide) (fun v61 p61 => ?_)
      replace hF := fx_E hF p61.2
      refine q_if_ne (pc := 64) hG 73 dX4_readFactor_64 rfl ?_ ?_
      · intro c64
        replace hF := fx_eq2 hF rfl rfl c64
        refine q_aload_n (pc := 73) hG dX4_readFactor_73 1 rfl ?_
        refine q_dup (pc := 74) hG dX4_readFactor_74 rfl ?_
        refine q_getI (pc := 75) hG fl_X4_22 dX4_readFactor_75 hI tA0 ff_4_2 (fun v75 f75 g75 => ?_)
        replace hF := fx_I hF f75 rfl
        refine q_iconst (pc := 78) hG dX4_readFactor_78 ki_1 ?_
        refine q_iadd (pc := 79) hG dX4_readFactor_79 (fun v79 e79 => ?_)
        replace hF := fx_B_add hF rfl tl_1 e79
        refine q_putI (pc := 80) hG fl_X4_22 dX4_readFactor_80 hS0 tA0 ff_4_2 (q_r_any v79) (by decide) rfl (fun s80 u80 w80 => ?_)
        replace hF := fx_P hF u80 rfl rfl
        have m80 : s80 a0 2 = .int v79 := by rw [u80]; exact q_up_same
        refine q_aload_n (pc := 83) hG dX4_readFactor_83 1 rfl ?_
        refine q_getR (pc := 84) (k2 := 3) (n2 := 1) hG fl_X4_31 dX4_readFactor_84 w80.1 tA0 ff_4_4 (fun b84 f84 T84 => ?_)
        replace hF := fx_R hF f84 rfl
        have f_1 := (w80.2 _ _ _ _ tA0 rfl).symm.trans f84
        refine q_bipush (pc := 87) hG dX4_readFactor_87 kb_105 ?_
        refine q_iload_n (pc := 89) hG dX4_readFactor_89 0 rfl ?_
        refine q_cVi (pc := 90) [.int 105, .int v1] [] hG (c_X3_add τ s80 b84 105 v1 w80.1 T84) my_X3_add mv_X3_add w344 dX4_readFactor_90 T84 (by decide) rfl rfl (Nat.le_of_ble_eq_true rfl) (by decide) (fun v90 s90 p90 => ?_)
        have w90 := w80.trans p90.1 rfl
        have fq90 := p90.2.2
        rewrite [tl_105] at fq90
        replace hF := fx_C hF fq90
        refine q_pop (pc := 93) hG dX4_readFactor_93 rfl ?_
        refine q_iconst (pc := 94) hG dX4_readFactor_94 ki_1 ?_
        exact q_zrt hG hE dX4_readFactor_95 (q_r.mono rl_1 (by decide)) ⟨w90, (q_r.mono rl_1 (by decide)), (by rw [tl_1]; exact fx_end hF hF0)⟩
      intro c64
      replace hF := fx_eq1 hF rfl rfl c64
      refine q_aload_n (pc := 67) hG dX4_readFactor_67 1 rfl ?_
      refine q_iconst (pc := 68) hG dX4_readFactor_68 ki_1 ?_
      refine q_cVi (pc := 69) [.int 1] [] hG (c_X4_fail τ σ a0 1 hI tA0) my_X4_fail mv_X4_fail w319 dX4_readFactor_69 tA0 (by decide) rfl rfl (Nat.le_of_ble_eq_true rfl) (by decide) (fun v69 s69 p69 => ?_)
      have w69 := hS0.trans p69.1 rfl
      have fq69 := p69.2.2
      rewrite [tl_1] at fq69
      replace hF := fx_C hF fq69
      exact q_zrt hG hE dX4_readFactor_72 (q_r.mono p69.2.1 (by decide)) ⟨w69, (q_r.mono p69.2.1 (by decide)), (fx_end hF hF0)⟩
    intro c52
    have g_2 := p49.2.2.mp (q_one p49.1 c52)
    have r_3 := q_rge p1.1 rl_48 g_2.1
    replace hF := fx_eq2 hF rfl rfl c52
    refine q_aload_n (pc := 55) hG dX4_readFactor_55 1 rfl ?_
    refine q_cVi (pc := 56) [] [] hG (c_X4_readNumber τ σ a0 hI tA0 at1 ht Tt) my_X4_readNumber mv_X4_readNumber w341 dX4_readFactor_56 tA0 (by decide) rfl rfl (Nat.le_of_ble_eq_true rfl) (by decide) (fun v56 s56 p56 => ?_)
    have w56 := hS0.trans p56.1 rfl
    replace hF := fx_C hF p56.2.2
    exact q_zrt hG hE dX4_readFactor_59 p56.2.1 ⟨w56, p56.2.1, (fx_end hF hF0)⟩
  intro c8
  replace hF := fx_eq1 hF rfl tl_91 c8
  refine q_aload_n (pc := 11) hG dX4_readFactor_11 1 rfl ?_
  refine q_iload_n (pc := 12) hG dX4_readFactor_12 2 rfl ?_
  refine q_cVi (pc := 13) [.int x1] [] hG (c_X4_mayOpen τ σ a0 x1 hI tA0) my_X4_mayOpen mv_X4_mayOpen w335 dX4_readFactor_13 tA0 (by decide) rfl rfl (Nat.le_of_ble_eq_true rfl) (by decide) (fun v13 s13 p13 => ?_)
  have w13 := hS0.trans p13.1 rfl
  replace hF := fx_C hF p13.2.2.1
  refine q_if_eq (pc := 16) hG 42 dX4_readFactor_16 rfl ?_ ?_
  · intro c16
    replace hF := fx_eq1 hF rfl rfl c16
    refine q_iconst (pc := 42) hG dX4_readFactor_42 ki_0 ?_
    exact q_zrt hG hE dX4_readFactor_43 (q_r.mono rl_0 (by decide)) ⟨w13, (q_r.mono rl_0 (by decide)), (by rw [tl_0]; exact fx_end hF hF0)⟩
  intro c16
  have g_4 := p13.2.2.2 (q_one p13.2.1 c16)
  replace hF := fx_eq2 hF rfl rfl c16
  refine q_aload_n (pc := 19) hG dX4_readFactor_19 1 rfl ?_
  refine q_iload_n (pc := 20) hG dX4_readFactor_20 2 rfl ?_
  refine q_iconst (pc := 21) hG dX4_readFactor_21 ki_1 ?_
  refine q_iadd (pc := 22) hG dX4_readFactor_22 (fun v22 e22 => ?_)
  replace hF := fx_add hF rfl tl_1 (q_addN (lo := 3) (hi := 3) e22 rA1 rl_1 (by decide)).1
  have r_5 := (q_addN (lo := 3) (hi := 3) e22 rA1 rl_1 (by decide)).2
  refine q_cVi (pc := 23) [.int v22] [] hG (c_X4_readSum_L3 τ s13 a0 v22 w13.1 tA0 r_5 at1 (w13.same tA0 rfl ht) Tt) my_X4_readSum mv_X4_readSum w326 dX4_readFactor_23 tA0 (by decide) rfl rfl (Nat.le_of_ble_eq_true rfl) (by decide) (fun v23 s23 p23 => ?_)
  have w23 := w13.trans p23.1 rfl
  replace hF := fx_C hF p23.2.2
  refine q_if_eq (pc := 26) hG 42 dX4_readFactor_26 rfl ?_ ?_
  · intro c26
    replace hF := fx_eq1 hF rfl rfl c26
    refine q_iconst (pc := 42) hG dX4_readFactor_42 ki_0 ?_
    exact q_zrt hG hE dX4_readFactor_43 (q_r.mono rl_0 (by decide)) ⟨w23, (q_r.mono rl_0 (by decide)), (by rw [tl_0]; exact fx_end hF hF0)⟩
  intro c26
  replace hF := fx_eq2 hF rfl rfl c26
  refine q_aload_n (pc := 29) hG dX4_readFactor_29 1 rfl ?_
  refine q_bipush (pc := 30) hG dX4_readFactor_30 kb_93 ?_
  refine q_cVi (pc := 32) [.int 93] [] hG (c_X4_expect τ s23 a0 93 w23.1 tA0 at1 (w23.same tA0 rfl ht) Tt) my_X4_expect mv_X4_expect w338 dX4_readFactor_32 tA0 (by decide) rfl rfl (Nat.le_of_ble_eq_true rfl) (by decide) (fun v32 s32 p32 => ?_)
  have w32 := w23.trans p32.1 rfl
  have fq32 := p32.2.2
  rewrite [tl_93] at fq32
  replace hF := fx_C hF fq32
  refine q_if_eq (pc := 35) hG 42 dX4_readFactor_35 rfl ?_ ?_
  · intro c35
    replace hF := fx_eq1 hF rfl rfl c35
    refine q_iconst (pc := 42) hG dX4_readFactor_42 ki_0 ?_
    exact q_zrt hG hE dX4_readFactor_43 (q_r.mono rl_0 (by decide)) ⟨w32, (q_r.mono rl_0 (by decide)), (by rw [tl_0]; exact fx_end hF hF0)⟩
  intro c35
  replace hF := fx_eq2 hF rfl rfl c35
  refine q_iconst (pc := 38) hG dX4_readFactor_38 ki_1 ?_
  refine q_goto (pc := 39) 43 hG dX4_readFactor_39 rfl ?_
  exact q_zrt hG hE dX4_readFactor_43 (q_r.mono rl_1 (by decide)) ⟨w32, (q_r.mono rl_1 (by decide)), (by rw [tl_1]; exact fx_end hF hF0)⟩
def md_X4_readTerm_L2 : List (Nat × Nat) := [(3, 1), (3, 2), (4, 2), (4, 3), (112, 0), (113, 0)]
set_option maxRecDepth 100000 in
set_option maxHeartbeats 4000000 in
theorem c_X4_readTerm_L2 {l : Launch} {D : q_D} (τ : q_T) (σ : q_V) (a0 : Nat) (x1 : Int32) (hI : q_I τ σ) (tA0 : τ a0 = some (4, 1)) (rA1 : q_r x1 2 2) (at1 : Nat) (ht : σ a0 0 = .ref at1) (Tt : τ at1 = some (110, 260)) : q_Ci l D yX4_readTerm cX4_readTerm 5 (some .boolean) 15 346 τ σ [.ref a0, .int x1] (fun r σ1 => q_S md_X4_readTerm_L2 τ σ σ1 ∧ (q_r r 0 1) ∧ ((r.toInt, fx_N σ1) = f_X4_readTerm_L2 (fx_N σ) a0 x1.toInt)) := by
  refine q_meti rfl (Nat.le_of_ble_eq_true rfl) (fun X hG hE => ?_)
  show q_O X 0 0 τ σ 0 [(0, .ref a0), (1, .int x1)] []
  have hS0 : q_S md_X4_readTerm_L2 τ σ σ := q_S.rf hI
  obtain ⟨Fv, hF⟩ : ∃ z, fx_eq z (f_X4_readTerm_L2 (fx_N σ) a0 x1.toInt) := ⟨_, fx_rf⟩
  have hF0 := hF
  unfold f_X4_readTerm_L2 at hF
  replace hF := fx_R hF ht rfl
  refine q_aload_n (pc := 0) hG dX4_readTerm_0 0 rfl ?_
  refine q_iload_n (pc := 1) hG dX4_readTerm_1 1 rfl ?_
  refine q_cVi (pc := 2) [.int x1] [] hG (c_X4_readFactor_L2 τ σ a0 x1 hI tA0 rA1 at1 ht Tt) my_X4_readFactor mv_X4_readFactor w332 dX4_readTerm_2 tA0 (by decide) rfl rfl (Nat.le_of_ble_eq_true rfl) (by decide) (fun v2 s2 p2 => ?_)
  have w2 := hS0.trans p2.1 rfl
  replace hF := fx_C hF p2.2.2
  refine q_istore_n (pc := 5) [(2, .int v2), (0, .ref a0), (1, .int x1)] hG dX4_readTerm_5 (by decide) rfl ?_
  refine q_iconst (pc := 6) hG dX4_readTerm_6 ki_0 ?_
  refine q_istore_n (pc := 7) [(3, .int 0), (2, .int v2), (0, .ref a0), (1, .int x1)] hG dX4_readTerm_7 (by decide) rfl ?_
  have J8 : ∀ (n8 : Nat) (p8_2 : Int32) (p8_3 : Int32) (σ8 : q_V), (q_r p8_2 0 1) → (q_r p8_3 0 240) → (q_S md_X4_readTerm_L2 τ σ σ8) → (fx_eq Fv (kL_X4_readTerm_L2_8 a0 x1.toInt n8 p8_2.toInt p8_3.toInt (fx_N σ8))) → ((240 - p8_3.toInt).toNat < n8) → q_O X 0 0 τ σ8 8 [(0, .ref a0), (1, .int x1), (2, .int p8_2), (3, .int p8_3)] [] := by
    intro n8
    induction n8 with
    | zero => intro p8_2 p8_3 σ8 r8_2 r8_3 hS8 hF hm8; exact absurd hm8 (Nat.not_lt_zero _)
    | succ n8 ih8 =>
      intro p8_2 p8_3 σ8 r8_2 r8_3 hS8 hF hm8
      replace hF := (show fx_eq Fv (kB_X4_readTerm_L2_8 (kL_X4_readTerm_L2_8 a0 x1.toInt n8) a0 x1.toInt p8_2.toInt p8_3.toInt (fx_N σ8)) from hF)
      unfold kB_X4_readTerm_L2_8 at hF
      refine q_iload_n (pc := 8) hG dX4_readTerm_8 3 rfl ?_
      refine q_sipush (pc := 9) hG dX4_readTerm_9 ks_240 ?_
      refine q_icmp_ge (pc := 12) hG 68 dX4_readTerm_12 rfl ?_ ?_
      · intro c12
        replace hF := fx_lt2 hF rfl tl_240 c12
        refine q_iload_n (pc := 68) hG dX4_readTerm_68 2 rfl ?_
        exact q_zrt hG hE dX4_readTerm_69 r8_2 ⟨hS8, r8_2, (fx_end hF hF0)⟩
      intro c12
      replace hF := fx_lt1 hF rfl tl_240 c12
      refine q_iload_n (pc := 15) hG dX4_readTerm_15 2 rfl ?_
      refine q_if_eq (pc := 16) hG 68 dX4_readTerm_16 rfl ?_ ?_
      · intro c16
        replace hF := fx_eq1 hF rfl rfl c16
        refine q_iload_n (pc := 68) hG dX4_readTerm_68 2 rfl ?_
        have r_1 := q_zeq c16
        exact q_zrt hG hE dX4_readTerm_69 (q_r.mono r_1 (by decide)) ⟨hS8, (q_r.mono r_1 (by decide)), (fx_end hF hF0)⟩
      intro c16
      replace hF := fx_eq2 hF rfl rfl c16
      refine q_aload_n (pc := 19) hG dX4_readTerm_19 0 rfl ?_
      refine q_pV (pc := 20) [] [] hG (c_X4_peek τ σ8 a0 hS8.1 tA0 at1 (hS8.same tA0 rfl ht) Tt) my_X4_peek mv_X4_peek w316 dX4_readTerm_20 tA0 (by decide) rfl rfl (Nat.le_of_ble_eq_true rfl) (by decide) (fun v20 p20 => ?_)
      replace hF := fx_E hF p20.2
      refine q_pS (pc := 23) [.int v20] [] hG (c_X4_isTimes τ σ8 v20 hS8.1) my_X4_isTimes w352 w351 dX4_readTerm_23 rfl rfl (Nat.le_of_ble_eq_true rfl) (by decide) (fun v23 p23 => ?_)
      replace hF := fx_E hF p23.2
      refine q_if_eq (pc := 26) hG 68 dX4_readTerm_26 rfl ?_ ?_
      · intro c26
        replace hF := fx_eq1 hF rfl rfl c26
        refine q_iload_n (pc := 68) hG dX4_readTerm_68 2 rfl ?_
        have r_2 := q_neL (c := 1) r8_2 c16 (by decide)
        exact q_zrt hG hE dX4_readTerm_69 (q_r.mono r_2 (by decide)) ⟨hS8, (q_r.mono r_2 (by decide)), (fx_end hF hF0)⟩
      intro c26
      replace hF := fx_eq2 hF rfl rfl c26
      refine q_aload_n (pc := 29) hG dX4_readTerm_29 0 rfl ?_
      refine q_pV (pc := 30) [] [] hG (c_X4_peek τ σ8 a0 hS8.1 tA0 at1 (hS8.same tA0 rfl ht) Tt) my_X4_peek mv_X4_peek w316 dX4_readTerm_30 tA0 (by decide) rfl rfl (Nat.le_of_ble_eq_true rfl) (by decide) (fun v30 p30 => ?_)
      replace hF := fx_E hF p30.2
      refine q_istore (pc := 33) [(4, .int v30), (0, .ref a0), (1, .int x1), (2, .int p8_2), (3, .int p8_3)] hG dX4_readTerm_33 (by decide) rfl ?_
      refine q_aload_n (pc := 35) hG dX4_readTerm_35 1 rfl ?_
      refine q_dup (pc := 36) hG dX4_readTerm_36 rfl ?_
      refine q_getI (pc := 37) hG fl_X4_22 dX4_readTerm_37 hS8.1 tA0 ff_4_2 (fun v37 f37 g37 => ?_)
      replace hF := fx_I hF f37 rfl
      refine q_iconst (pc := 40) hG dX4_readTerm_40 ki_1 ?_
      refine q_iadd (pc := 41) hG dX4_readTerm_41 (fun v41 e41 => ?_)
      replace hF := fx_B_add hF rfl tl_1 e41
      refine q_putI (pc := 42) hG fl_X4_22 dX4_readTerm_42 hS8 tA0 ff_4_2 (q_r_any v41) (by decide) rfl (fun s42 u42 w42 => ?_)
      replace hF := fx_P hF u42 rfl rfl
      have m42 : s42 a0 2 = .int v41 := by rw [u42]; exact q_up_same
      refine q_aload_n (pc := 45) hG dX4_readTerm_45 1 rfl ?_
      refine q_iload_n (pc := 46) hG dX4_readTerm_46 2 rfl ?_
      refine q_cVi (pc := 47) [.int x1] [] hG (c_X4_readFactor_L2 τ s42 a0 x1 w42.1 tA0 rA1 at1 (w42.same tA0 rfl ht) Tt) my_X4_readFactor mv_X4_readFactor w332 dX4_readTerm_47 tA0 (by decide) rfl rfl (Nat.le_of_ble_eq_true rfl) (by decide) (fun v47 s47 p47 => ?_)
      have w47 := w42.trans p47.1 rfl
      replace hF := fx_C hF p47.2.2
      refine q_istore_n (pc := 50) [(2, .int v47), (4, .int v30), (0, .ref a0), (1, .int x1), (3, .int p8_3)] hG dX4_readTerm_50 (by decide) rfl ?_
      refine q_aload_n (pc := 51) hG dX4_readTerm_51 2 rfl ?_
      refine q_getR (pc := 52) (k2 := 3) (n2 := 1) hG fl_X4_31 dX4_readTerm_52 w47.1 tA0 ff_4_4 (fun b52 f52 T52 => ?_)
      replace hF := fx_R hF f52 rfl
      have f_3 := (w47.2 _ _ _ _ tA0 rfl).symm.trans f52
      refine q_iload (pc := 55) hG dX4_readTerm_55 1 rfl ?_
      refine q_iconst (pc := 57) hG dX4_readTerm_57 ki_0 ?_
      refine q_cVi (pc := 58) [.int v30, .int 0] [] hG (c_X3_add τ s47 b52 v30 0 w47.1 T52) my_X3_add mv_X3_add w344 dX4_readTerm_58 T52 (by decide) rfl rfl (Nat.le_of_ble_eq_true rfl) (by decide) (fun v58 s58 p58 => ?_)
      have w58 := w47.trans p58.1 rfl
      have fq58 := p58.2.2
      rewrite [tl_0] at fq58
      replace hF := fx_C hF fq58
      refine q_pop (pc := 61) hG dX4_readTerm_61 rfl ?_
      obtain ⟨v62, e62⟩ : ∃ z : Int32, z = p8_3 + Int32.ofInt 1 := ⟨_, rfl⟩
      have r_4 := q_rlt r8_3 rl_240 c12 239 (by decide)
      have h62 := q_incN (lo := 1) (hi := 240) r_4 (by decide) (by decide) e62
      replace hF := fx_add hF rfl rfl h62.1
      refine q_iinc (pc := 62) [(3, .int v62), (2, .int v47), (4, .int v30), (0, .ref a0), (1, .int x1)] hG dX4_readTerm_62 4 rfl e62 (by decide) rfl ?_
      refine q_goto (pc := 65) 8 hG dX4_readTerm_65 rfl ?_
      refine q_lv [3, 4, 1, 0] rfl ?_
      exact ih8 v47 v62 s58 p47.2.1 (q_r.mono h62.2 (by decide)) w58 hF (q_measU hm8 (by have o0 := c12; have o1 := h62.1; have o2 := r_4; have o3 := h62.2; have l4 := tl_240; unfold q_r at o2 o3; omega) (h62.2).2)
  refine q_lv [2, 3, 1, 0] rfl ?_
  exact J8 ((240 - (0 : Int32).toInt).toNat + 1) v2 0 s2 p2.2.1 (q_r.mono rl_0 (by decide)) w2 (by rw [tl_0]; exact hF) (Nat.lt_succ_self _)
def md_X4_readSum_L2 : List (Nat × Nat) := [(3, 1), (3, 2), (4, 2), (4, 3), (112, 0), (113, 0)]
set_option maxRecDepth 100000 in
set_option maxHeartbeats 4000000 in
theorem c_X4_readSum_L2 {l : Launch} {D : q_D} (τ : q_T) (σ : q_V) (a0 : Nat) (x1 : Int32) (hI : q_I τ σ) (tA0 : τ a0 = some (4, 1)) (rA1 : q_r x1 2 2) (at1 : Nat) (ht : σ a0 0 = .ref at1) (Tt : τ at1 = some (110, 260)) : q_Ci l D yX4_readSum cX4_readSum 5 (some .boolean) 16 370 τ σ [.ref a0, .int x1] (fun r σ1 => q_S md_X4_readSum_L2 τ σ σ1 ∧ (q_r r 0 1) ∧ ((r.toInt, fx_N σ1) = f_X4_readSum_L2 (fx_N σ) a0 x1.toInt)) := by
  refine q_meti rfl (Nat.le_of_ble_eq_true rfl) (fun X hG hE => ?_)
  show q_O X 0 0 τ σ 0 [(0, .ref a0), (1, .int x1)] []
  have hS0 : q_S md_X4_readSum_L2 τ σ σ := q_S.rf hI
  obtain ⟨Fv, hF⟩ : ∃ z, fx_eq z (f_X4_readSum_L2 (fx_N σ) a0 x1.toInt) := ⟨_, fx_rf⟩
  have hF0 := hF
  unfold f_X4_readSum_L2 at hF
  replace hF := fx_R hF ht rfl
  refine q_aload_n (pc := 0) hG dX4_readSum_0 0 rfl ?_
  refine q_iload_n (pc := 1) hG dX4_readSum_1 1 rfl ?_
  refine q_cVi (pc := 2) [.int x1] [] hG (c_X4_readTerm_L2 τ σ a0 x1 hI tA0 rA1 at1 ht Tt) my_X4_readTerm mv_X4_readTerm w329 dX4_readSum_2 tA0 (by decide) rfl rfl (Nat.le_of_ble_eq_true rfl) (by decide) (fun v2 s2 p2 => ?_)
  have w2 := hS0.trans p2.1 rfl
  replace hF := fx_C hF p2.2.2
  refine q_istore_n (pc := 5) [(2, .int v2), (0, .ref a0), (1, .int x1)] hG dX4_readSum_5 (by decide) rfl ?_
  refine q_iconst (pc := 6) hG dX4_readSum_6 ki_0 ?_
  refine q_istore_n (pc := 7) [(3, .int 0), (2, .int v2), (0, .ref a0), (1, .int x1)] hG dX4_readSum_7 (by decide) rfl ?_
  have J8 : ∀ (n8 : Nat) (p8_2 : Int32) (p8_3 : Int32) (σ8 : q_V), (q_r p8_2 0 1) → (q_r p8_3 0 240) → (q_S md_X4_readSum_L2 τ σ σ8) → (fx_eq Fv (kL_X4_readSum_L2_8 a0 x1.toInt n8 p8_2.toInt p8_3.toInt (fx_N σ8))) → ((240 - p8_3.toInt).toNat < n8) → q_O X 0 0 τ σ8 8 [(0, .ref a0), (1, .int x1), (2, .int p8_2), (3, .int p8_3)] [] := by
    intro n8
    induction n8 with
    | zero => intro p8_2 p8_3 σ8 r8_2 r8_3 hS8 hF hm8; exact absurd hm8 (Nat.not_lt_zero _)
    | succ n8 ih8 =>
      intro p8_2 p8_3 σ8 r8_2 r8_3 hS8 hF hm8
      replace hF := (show fx_eq Fv (kB_X4_readSum_L2_8 (kL_X4_readSum_L2_8 a0 x1.toInt n8) a0 x1.toInt p8_2.toInt p8_3.toInt (fx_N σ8)) from hF)
      unfold kB_X4_readSum_L2_8 at hF
      refine q_iload_n (pc := 8) hG dX4_readSum_8 3 rfl ?_
      refine q_sipush (pc := 9) hG dX4_readSum_9 ks_240 ?_
      refine q_icmp_ge (pc := 12) hG 76 dX4_readSum_12 rfl ?_ ?_
      · intro c12
        replace hF := fx_lt2 hF rfl tl_240 c12
        refine q_iload_n (pc := 76) hG dX4_readSum_76 2 rfl ?_
        exact q_zrt hG hE dX4_readSum_77 r8_2 ⟨hS8, r8_2, (fx_end hF hF0)⟩
      intro c12
      replace hF := fx_lt1 hF rfl tl_240 c12
      refine q_iload_n (pc := 15) hG dX4_readSum_15 2 rfl ?_
      refine q_if_eq (pc := 16) hG 76 dX4_readSum_16 rfl ?_ ?_
      · intro c16
        replace hF := fx_eq1 hF rfl rfl c16
        refine q_iload_n (pc := 76) hG dX4_readSum_76 2 rfl ?_
        have r_1 := q_zeq c16
        exact q_zrt hG hE dX4_readSum_77 (q_r.mono r_1 (by decide)) ⟨hS8, (q_r.mono r_1 (by decide)), (fx_end hF hF0)⟩
      intro c16
      replace hF := fx_eq2 hF rfl rfl c16
      refine q_aload_n (pc := 19) hG dX4_readSum_19 0 rfl ?_
      refine q_pV (pc := 20) [] [] hG (c_X4_peek τ σ8 a0 hS8.1 tA0 at1 (hS8.same tA0 rfl ht) Tt) my_X4_peek mv_X4_peek w316 dX4_readSum_20 tA0 (by decide) rfl rfl (Nat.le_of_ble_eq_true rfl) (by decide) (fun v20 p20 => ?_)
      replace hF := fx_E hF p20.2
      refine q_bipush (pc := 23) hG dX4_readSum_23 kb_43 ?_
      have J37 : (fx_eq Fv (kJ_X4_readSum_L2_37 (fx_N σ8) a0 x1.toInt p8_3.toInt (kL_X4_readSum_L2_8 a0 x1.toInt n8))) → q_O X 0 0 τ σ8 37 [(0, .ref a0), (1, .int x1), (3, .int p8_3)] [] := by
        intro hF
        unfold kJ_X4_readSum_L2_37 at hF
        refine q_aload_n (pc := 37) hG dX4_readSum_37 0 rfl ?_
        refine q_pV (pc := 38) [] [] hG (c_X4_peek τ σ8 a0 hS8.1 tA0 at1 (hS8.same tA0 rfl ht) Tt) my_X4_peek mv_X4_peek w316 dX4_readSum_38 tA0 (by decide) rfl rfl (Nat.le_of_ble_eq_true rfl) (by decide) (fun v38 p38 => ?_)
        replace hF := fx_E hF p38.2
        refine q_istore (pc := 41) [(4, .int v38), (0, .ref a0), (1, .int x1), (3, .int p8_3)] hG dX4_readSum_41 (by decide) rfl ?_
        refine q_aload_n (pc := 43) hG dX4_readSum_43 1 rfl ?_
        refine q_dup (pc := 44) hG dX4_readSum_44 rfl ?_
        refine q_getI (pc := 45) hG fl_X4_22 dX4_readSum_45 hS8.1 tA0 ff_4_2 (fun v45 f45 g45 => ?_)
        replace hF := fx_I hF f45 rfl
        refine q_iconst (pc := 48) hG dX4_readSum_48 ki_1 ?_
        refine q_iadd (pc := 49) hG dX4_readSum_49 (fun v49 e49 => ?_)
        replace hF := fx_B_add hF rfl tl_1 e49
        refine q_putI (pc := 50) hG fl_X4_22 dX4_readSum_50 hS8 tA0 ff_4_2 (q_r_any v49) (by decide) rfl (fun s50 u50 w50 => ?_)
        replace hF := fx_P hF u50 rfl rfl
        have m50 : s50 a0 2 = .int v49 := by rw [u50]; exact q_up_same
        refine q_aload_n (pc := 53) hG dX4_readSum_53 1 rfl ?_
        refine q_iload_n (pc := 54) hG dX4_readSum_54 2 rfl ?_
        refine q_cVi (pc := 55) [.int x1] [] hG (c_X4_readTerm_L2 τ s50 a0 x1 w50.1 tA0 rA1 at1 (w50.same tA0 rfl ht) Tt) my_X4_readTerm mv_X4_readTerm w329 dX4_readSum_55 tA0 (by decide) rfl rfl (Nat.le_of_ble_eq_true rfl) (by decide) (fun v55 s55 p55 => ?_)
        have w55 := w50.trans p55.1 rfl
        replace hF := fx_C hF p55.2.2
        refine q_istore_n (pc := 58) [(2, .int v55), (4, .int v38), (0, .ref a0), (1, .int x1), (3, .int p8_3)] hG dX4_readSum_58 (by decide) rfl ?_
        refine q_aload_n (pc := 59) hG dX4_readSum_59 2 rfl ?_
        refine q_getR (pc := 60) (k2 := 3) (n2 := 1) hG fl_X4_31 dX4_readSum_60 w55.1 tA0 ff_4_4 (fun b60 f60 T60 => ?_)
        replace hF := fx_R hF f60 rfl
        have f_2 := (w55.2 _ _ _ _ tA0 rfl).symm.trans f60
        refine q_iload (pc := 63) hG dX4_readSum_63 1 rfl ?_
        refine q_iconst (pc := 65) hG dX4_readSum_65 ki_0 ?_
        refine q_cVi (pc := 66) [.int v38, .int 0] [] hG (c_X3_add τ s55 b60 v38 0 w55.1 T60) my_X3_add mv_X3_add w344 dX4_readSum_66 T60 (by decide) rfl rfl (Nat.le_of_ble_eq_true rfl) (by decide) (fun v66 s66 p66 => ?_)
        have w66 := w55.trans p66.1 rfl
        have fq66 := p66.2.2
        rewrite [tl_0] at fq66
        replace hF := fx_C hF fq66
        refine q_pop (pc := 69) hG dX4_readSum_69 rfl ?_
        obtain ⟨v70, e70⟩ : ∃ z : Int32, z = p8_3 + Int32.ofInt 1 := ⟨_, rfl⟩
        have r_3 := q_rlt r8_3 rl_240 c12 239 (by decide)
        have h70 := q_incN (lo := 1) (hi := 240) r_3 (by decide) (by decide) e70
        replace hF := fx_add hF rfl rfl h70.1
        refine q_iinc (pc := 70) [(3, .int v70), (2, .int v55), (4, .int v38), (0, .ref a0), (1, .int x1)] hG dX4_readSum_70 4 rfl e70 (by decide) rfl ?_
        refine q_goto (pc := 73) 8 hG dX4_readSum_73 rfl ?_
        refine q_lv [3, 4, 1, 0] rfl ?_
        exact ih8 v55 v70 s66 p55.2.1 (q_r.mono h70.2 (by decide)) w66 hF (q_measU hm8 (by have o0 := c12; have o1 := h70.1; have o2 := r_3; have o3 := h70.2; have l4 := tl_240; unfold q_r at o2 o3; omega) (h70.2).2)
      refine q_icmp_eq (pc := 25) hG 37 dX4_readSum_25 rfl ?_ ?_
      · intro c25
        replace hF := fx_eq1 hF rfl tl_43 c25
        refine q_lv [0, 1, 3] rfl ?_
        exact J37 hF
      intro c25
      replace hF := fx_eq2 hF rfl tl_43 c25
      refine q_aload_n (pc := 28) hG dX4_readSum_28 0 rfl ?_
      refine q_pV (pc := 29) [] [] hG (c_X4_peek τ σ8 a0 hS8.1 tA0 at1 (hS8.same tA0 rfl ht) Tt) my_X4_peek mv_X4_peek w316 dX4_readSum_29 tA0 (by decide) rfl rfl (Nat.le_of_ble_eq_true rfl) (by decide) (fun v29 p29 => ?_)
      replace hF := fx_E hF p29.2
      refine q_bipush (pc := 32) hG dX4_readSum_32 kb_45 ?_
      refine q_icmp_ne (pc := 34) hG 76 dX4_readSum_34 rfl ?_ ?_
      · intro c34
        replace hF := fx_eq2 hF rfl tl_45 c34
        refine q_iload_n (pc := 76) hG dX4_readSum_76 2 rfl ?_
        have r_4 := q_neL (c := 1) r8_2 c16 (by decide)
        exact q_zrt hG hE dX4_readSum_77 (q_r.mono r_4 (by decide)) ⟨hS8, (q_r.mono r_4 (by decide)), (fx_end hF hF0)⟩
      intro c34
      replace hF := fx_eq1 hF rfl tl_45 c34
      refine q_lv [0, 1, 3] rfl ?_
      exact J37 hF
  refine q_lv [2, 3, 1, 0] rfl ?_
  exact J8 ((240 - (0 : Int32).toInt).toNat + 1) v2 0 s2 p2.2.1 (q_r.mono rl_0 (by decide)) w2 (by rw [tl_0]; exact hF) (Nat.lt_succ_self _)
def md_X4_readFactor_L1 : List (Nat × Nat) := [(3, 1), (3, 2), (4, 2), (4, 3), (112, 0), (113, 0)]
set_option maxRecDepth 100000 in
set_option maxHeartbeats 4000000 in
theorem c_X4_readFactor_L1 {l : Launch} {D : q_D} (τ : q_T) (σ : q_V) (a0 : Nat) (x1 : Int32) (hI : q_I τ σ) (tA0 : τ a0 = some (4, 1)) (rA1 : q_r x1 1 1) (at1 : Nat) (ht : σ a0 0 = .ref at1) (Tt : τ at1 = some (110, 260)) : q_Ci l D yX4_readFactor cX4_readFactor 3 (some .boolean) 17 394 τ σ [.ref a0, .int x1] (fun r σ1 => q_S md_X4_readFactor_L1 τ σ σ1 ∧ (q_r r 0 1) ∧ ((r.toInt, fx_N σ1) = f_X4_readFactor_L1 (fx_N σ) a0 x1.toInt)) := by
  refine q_meti rfl (Nat.le_of_ble_eq_true rfl) (fun X hG hE => ?_)
  show q_O X 0 0 τ σ 0 [(0, .ref a0), (1, .int x1)] []
  have hS0 : q_S md_X4_readFactor_L1 τ σ σ := q_S.rf hI
  obtain ⟨Fv, hF⟩ : ∃ z, fx_eq z (f_X4_readFactor_L1 (fx_N σ) a0 x1.toInt) := ⟨_, fx_rf⟩
  have hF0 := hF
  unfold f_X4_readFactor_L1 at hF
  replace hF := fx_R hF ht rfl
  refine q_aload_n (pc := 0) hG dX4_readFactor_0 0 rfl ?_
  refine q_pV (pc := 1) [] [] hG (c_X4_peek τ σ a0 hI tA0 at1 ht Tt) my_X4_peek mv_X4_peek w316 dX4_readFactor_1 tA0 (by decide) rfl rfl (Nat.le_of_ble_eq_true rfl) (by decide) (fun v1 p1 => ?_)
  replace hF := fx_E hF p1.2
  refine q_istore_n (pc := 4) [(2, .int v1), (0, .ref a0), (1, .int x1)] hG dX4_readFactor_4 (by decide) rfl ?_
  refine q_iload_n (pc := 5) hG dX4_readFactor_5 0 rfl ?_
  refine q_bipush (pc := 6) hG dX4_readFactor_6 kb_91 ?_
  refine q_icmp_ne (pc := 8) hG 44 dX4_readFactor_8 rfl ?_ ?_
  · intro c8
    replace hF := fx_eq2 hF rfl tl_91 c8
    refine q_iload_n (pc := 44) hG dX4_readFactor_44 0 rfl ?_
    refine q_bipush (pc := 45) hG dX4_readFactor_45 kb_48 ?_
    refine q_bipush (pc := 47) hG dX4_readFactor_47 kb_57 ?_
    refine q_pN (pc := 49) [.int v1, .int 48, .int 57] [] hG (c_X11_isIn τ σ v1 48 57 hI) my_X11_isIn w238 nw_12 dX4_readFactor_49 rfl rfl (Nat.le_of_ble_eq_true rfl) (by decide) (fun v49 p49 => ?_)
    have fq49 := p49.2.1
    rewrite [tl_48, tl_57] at fq49
    replace hF := fx_E hF fq49
    refine q_if_eq (pc := 52) hG 60 dX4_readFactor_52 rfl ?_ ?_
    · intro c52
      replace hF := fx_eq1 hF rfl rfl c52
      refine q_iload_n (pc := 60) hG dX4_readFactor_60 0 rfl ?_
      refine q_pS (pc := 61) [.int v1] [] hG (c_X4_isValueLetter τ σ v1 hI) my_X4_isValueLetter w349 w348 dX4_readFactor_61 rfl rfl (Nat.le_of_ble_eq_true rfl) (by decide) (fun v61 p61 => ?_)
      replace hF := fx_E hF p61.2
      refine q_if_ne (pc := 64) hG 73 dX4_readFactor_64 rfl ?_ ?_
      · intro c64
        replace hF := fx_eq2 hF rfl rfl c64
        refine q_aload_n (pc := 73) hG dX4_readFactor_73 1 rfl ?_
        refine q_dup (pc := 74) hG dX4_readFactor_74 rfl ?_
        refine q_getI (pc := 75) hG fl_X4_22 dX4_readFactor_75 hI tA0 ff_4_2 (fun v75 f75 g75 => ?_)
        replace hF := fx_I hF f75 rfl
        refine q_iconst (pc := 78) hG dX4_readFactor_78 ki_1 ?_
        refine q_iadd (pc := 79) hG dX4_readFactor_79 (fun v79 e79 => ?_)
        replace hF := fx_B_add hF rfl tl_1 e79
        refine q_putI (pc := 80) hG fl_X4_22 dX4_readFactor_80 hS0 tA0 ff_4_2 (q_r_any v79) (by decide) rfl (fun s80 u80 w80 => ?_)
        replace hF := fx_P hF u80 rfl rfl
        have m80 : s80 a0 2 = .int v79 := by rw [u80]; exact q_up_same
        refine q_aload_n (pc := 83) hG dX4_readFactor_83 1 rfl ?_
        refine q_getR (pc := 84) (k2 := 3) (n2 := 1) hG fl_X4_31 dX4_readFactor_84 w80.1 tA0 ff_4_4 (fun b84 f84 T84 => ?_)
        replace hF := fx_R hF f84 rfl
        have f_1 := (w80.2 _ _ _ _ tA0 rfl).symm.trans f84
        refine q_bipush (pc := 87) hG dX4_readFactor_87 kb_105 ?_
        refine q_iload_n (pc := 89) hG dX4_readFactor_89 0 rfl ?_
        refine q_cVi (pc := 90) [.int 105, .int v1] [] hG (c_X3_add τ s80 b84 105 v1 w80.1 T84) my_X3_add mv_X3_add w344 dX4_readFactor_90 T84 (by decide) rfl rfl (Nat.le_of_ble_eq_true rfl) (by decide) (fun v90 s90 p90 => ?_)
        have w90 := w80.trans p90.1 rfl
        have fq90 := p90.2.2
        rewrite [tl_105] at fq90
        replace hF := fx_C hF fq90
        refine q_pop (pc := 93) hG dX4_readFactor_93 rfl ?_
        refine q_iconst (pc := 94) hG dX4_readFactor_94 ki_1 ?_
        exact q_zrt hG hE dX4_readFactor_95 (q_r.mono rl_1 (by decide)) ⟨w90, (q_r.mono rl_1 (by decide)), (by rw [tl_1]; exact fx_end hF hF0)⟩
      intro c64
      replace hF := fx_eq1 hF rfl rfl c64
      refine q_aload_n (pc := 67) hG dX4_readFactor_67 1 rfl ?_
      refine q_iconst (pc := 68) hG dX4_readFactor_68 ki_1 ?_
      refine q_cVi (pc := 69) [.int 1] [] hG (c_X4_fail τ σ a0 1 hI tA0) my_X4_fail mv_X4_fail w319 dX4_readFactor_69 tA0 (by decide) rfl rfl (Nat.le_of_ble_eq_true rfl) (by decide) (fun v69 s69 p69 => ?_)
      have w69 := hS0.trans p69.1 rfl
      have fq69 := p69.2.2
      rewrite [tl_1] at fq69
      replace hF := fx_C hF fq69
      exact q_zrt hG hE dX4_readFactor_72 (q_r.mono p69.2.1 (by decide)) ⟨w69, (q_r.mono p69.2.1 (by decide)), (fx_end hF hF0)⟩
    intro c52
    have g_2 := p49.2.2.mp (q_one p49.1 c52)
    have r_3 := q_rge p1.1 rl_48 g_2.1
    replace hF := fx_eq2 hF rfl rfl c52
    refine q_aload_n (pc := 55) hG dX4_readFactor_55 1 rfl ?_
    refine q_cVi (pc := 56) [] [] hG (c_X4_readNumber τ σ a0 hI tA0 at1 ht Tt) my_X4_readNumber mv_X4_readNumber w341 dX4_readFactor_56 tA0 (by decide) rfl rfl (Nat.le_of_ble_eq_true rfl) (by decide) (fun v56 s56 p56 => ?_)
    have w56 := hS0.trans p56.1 rfl
    replace hF := fx_C hF p56.2.2
    exact q_zrt hG hE dX4_readFactor_59 p56.2.1 ⟨w56, p56.2.1, (fx_end hF hF0)⟩
  intro c8
  replace hF := fx_eq1 hF rfl tl_91 c8
  refine q_aload_n (pc := 11) hG dX4_readFactor_11 1 rfl ?_
  refine q_iload_n (pc := 12) hG dX4_readFactor_12 2 rfl ?_
  refine q_cVi (pc := 13) [.int x1] [] hG (c_X4_mayOpen τ σ a0 x1 hI tA0) my_X4_mayOpen mv_X4_mayOpen w335 dX4_readFactor_13 tA0 (by decide) rfl rfl (Nat.le_of_ble_eq_true rfl) (by decide) (fun v13 s13 p13 => ?_)
  have w13 := hS0.trans p13.1 rfl
  replace hF := fx_C hF p13.2.2.1
  refine q_if_eq (pc := 16) hG 42 dX4_readFactor_16 rfl ?_ ?_
  · intro c16
    replace hF := fx_eq1 hF rfl rfl c16
    refine q_iconst (pc := 42) hG dX4_readFactor_42 ki_0 ?_
    exact q_zrt hG hE dX4_readFactor_43 (q_r.mono rl_0 (by decide)) ⟨w13, (q_r.mono rl_0 (by decide)), (by rw [tl_0]; exact fx_end hF hF0)⟩
  intro c16
  have g_4 := p13.2.2.2 (q_one p13.2.1 c16)
  replace hF := fx_eq2 hF rfl rfl c16
  refine q_aload_n (pc := 19) hG dX4_readFactor_19 1 rfl ?_
  refine q_iload_n (pc := 20) hG dX4_readFactor_20 2 rfl ?_
  refine q_iconst (pc := 21) hG dX4_readFactor_21 ki_1 ?_
  refine q_iadd (pc := 22) hG dX4_readFactor_22 (fun v22 e22 => ?_)
  replace hF := fx_add hF rfl tl_1 (q_addN (lo := 2) (hi := 2) e22 rA1 rl_1 (by decide)).1
  have r_5 := (q_addN (lo := 2) (hi := 2) e22 rA1 rl_1 (by decide)).2
  refine q_cVi (pc := 23) [.int v22] [] hG (c_X4_readSum_L2 τ s13 a0 v22 w13.1 tA0 r_5 at1 (w13.same tA0 rfl ht) Tt) my_X4_readSum mv_X4_readSum w326 dX4_readFactor_23 tA0 (by decide) rfl rfl (Nat.le_of_ble_eq_true rfl) (by decide) (fun v23 s23 p23 => ?_)
  have w23 := w13.trans p23.1 rfl
  replace hF := fx_C hF p23.2.2
  refine q_if_eq (pc := 26) hG 42 dX4_readFactor_26 rfl ?_ ?_
  · intro c26
    replace hF := fx_eq1 hF rfl rfl c26
    refine q_iconst (pc := 42) hG dX4_readFactor_42 ki_0 ?_
    exact q_zrt hG hE dX4_readFactor_43 (q_r.mono rl_0 (by decide)) ⟨w23, (q_r.mono rl_0 (by decide)), (by rw [tl_0]; exact fx_end hF hF0)⟩
  intro c26
  replace hF := fx_eq2 hF rfl rfl c26
  refine q_aload_n (pc := 29) hG dX4_readFactor_29 1 rfl ?_
  refine q_bipush (pc := 30) hG dX4_readFactor_30 kb_93 ?_
  refine q_cVi (pc := 32) [.int 93] [] hG (c_X4_expect τ s23 a0 93 w23.1 tA0 at1 (w23.same tA0 rfl ht) Tt) my_X4_expect mv_X4_expect w338 dX4_readFactor_32 tA0 (by decide) rfl rfl (Nat.le_of_ble_eq_true rfl) (by decide) (fun v32 s32 p32 => ?_)
  have w32 := w23.trans p32.1 rfl
  have fq32 := p32.2.2
  rewrite [tl_93] at fq32
  replace hF := fx_C hF fq32
  refine q_if_eq (pc := 35) hG 42 dX4_readFactor_35 rfl ?_ ?_
  · intro c35
    replace hF := fx_eq1 hF rfl rfl c35
    refine q_iconst (pc := 42) hG dX4_readFactor_42 ki_0 ?_
    exact q_zrt hG hE dX4_readFactor_43 (q_r.mono rl_0 (by decide)) ⟨w32, (q_r.mono rl_0 (by decide)), (by rw [tl_0]; exact fx_end hF hF0)⟩
  intro c35
  replace hF := fx_eq2 hF rfl rfl c35
  refine q_iconst (pc := 38) hG dX4_readFactor_38 ki_1 ?_
  refine q_goto (pc := 39) 43 hG dX4_readFactor_39 rfl ?_
  exact q_zrt hG hE dX4_readFactor_43 (q_r.mono rl_1 (by decide)) ⟨w32, (q_r.mono rl_1 (by decide)), (by rw [tl_1]; exact fx_end hF hF0)⟩
def md_X4_readTerm_L1 : List (Nat × Nat) := [(3, 1), (3, 2), (4, 2), (4, 3), (112, 0), (113, 0)]
set_option maxRecDepth 100000 in
set_option maxHeartbeats 4000000 in
theorem c_X4_readTerm_L1 {l : Launch} {D : q_D} (τ : q_T) (σ : q_V) (a0 : Nat) (x1 : Int32) (hI : q_I τ σ) (tA0 : τ a0 = some (4, 1)) (rA1 : q_r x1 1 1) (at1 : Nat) (ht : σ a0 0 = .ref at1) (Tt : τ at1 = some (110, 260)) : q_Ci l D yX4_readTerm cX4_readTerm 5 (some .boolean) 18 416 τ σ [.ref a0, .int x1] (fun r σ1 => q_S md_X4_readTerm_L1 τ σ σ1 ∧ (q_r r 0 1) ∧ ((r.toInt, fx_N σ1) = f_X4_readTerm_L1 (fx_N σ) a0 x1.toInt)) := by
  refine q_meti rfl (Nat.le_of_ble_eq_true rfl) (fun X hG hE => ?_)
  show q_O X 0 0 τ σ 0 [(0, .ref a0), (1, .int x1)] []
  have hS0 : q_S md_X4_readTerm_L1 τ σ σ := q_S.rf hI
  obtain ⟨Fv, hF⟩ : ∃ z, fx_eq z (f_X4_readTerm_L1 (fx_N σ) a0 x1.toInt) := ⟨_, fx_rf⟩
  have hF0 := hF
  unfold f_X4_readTerm_L1 at hF
  replace hF := fx_R hF ht rfl
  refine q_aload_n (pc := 0) hG dX4_readTerm_0 0 rfl ?_
  refine q_iload_n (pc := 1) hG dX4_readTerm_1 1 rfl ?_
  refine q_cVi (pc := 2) [.int x1] [] hG (c_X4_readFactor_L1 τ σ a0 x1 hI tA0 rA1 at1 ht Tt) my_X4_readFactor mv_X4_readFactor w332 dX4_readTerm_2 tA0 (by decide) rfl rfl (Nat.le_of_ble_eq_true rfl) (by decide) (fun v2 s2 p2 => ?_)
  have w2 := hS0.trans p2.1 rfl
  replace hF := fx_C hF p2.2.2
  refine q_istore_n (pc := 5) [(2, .int v2), (0, .ref a0), (1, .int x1)] hG dX4_readTerm_5 (by decide) rfl ?_
  refine q_iconst (pc := 6) hG dX4_readTerm_6 ki_0 ?_
  refine q_istore_n (pc := 7) [(3, .int 0), (2, .int v2), (0, .ref a0), (1, .int x1)] hG dX4_readTerm_7 (by decide) rfl ?_
  have J8 : ∀ (n8 : Nat) (p8_2 : Int32) (p8_3 : Int32) (σ8 : q_V), (q_r p8_2 0 1) → (q_r p8_3 0 240) → (q_S md_X4_readTerm_L1 τ σ σ8) → (fx_eq Fv (kL_X4_readTerm_L1_8 a0 x1.toInt n8 p8_2.toInt p8_3.toInt (fx_N σ8))) → ((240 - p8_3.toInt).toNat < n8) → q_O X 0 0 τ σ8 8 [(0, .ref a0), (1, .int x1), (2, .int p8_2), (3, .int p8_3)] [] := by
    intro n8
    induction n8 with
    | zero => intro p8_2 p8_3 σ8 r8_2 r8_3 hS8 hF hm8; exact absurd hm8 (Nat.not_lt_zero _)
    | succ n8 ih8 =>
      intro p8_2 p8_3 σ8 r8_2 r8_3 hS8 hF hm8
      replace hF := (show fx_eq Fv (kB_X4_readTerm_L1_8 (kL_X4_readTerm_L1_8 a0 x1.toInt n8) a0 x1.toInt p8_2.toInt p8_3.toInt (fx_N σ8)) from hF)
      unfold kB_X4_readTerm_L1_8 at hF
      refine q_iload_n (pc := 8) hG dX4_readTerm_8 3 rfl ?_
      refine q_sipush (pc := 9) hG dX4_readTerm_9 ks_240 ?_
      refine q_icmp_ge (pc := 12) hG 68 dX4_readTerm_12 rfl ?_ ?_
      · intro c12
        replace hF := fx_lt2 hF rfl tl_240 c12
        refine q_iload_n (pc := 68) hG dX4_readTerm_68 2 rfl ?_
        exact q_zrt hG hE dX4_readTerm_69 r8_2 ⟨hS8, r8_2, (fx_end hF hF0)⟩
      intro c12
      replace hF := fx_lt1 hF rfl tl_240 c12
      refine q_iload_n (pc := 15) hG dX4_readTerm_15 2 rfl ?_
      refine q_if_eq (pc := 16) hG 68 dX4_readTerm_16 rfl ?_ ?_
      · intro c16
        replace hF := fx_eq1 hF rfl rfl c16
        refine q_iload_n (pc := 68) hG dX4_readTerm_68 2 rfl ?_
        have r_1 := q_zeq c16
        exact q_zrt hG hE dX4_readTerm_69 (q_r.mono r_1 (by decide)) ⟨hS8, (q_r.mono r_1 (by decide)), (fx_end hF hF0)⟩
      intro c16
      replace hF := fx_eq2 hF rfl rfl c16
      refine q_aload_n (pc := 19) hG dX4_readTerm_19 0 rfl ?_
      refine q_pV (pc := 20) [] [] hG (c_X4_peek τ σ8 a0 hS8.1 tA0 at1 (hS8.same tA0 rfl ht) Tt) my_X4_peek mv_X4_peek w316 dX4_readTerm_20 tA0 (by decide) rfl rfl (Nat.le_of_ble_eq_true rfl) (by decide) (fun v20 p20 => ?_)
      replace hF := fx_E hF p20.2
      refine q_pS (pc := 23) [.int v20] [] hG (c_X4_isTimes τ σ8 v20 hS8.1) my_X4_isTimes w352 w351 dX4_readTerm_23 rfl rfl (Nat.le_of_ble_eq_true rfl) (by decide) (fun v23 p23 => ?_)
      replace hF := fx_E hF p23.2
      refine q_if_eq (pc := 26) hG 68 dX4_readTerm_26 rfl ?_ ?_
      · intro c26
        replace hF := fx_eq1 hF rfl rfl c26
        refine q_iload_n (pc := 68) hG dX4_readTerm_68 2 rfl ?_
        have r_2 := q_neL (c := 1) r8_2 c16 (by decide)
        exact q_zrt hG hE dX4_readTerm_69 (q_r.mono r_2 (by decide)) ⟨hS8, (q_r.mono r_2 (by decide)), (fx_end hF hF0)⟩
      intro c26
      replace hF := fx_eq2 hF rfl rfl c26
      refine q_aload_n (pc := 29) hG dX4_readTerm_29 0 rfl ?_
      refine q_pV (pc := 30) [] [] hG (c_X4_peek τ σ8 a0 hS8.1 tA0 at1 (hS8.same tA0 rfl ht) Tt) my_X4_peek mv_X4_peek w316 dX4_readTerm_30 tA0 (by decide) rfl rfl (Nat.le_of_ble_eq_true rfl) (by decide) (fun v30 p30 => ?_)
      replace hF := fx_E hF p30.2
      refine q_istore (pc := 33) [(4, .int v30), (0, .ref a0), (1, .int x1), (2, .int p8_2), (3, .int p8_3)] hG dX4_readTerm_33 (by decide) rfl ?_
      refine q_aload_n (pc := 35) hG dX4_readTerm_35 1 rfl ?_
      refine q_dup (pc := 36) hG dX4_readTerm_36 rfl ?_
      refine q_getI (pc := 37) hG fl_X4_22 dX4_readTerm_37 hS8.1 tA0 ff_4_2 (fun v37 f37 g37 => ?_)
      replace hF := fx_I hF f37 rfl
      refine q_iconst (pc := 40) hG dX4_readTerm_40 ki_1 ?_
      refine q_iadd (pc := 41) hG dX4_readTerm_41 (fun v41 e41 => ?_)
      replace hF := fx_B_add hF rfl tl_1 e41
      refine q_putI (pc := 42) hG fl_X4_22 dX4_readTerm_42 hS8 tA0 ff_4_2 (q_r_any v41) (by decide) rfl (fun s42 u42 w42 => ?_)
      replace hF := fx_P hF u42 rfl rfl
      have m42 : s42 a0 2 = .int v41 := by rw [u42]; exact q_up_same
      refine q_aload_n (pc := 45) hG dX4_readTerm_45 1 rfl ?_
      refine q_iload_n (pc := 46) hG dX4_readTerm_46 2 rfl ?_
      refine q_cVi (pc := 47) [.int x1] [] hG (c_X4_readFactor_L1 τ s42 a0 x1 w42.1 tA0 rA1 at1 (w42.same tA0 rfl ht) Tt) my_X4_readFactor mv_X4_readFactor w332 dX4_readTerm_47 tA0 (by decide) rfl rfl (Nat.le_of_ble_eq_true rfl) (by decide) (fun v47 s47 p47 => ?_)
      have w47 := w42.trans p47.1 rfl
      replace hF := fx_C hF p47.2.2
      refine q_istore_n (pc := 50) [(2, .int v47), (4, .int v30), (0, .ref a0), (1, .int x1), (3, .int p8_3)] hG dX4_readTerm_50 (by decide) rfl ?_
      refine q_aload_n (pc := 51) hG dX4_readTerm_51 2 rfl ?_
      refine q_getR (pc := 52) (k2 := 3) (n2 := 1) hG fl_X4_31 dX4_readTerm_52 w47.1 tA0 ff_4_4 (fun b52 f52 T52 => ?_)
      replace hF := fx_R hF f52 rfl
      have f_3 := (w47.2 _ _ _ _ tA0 rfl).symm.trans f52
      refine q_iload (pc := 55) hG dX4_readTerm_55 1 rfl ?_
      refine q_iconst (pc := 57) hG dX4_readTerm_57 ki_0 ?_
      refine q_cVi (pc := 58) [.int v30, .int 0] [] hG (c_X3_add τ s47 b52 v30 0 w47.1 T52) my_X3_add mv_X3_add w344 dX4_readTerm_58 T52 (by decide) rfl rfl (Nat.le_of_ble_eq_true rfl) (by decide) (fun v58 s58 p58 => ?_)
      have w58 := w47.trans p58.1 rfl
      have fq58 := p58.2.2
      rewrite [tl_0] at fq58
      replace hF := fx_C hF fq58
      refine q_pop (pc := 61) hG dX4_readTerm_61 rfl ?_
      obtain ⟨v62, e62⟩ : ∃ z : Int32, z = p8_3 + Int32.ofInt 1 := ⟨_, rfl⟩
      have r_4 := q_rlt r8_3 rl_240 c12 239 (by decide)
      have h62 := q_incN (lo := 1) (hi := 240) r_4 (by decide) (by decide) e62
      replace hF := fx_add hF rfl rfl h62.1
      refine q_iinc (pc := 62) [(3, .int v62), (2, .int v47), (4, .int v30), (0, .ref a0), (1, .int x1)] hG dX4_readTerm_62 4 rfl e62 (by decide) rfl ?_
      refine q_goto (pc := 65) 8 hG dX4_readTerm_65 rfl ?_
      refine q_lv [3, 4, 1, 0] rfl ?_
      exact ih8 v47 v62 s58 p47.2.1 (q_r.mono h62.2 (by decide)) w58 hF (q_measU hm8 (by have o0 := c12; have o1 := h62.1; have o2 := r_4; have o3 := h62.2; have l4 := tl_240; unfold q_r at o2 o3; omega) (h62.2).2)
  refine q_lv [2, 3, 1, 0] rfl ?_
  exact J8 ((240 - (0 : Int32).toInt).toNat + 1) v2 0 s2 p2.2.1 (q_r.mono rl_0 (by decide)) w2 (by rw [tl_0]; exact hF) (Nat.lt_succ_self _)
def md_X4_readSum_L1 : List (Nat × Nat) := [(3, 1), (3, 2), (4, 2), (4, 3), (112, 0), (113, 0)]
set_option maxRecDepth 100000 in
set_option maxHeartbeats 4000000 in
theorem c_X4_readSum_L1 {l : Launch} {D : q_D} (τ : q_T) (σ : q_V) (a0 : Nat) (x1 : Int32) (hI : q_I τ σ) (tA0 : τ a0 = some (4, 1)) (rA1 : q_r x1 1 1) (at1 : Nat) (ht : σ a0 0 = .ref at1) (Tt : τ at1 = some (110, 260)) : q_Ci l D yX4_readSum cX4_readSum 5 (some .boolean) 19 440 τ σ [.ref a0, .int x1] (fun r σ1 => q_S md_X4_readSum_L1 τ σ σ1 ∧ (q_r r 0 1) ∧ ((r.toInt, fx_N σ1) = f_X4_readSum_L1 (fx_N σ) a0 x1.toInt)) := by
  refine q_meti rfl (Nat.le_of_ble_eq_true rfl) (fun X hG hE => ?_)
  show q_O X 0 0 τ σ 0 [(0, .ref a0), (1, .int x1)] []
  have hS0 : q_S md_X4_readSum_L1 τ σ σ := q_S.rf hI
  obtain ⟨Fv, hF⟩ : ∃ z, fx_eq z (f_X4_readSum_L1 (fx_N σ) a0 x1.toInt) := ⟨_, fx_rf⟩
  have hF0 := hF
  unfold f_X4_readSum_L1 at hF
  replace hF := fx_R hF ht rfl
  refine q_aload_n (pc := 0) hG dX4_readSum_0 0 rfl ?_
  refine q_iload_n (pc := 1) hG dX4_readSum_1 1 rfl ?_
  refine q_cVi (pc := 2) [.int x1] [] hG (c_X4_readTerm_L1 τ σ a0 x1 hI tA0 rA1 at1 ht Tt) my_X4_readTerm mv_X4_readTerm w329 dX4_readSum_2 tA0 (by decide) rfl rfl (Nat.le_of_ble_eq_true rfl) (by decide) (fun v2 s2 p2 => ?_)
  have w2 := hS0.trans p2.1 rfl
  replace hF := fx_C hF p2.2.2
  refine q_istore_n (pc := 5) [(2, .int v2), (0, .ref a0), (1, .int x1)] hG dX4_readSum_5 (by decide) rfl ?_
  refine q_iconst (pc := 6) hG dX4_readSum_6 ki_0 ?_
  refine q_istore_n (pc := 7) [(3, .int 0), (2, .int v2), (0, .ref a0), (1, .int x1)] hG dX4_readSum_7 (by decide) rfl ?_
  have J8 : ∀ (n8 : Nat) (p8_2 : Int32) (p8_3 : Int32) (σ8 : q_V), (q_r p8_2 0 1) → (q_r p8_3 0 240) → (q_S md_X4_readSum_L1 τ σ σ8) → (fx_eq Fv (kL_X4_readSum_L1_8 a0 x1.toInt n8 p8_2.toInt p8_3.toInt (fx_N σ8))) → ((240 - p8_3.toInt).toNat < n8) → q_O X 0 0 τ σ8 8 [(0, .ref a0), (1, .int x1), (2, .int p8_2), (3, .int p8_3)] [] := by
    intro n8
    induction n8 with
    | zero => intro p8_2 p8_3 σ8 r8_2 r8_3 hS8 hF hm8; exact absurd hm8 (Nat.not_lt_zero _)
    | succ n8 ih8 =>
      intro p8_2 p8_3 σ8 r8_2 r8_3 hS8 hF hm8
      replace hF := (show fx_eq Fv (kB_X4_readSum_L1_8 (kL_X4_readSum_L1_8 a0 x1.toInt n8) a0 x1.toInt p8_2.toInt p8_3.toInt (fx_N σ8)) from hF)
      unfold kB_X4_readSum_L1_8 at hF
      refine q_iload_n (pc := 8) hG dX4_readSum_8 3 rfl ?_
      refine q_sipush (pc := 9) hG dX4_readSum_9 ks_240 ?_
      refine q_icmp_ge (pc := 12) hG 76 dX4_readSum_12 rfl ?_ ?_
      · intro c12
        replace hF := fx_lt2 hF rfl tl_240 c12
        refine q_iload_n (pc := 76) hG dX4_readSum_76 2 rfl ?_
        exact q_zrt hG hE dX4_readSum_77 r8_2 ⟨hS8, r8_2, (fx_end hF hF0)⟩
      intro c12
      replace hF := fx_lt1 hF rfl tl_240 c12
      refine q_iload_n (pc := 15) hG dX4_readSum_15 2 rfl ?_
      refine q_if_eq (pc := 16) hG 76 dX4_readSum_16 rfl ?_ ?_
      · intro c16
        replace hF := fx_eq1 hF rfl rfl c16
        refine q_iload_n (pc := 76) hG dX4_readSum_76 2 rfl ?_
        have r_1 := q_zeq c16
        exact q_zrt hG hE dX4_readSum_77 (q_r.mono r_1 (by decide)) ⟨hS8, (q_r.mono r_1 (by decide)), (fx_end hF hF0)⟩
      intro c16
      replace hF := fx_eq2 hF rfl rfl c16
      refine q_aload_n (pc := 19) hG dX4_readSum_19 0 rfl ?_
      refine q_pV (pc := 20) [] [] hG (c_X4_peek τ σ8 a0 hS8.1 tA0 at1 (hS8.same tA0 rfl ht) Tt) my_X4_peek mv_X4_peek w316 dX4_readSum_20 tA0 (by decide) rfl rfl (Nat.le_of_ble_eq_true rfl) (by decide) (fun v20 p20 => ?_)
      replace hF := fx_E hF p20.2
      refine q_bipush (pc := 23) hG dX4_readSum_23 kb_43 ?_
      have J37 : (fx_eq Fv (kJ_X4_readSum_L1_37 (fx_N σ8) a0 x1.toInt p8_3.toInt (kL_X4_readSum_L1_8 a0 x1.toInt n8))) → q_O X 0 0 τ σ8 37 [(0, .ref a0), (1, .int x1), (3, .int p8_3)] [] := by
        intro hF
        unfold kJ_X4_readSum_L1_37 at hF
        refine q_aload_n (pc := 37) hG dX4_readSum_37 0 rfl ?_
        refine q_pV (pc := 38) [] [] hG (c_X4_peek τ σ8 a0 hS8.1 tA0 at1 (hS8.same tA0 rfl ht) Tt) my_X4_peek mv_X4_peek w316 dX4_readSum_38 tA0 (by decide) rfl rfl (Nat.le_of_ble_eq_true rfl) (by decide) (fun v38 p38 => ?_)
        replace hF := fx_E hF p38.2
        refine q_istore (pc := 41) [(4, .int v38), (0, .ref a0), (1, .int x1), (3, .int p8_3)] hG dX4_readSum_41 (by decide) rfl ?_
        refine q_aload_n (pc := 43) hG dX4_readSum_43 1 rfl ?_
        refine q_dup (pc := 44) hG dX4_readSum_44 rfl ?_
        refine q_getI (pc := 45) hG fl_X4_22 dX4_readSum_45 hS8.1 tA0 ff_4_2 (fun v45 f45 g45 => ?_)
        replace hF := fx_I hF f45 rfl
        refine q_iconst (pc := 48) hG dX4_readSum_48 ki_1 ?_
        refine q_iadd (pc := 49) hG dX4_readSum_49 (fun v49 e49 => ?_)
        replace hF := fx_B_add hF rfl tl_1 e49
        refine q_putI (pc := 50) hG fl_X4_22 dX4_readSum_50 hS8 tA0 ff_4_2 (q_r_any v49) (by decide) rfl (fun s50 u50 w50 => ?_)
        replace hF := fx_P hF u50 rfl rfl
        have m50 : s50 a0 2 = .int v49 := by rw [u50]; exact q_up_same
        refine q_aload_n (pc := 53) hG dX4_readSum_53 1 rfl ?_
        refine q_iload_n (pc := 54) hG dX4_readSum_54 2 rfl ?_
        refine q_cVi (pc := 55) [.int x1] [] hG (c_X4_readTerm_L1 τ s50 a0 x1 w50.1 tA0 rA1 at1 (w50.same tA0 rfl ht) Tt) my_X4_readTerm mv_X4_readTerm w329 dX4_readSum_55 tA0 (by decide) rfl rfl (Nat.le_of_ble_eq_true rfl) (by decide) (fun v55 s55 p55 => ?_)
        have w55 := w50.trans p55.1 rfl
        replace hF := fx_C hF p55.2.2
        refine q_istore_n (pc := 58) [(2, .int v55), (4, .int v38), (0, .ref a0), (1, .int x1), (3, .int p8_3)] hG dX4_readSum_58 (by decide) rfl ?_
        refine q_aload_n (pc := 59) hG dX4_readSum_59 2 rfl ?_
        refine q_getR (pc := 60) (k2 := 3) (n2 := 1) hG fl_X4_31 dX4_readSum_60 w55.1 tA0 ff_4_4 (fun b60 f60 T60 => ?_)
        replace hF := fx_R hF f60 rfl
        have f_2 := (w55.2 _ _ _ _ tA0 rfl).symm.trans f60
        refine q_iload (pc := 63) hG dX4_readSum_63 1 rfl ?_
        refine q_iconst (pc := 65) hG dX4_readSum_65 ki_0 ?_
        refine q_cVi (pc := 66) [.int v38, .int 0] [] hG (c_X3_add τ s55 b60 v38 0 w55.1 T60) my_X3_add mv_X3_add w344 dX4_readSum_66 T60 (by decide) rfl rfl (Nat.le_of_ble_eq_true rfl) (by decide) (fun v66 s66 p66 => ?_)
        have w66 := w55.trans p66.1 rfl
        have fq66 := p66.2.2
        rewrite [tl_0] at fq66
        replace hF := fx_C hF fq66
        refine q_pop (pc := 69) hG dX4_readSum_69 rfl ?_
        obtain ⟨v70, e70⟩ : ∃ z : Int32, z = p8_3 + Int32.ofInt 1 := ⟨_, rfl⟩
        have r_3 := q_rlt r8_3 rl_240 c12 239 (by decide)
        have h70 := q_incN (lo := 1) (hi := 240) r_3 (by decide) (by decide) e70
        replace hF := fx_add hF rfl rfl h70.1
        refine q_iinc (pc := 70) [(3, .int v70), (2, .int v55), (4, .int v38), (0, .ref a0), (1, .int x1)] hG dX4_readSum_70 4 rfl e70 (by decide) rfl ?_
        refine q_goto (pc := 73) 8 hG dX4_readSum_73 rfl ?_
        refine q_lv [3, 4, 1, 0] rfl ?_
        exact ih8 v55 v70 s66 p55.2.1 (q_r.mono h70.2 (by decide)) w66 hF (q_measU hm8 (by have o0 := c12; have o1 := h70.1; have o2 := r_3; have o3 := h70.2; have l4 := tl_240; unfold q_r at o2 o3; omega) (h70.2).2)
      refine q_icmp_eq (pc := 25) hG 37 dX4_readSum_25 rfl ?_ ?_
      · intro c25
        replace hF := fx_eq1 hF rfl tl_43 c25
        refine q_lv [0, 1, 3] rfl ?_
        exact J37 hF
      intro c25
      replace hF := fx_eq2 hF rfl tl_43 c25
      refine q_aload_n (pc := 28) hG dX4_readSum_28 0 rfl ?_
      refine q_pV (pc := 29) [] [] hG (c_X4_peek τ σ8 a0 hS8.1 tA0 at1 (hS8.same tA0 rfl ht) Tt) my_X4_peek mv_X4_peek w316 dX4_readSum_29 tA0 (by decide) rfl rfl (Nat.le_of_ble_eq_true rfl) (by decide) (fun v29 p29 => ?_)
      replace hF := fx_E hF p29.2
      refine q_bipush (pc := 32) hG dX4_readSum_32 kb_45 ?_
      refine q_icmp_ne (pc := 34) hG 76 dX4_readSum_34 rfl ?_ ?_
      · intro c34
        replace hF := fx_eq2 hF rfl tl_45 c34
        refine q_iload_n (pc := 76) hG dX4_readSum_76 2 rfl ?_
        have r_4 := q_neL (c := 1) r8_2 c16 (by decide)
        exact q_zrt hG hE dX4_readSum_77 (q_r.mono r_4 (by decide)) ⟨hS8, (q_r.mono r_4 (by decide)), (fx_end hF hF0)⟩
      intro c34
      replace hF := fx_eq1 hF rfl tl_45 c34
      refine q_lv [0, 1, 3] rfl ?_
      exact J37 hF
  refine q_lv [2, 3, 1, 0] rfl ?_
  exact J8 ((240 - (0 : Int32).toInt).toNat + 1) v2 0 s2 p2.2.1 (q_r.mono rl_0 (by decide)) w2 (by rw [tl_0]; exact hF) (Nat.lt_succ_self _)
def md_X4_readFactor_L0 : List (Nat × Nat) := [(3, 1), (3, 2), (4, 2), (4, 3), (112, 0), (113, 0)]
set_option maxRecDepth 100000 in
set_option maxHeartbeats 4000000 in
theorem c_X4_readFactor_L0 {l : Launch} {D : q_D} (τ : q_T) (σ : q_V) (a0 : Nat) (x1 : Int32) (hI : q_I τ σ) (tA0 : τ a0 = some (4, 1)) (rA1 : q_r x1 0 0) (at1 : Nat) (ht : σ a0 0 = .ref at1) (Tt : τ at1 = some (110, 260)) : q_Ci l D yX4_readFactor cX4_readFactor 3 (some .boolean) 20 464 τ σ [.ref a0, .int x1] (fun r σ1 => q_S md_X4_readFactor_L0 τ σ σ1 ∧ (q_r r 0 1) ∧ ((r.toInt, fx_N σ1) = f_X4_readFactor_L0 (fx_N σ) a0 x1.toInt)) := by
  refine q_meti rfl (Nat.le_of_ble_eq_true rfl) (fun X hG hE => ?_)
  show q_O X 0 0 τ σ 0 [(0, .ref a0), (1, .int x1)] []
  have hS0 : q_S md_X4_readFactor_L0 τ σ σ := q_S.rf hI
  obtain ⟨Fv, hF⟩ : ∃ z, fx_eq z (f_X4_readFactor_L0 (fx_N σ) a0 x1.toInt) := ⟨_, fx_rf⟩
  have hF0 := hF
  unfold f_X4_readFactor_L0 at hF
  replace hF := fx_R hF ht rfl
  refine q_aload_n (pc := 0) hG dX4_readFactor_0 0 rfl ?_
  refine q_pV (pc := 1) [] [] hG (c_X4_peek τ σ a0 hI tA0 at1 ht Tt) my_X4_peek mv_X4_peek w316 dX4_readFactor_1 tA0 (by decide) rfl rfl (Nat.le_of_ble_eq_true rfl) (by decide) (fun v1 p1 => ?_)
  replace hF := fx_E hF p1.2
  refine q_istore_n (pc := 4) [(2, .int v1), (0, .ref a0), (1, .int x1)] hG dX4_readFactor_4 (by decide) rfl ?_
  refine q_iload_n (pc := 5) hG dX4_readFactor_5 0 rfl ?_
  refine q_bipush (pc := 6) hG dX4_readFactor_6 kb_91 ?_
  refine q_icmp_ne (pc := 8) hG 44 dX4_readFactor_8 rfl ?_ ?_
  · intro c8
    replace hF := fx_eq2 hF rfl tl_91 c8
    refine q_iload_n (pc := 44) hG dX4_readFactor_44 0 rfl ?_
    refine q_bipush (pc := 45) hG dX4_readFactor_45 kb_48 ?_
    refine q_bipush (pc := 47) hG dX4_readFactor_47 kb_57 ?_
    refine q_pN (pc := 49) [.int v1, .int 48, .int 57] [] hG (c_X11_isIn τ σ v1 48 57 hI) my_X11_isIn w238 nw_12 dX4_readFactor_49 rfl rfl (Nat.le_of_ble_eq_true rfl) (by decide) (fun v49 p49 => ?_)
    have fq49 := p49.2.1
    rewrite [tl_48, tl_57] at fq49
    replace hF := fx_E hF fq49
    refine q_if_eq (pc := 52) hG 60 dX4_readFactor_52 rfl ?_ ?_
    · intro c52
      replace hF := fx_eq1 hF rfl rfl c52
      refine q_iload_n (pc := 60) hG dX4_readFactor_60 0 rfl ?_
      refine q_pS (pc := 61) [.int v1] [] hG (c_X4_isValueLetter τ σ v1 hI) my_X4_isValueLetter w349 w348 dX4_readFactor_61 rfl rfl (Nat.le_of_ble_eq_true rfl) (by decide) (fun v61 p61 => ?_)
      replace hF := fx_E hF p61.2
      refine q_if_ne (pc := 64) hG 73 dX4_readFactor_64 rfl ?_ ?_
      · intro c64
        replace hF := fx_eq2 hF rfl rfl c64
        refine q_aload_n (pc := 73) hG dX4_readFactor_73 1 rfl ?_
        refine q_dup (pc := 74) hG dX4_readFactor_74 rfl ?_
        refine q_getI (pc := 75) hG fl_X4_22 dX4_readFactor_75 hI tA0 ff_4_2 (fun v75 f75 g75 => ?_)
        replace hF := fx_I hF f75 rfl
        refine q_iconst (pc := 78) hG dX4_readFactor_78 ki_1 ?_
        refine q_iadd (pc := 79) hG dX4_readFactor_79 (fun v79 e79 => ?_)
        replace hF := fx_B_add hF rfl tl_1 e79
        refine q_putI (pc := 80) hG fl_X4_22 dX4_readFactor_80 hS0 tA0 ff_4_2 (q_r_any v79) (by decide) rfl (fun s80 u80 w80 => ?_)
        replace hF := fx_P hF u80 rfl rfl
        have m80 : s80 a0 2 = .int v79 := by rw [u80]; exact q_up_same
        refine q_aload_n (pc := 83) hG dX4_readFactor_83 1 rfl ?_
        refine q_getR (pc := 84) (k2 := 3) (n2 := 1) hG fl_X4_31 dX4_readFactor_84 w80.1 tA0 ff_4_4 (fun b84 f84 T84 => ?_)
        replace hF := fx_R hF f84 rfl
        have f_1 := (w80.2 _ _ _ _ tA0 rfl).symm.trans f84
        refine q_bipush (pc := 87) hG dX4_readFactor_87 kb_105 ?_
        refine q_iload_n (pc := 89) hG dX4_readFactor_89 0 rfl ?_
        refine q_cVi (pc := 90) [.int 105, .int v1] [] hG (c_X3_add τ s80 b84 105 v1 w80.1 T84) my_X3_add mv_X3_add w344 dX4_readFactor_90 T84 (by decide) rfl rfl (Nat.le_of_ble_eq_true rfl) (by decide) (fun v90 s90 p90 => ?_)
        have w90 := w80.trans p90.1 rfl
        have fq90 := p90.2.2
        rewrite [tl_105] at fq90
        replace hF := fx_C hF fq90
        refine q_pop (pc := 93) hG dX4_readFactor_93 rfl ?_
        refine q_iconst (pc := 94) hG dX4_readFactor_94 ki_1 ?_
        exact q_zrt hG hE dX4_readFactor_95 (q_r.mono rl_1 (by decide)) ⟨w90, (q_r.mono rl_1 (by decide)), (by rw [tl_1]; exact fx_end hF hF0)⟩
      intro c64
      replace hF := fx_eq1 hF rfl rfl c64
      refine q_aload_n (pc := 67) hG dX4_readFactor_67 1 rfl ?_
      refine q_iconst (pc := 68) hG dX4_readFactor_68 ki_1 ?_
      refine q_cVi (pc := 69) [.int 1] [] hG (c_X4_fail τ σ a0 1 hI tA0) my_X4_fail mv_X4_fail w319 dX4_readFactor_69 tA0 (by decide) rfl rfl (Nat.le_of_ble_eq_true rfl) (by decide) (fun v69 s69 p69 => ?_)
      have w69 := hS0.trans p69.1 rfl
      have fq69 := p69.2.2
      rewrite [tl_1] at fq69
      replace hF := fx_C hF fq69
      exact q_zrt hG hE dX4_readFactor_72 (q_r.mono p69.2.1 (by decide)) ⟨w69, (q_r.mono p69.2.1 (by decide)), (fx_end hF hF0)⟩
    intro c52
    have g_2 := p49.2.2.mp (q_one p49.1 c52)
    have r_3 := q_rge p1.1 rl_48 g_2.1
    replace hF := fx_eq2 hF rfl rfl c52
    refine q_aload_n (pc := 55) hG dX4_readFactor_55 1 rfl ?_
    refine q_cVi (pc := 56) [] [] hG (c_X4_readNumber τ σ a0 hI tA0 at1 ht Tt) my_X4_readNumber mv_X4_readNumber w341 dX4_readFactor_56 tA0 (by decide) rfl rfl (Nat.le_of_ble_eq_true rfl) (by decide) (fun v56 s56 p56 => ?_)
    have w56 := hS0.trans p56.1 rfl
    replace hF := fx_C hF p56.2.2
    exact q_zrt hG hE dX4_readFactor_59 p56.2.1 ⟨w56, p56.2.1, (fx_end hF hF0)⟩
  intro c8
  replace hF := fx_eq1 hF rfl tl_91 c8
  refine q_aload_n (pc := 11) hG dX4_readFactor_11 1 rfl ?_
  refine q_iload_n (pc := 12) hG dX4_readFactor_12 2 rfl ?_
  refine q_cVi (pc := 13) [.int x1] [] hG (c_X4_mayOpen τ σ a0 x1 hI tA0) my_X4_mayOpen mv_X4_mayOpen w335 dX4_readFactor_13 tA0 (by decide) rfl rfl (Nat.le_of_ble_eq_true rfl) (by decide) (fun v13 s13 p13 => ?_)
  have w13 := hS0.trans p13.1 rfl
  replace hF := fx_C hF p13.2.2.1
  refine q_if_eq (pc := 16) hG 42 dX4_readFactor_16 rfl ?_ ?_
  · intro c16
    replace hF := fx_eq1 hF rfl rfl c16
    refine q_iconst (pc := 42) hG dX4_readFactor_42 ki_0 ?_
    exact q_zrt hG hE dX4_readFactor_43 (q_r.mono rl_0 (by decide)) ⟨w13, (q_r.mono rl_0 (by decide)), (by rw [tl_0]; exact fx_end hF hF0)⟩
  intro c16
  have g_4 := p13.2.2.2 (q_one p13.2.1 c16)
  replace hF := fx_eq2 hF rfl rfl c16
  refine q_aload_n (pc := 19) hG dX4_readFactor_19 1 rfl ?_
  refine q_iload_n (pc := 20) hG dX4_readFactor_20 2 rfl ?_
  refine q_iconst (pc := 21) hG dX4_readFactor_21 ki_1 ?_
  refine q_iadd (pc := 22) hG dX4_readFactor_22 (fun v22 e22 => ?_)
  replace hF := fx_add hF rfl tl_1 (q_addN (lo := 1) (hi := 1) e22 rA1 rl_1 (by decide)).1
  have r_5 := (q_addN (lo := 1) (hi := 1) e22 rA1 rl_1 (by decide)).2
  refine q_cVi (pc := 23) [.int v22] [] hG (c_X4_readSum_L1 τ s13 a0 v22 w13.1 tA0 r_5 at1 (w13.same tA0 rfl ht) Tt) my_X4_readSum mv_X4_readSum w326 dX4_readFactor_23 tA0 (by decide) rfl rfl (Nat.le_of_ble_eq_true rfl) (by decide) (fun v23 s23 p23 => ?_)
  have w23 := w13.trans p23.1 rfl
  replace hF := fx_C hF p23.2.2
  refine q_if_eq (pc := 26) hG 42 dX4_readFactor_26 rfl ?_ ?_
  · intro c26
    replace hF := fx_eq1 hF rfl rfl c26
    refine q_iconst (pc := 42) hG dX4_readFactor_42 ki_0 ?_
    exact q_zrt hG hE dX4_readFactor_43 (q_r.mono rl_0 (by decide)) ⟨w23, (q_r.mono rl_0 (by decide)), (by rw [tl_0]; exact fx_end hF hF0)⟩
  intro c26
  replace hF := fx_eq2 hF rfl rfl c26
  refine q_aload_n (pc := 29) hG dX4_readFactor_29 1 rfl ?_
  refine q_bipush (pc := 30) hG dX4_readFactor_30 kb_93 ?_
  refine q_cVi (pc := 32) [.int 93] [] hG (c_X4_expect τ s23 a0 93 w23.1 tA0 at1 (w23.same tA0 rfl ht) Tt) my_X4_expect mv_X4_expect w338 dX4_readFactor_32 tA0 (by decide) rfl rfl (Nat.le_of_ble_eq_true rfl) (by decide) (fun v32 s32 p32 => ?_)
  have w32 := w23.trans p32.1 rfl
  have fq32 := p32.2.2
  rewrite [tl_93] at fq32
  replace hF := fx_C hF fq32
  refine q_if_eq (pc := 35) hG 42 dX4_readFactor_35 rfl ?_ ?_
  · intro c35
    replace hF := fx_eq1 hF rfl rfl c35
    refine q_iconst (pc := 42) hG dX4_readFactor_42 ki_0 ?_
    exact q_zrt hG hE dX4_readFactor_43 (q_r.mono rl_0 (by decide)) ⟨w32, (q_r.mono rl_0 (by decide)), (by rw [tl_0]; exact fx_end hF hF0)⟩
  intro c35
  replace hF := fx_eq2 hF rfl rfl c35
  refine q_iconst (pc := 38) hG dX4_readFactor_38 ki_1 ?_
  refine q_goto (pc := 39) 43 hG dX4_readFactor_39 rfl ?_
  exact q_zrt hG hE dX4_readFactor_43 (q_r.mono rl_1 (by decide)) ⟨w32, (q_r.mono rl_1 (by decide)), (by rw [tl_1]; exact fx_end hF hF0)⟩
def md_X4_readTerm_L0 : List (Nat × Nat) := [(3, 1), (3, 2), (4, 2), (4, 3), (112, 0), (113, 0)]
set_option maxRecDepth 100000 in
set_option maxHeartbeats 4000000 in
theorem c_X4_readTerm_L0 {l : Launch} {D : q_D} (τ : q_T) (σ : q_V) (a0 : Nat) (x1 : Int32) (hI : q_I τ σ) (tA0 : τ a0 = some (4, 1)) (rA1 : q_r x1 0 0) (at1 : Nat) (ht : σ a0 0 = .ref at1) (Tt : τ at1 = some (110, 260)) : q_Ci l D yX4_readTerm cX4_readTerm 5 (some .boolean) 21 486 τ σ [.ref a0, .int x1] (fun r σ1 => q_S md_X4_readTerm_L0 τ σ σ1 ∧ (q_r r 0 1) ∧ ((r.toInt, fx_N σ1) = f_X4_readTerm_L0 (fx_N σ) a0 x1.toInt)) := by
  refine q_meti rfl (Nat.le_of_ble_eq_true rfl) (fun X hG hE => ?_)
  show q_O X 0 0 τ σ 0 [(0, .ref a0), (1, .int x1)] []
  have hS0 : q_S md_X4_readTerm_L0 τ σ σ := q_S.rf hI
  obtain ⟨Fv, hF⟩ : ∃ z, fx_eq z (f_X4_readTerm_L0 (fx_N σ) a0 x1.toInt) := ⟨_, fx_rf⟩
  have hF0 := hF
  unfold f_X4_readTerm_L0 at hF
  replace hF := fx_R hF ht rfl
  refine q_aload_n (pc := 0) hG dX4_readTerm_0 0 rfl ?_
  refine q_iload_n (pc := 1) hG dX4_readTerm_1 1 rfl ?_
  refine q_cVi (pc := 2) [.int x1] [] hG (c_X4_readFactor_L0 τ σ a0 x1 hI tA0 rA1 at1 ht Tt) my_X4_readFactor mv_X4_readFactor w332 dX4_readTerm_2 tA0 (by decide) rfl rfl (Nat.le_of_ble_eq_true rfl) (by decide) (fun v2 s2 p2 => ?_)
  have w2 := hS0.trans p2.1 rfl
  replace hF := fx_C hF p2.2.2
  refine q_istore_n (pc := 5) [(2, .int v2), (0, .ref a0), (1, .int x1)] hG dX4_readTerm_5 (by decide) rfl ?_
  refine q_iconst (pc := 6) hG dX4_readTerm_6 ki_0 ?_
  refine q_istore_n (pc := 7) [(3, .int 0), (2, .int v2), (0, .ref a0), (1, .int x1)] hG dX4_readTerm_7 (by decide) rfl ?_
  have J8 : ∀ (n8 : Nat) (p8_2 : Int32) (p8_3 : Int32) (σ8 : q_V), (q_r p8_2 0 1) → (q_r p8_3 0 240) → (q_S md_X4_readTerm_L0 τ σ σ8) → (fx_eq Fv (kL_X4_readTerm_L0_8 a0 x1.toInt n8 p8_2.toInt p8_3.toInt (fx_N σ8))) → ((240 - p8_3.toInt).toNat < n8) → q_O X 0 0 τ σ8 8 [(0, .ref a0), (1, .int x1), (2, .int p8_2), (3, .int p8_3)] [] := by
    intro n8
    induction n8 with
    | zero => intro p8_2 p8_3 σ8 r8_2 r8_3 hS8 hF hm8; exact absurd hm8 (Nat.not_lt_zero _)
    | succ n8 ih8 =>
      intro p8_2 p8_3 σ8 r8_2 r8_3 hS8 hF hm8
      replace hF := (show fx_eq Fv (kB_X4_readTerm_L0_8 (kL_X4_readTerm_L0_8 a0 x1.toInt n8) a0 x1.toInt p8_2.toInt p8_3.toInt (fx_N σ8)) from hF)
      unfold kB_X4_readTerm_L0_8 at hF
      refine q_iload_n (pc := 8) hG dX4_readTerm_8 3 rfl ?_
      refine q_sipush (pc := 9) hG dX4_readTerm_9 ks_240 ?_
      refine q_icmp_ge (pc := 12) hG 68 dX4_readTerm_12 rfl ?_ ?_
      · intro c12
        replace hF := fx_lt2 hF rfl tl_240 c12
        refine q_iload_n (pc := 68) hG dX4_readTerm_68 2 rfl ?_
        exact q_zrt hG hE dX4_readTerm_69 r8_2 ⟨hS8, r8_2, (fx_end hF hF0)⟩
      intro c12
      replace hF := fx_lt1 hF rfl tl_240 c12
      refine q_iload_n (pc := 15) hG dX4_readTerm_15 2 rfl ?_
      refine q_if_eq (pc := 16) hG 68 dX4_readTerm_16 rfl ?_ ?_
      · intro c16
        replace hF := fx_eq1 hF rfl rfl c16
        refine q_iload_n (pc := 68) hG dX4_readTerm_68 2 rfl ?_
        have r_1 := q_zeq c16
        exact q_zrt hG hE dX4_readTerm_69 (q_r.mono r_1 (by decide)) ⟨hS8, (q_r.mono r_1 (by decide)), (fx_end hF hF0)⟩
      intro c16
      replace hF := fx_eq2 hF rfl rfl c16
      refine q_aload_n (pc := 19) hG dX4_readTerm_19 0 rfl ?_
      refine q_pV (pc := 20) [] [] hG (c_X4_peek τ σ8 a0 hS8.1 tA0 at1 (hS8.same tA0 rfl ht) Tt) my_X4_peek mv_X4_peek w316 dX4_readTerm_20 tA0 (by decide) rfl rfl (Nat.le_of_ble_eq_true rfl) (by decide) (fun v20 p20 => ?_)
      replace hF := fx_E hF p20.2
      refine q_pS (pc := 23) [.int v20] [] hG (c_X4_isTimes τ σ8 v20 hS8.1) my_X4_isTimes w352 w351 dX4_readTerm_23 rfl rfl (Nat.le_of_ble_eq_true rfl) (by decide) (fun v23 p23 => ?_)
      replace hF := fx_E hF p23.2
      refine q_if_eq (pc := 26) hG 68 dX4_readTerm_26 rfl ?_ ?_
      · intro c26
        replace hF := fx_eq1 hF rfl rfl c26
        refine q_iload_n (pc := 68) hG dX4_readTerm_68 2 rfl ?_
        have r_2 := q_neL (c := 1) r8_2 c16 (by decide)
        exact q_zrt hG hE dX4_readTerm_69 (q_r.mono r_2 (by decide)) ⟨hS8, (q_r.mono r_2 (by decide)), (fx_end hF hF0)⟩
      intro c26
      replace hF := fx_eq2 hF rfl rfl c26
      refine q_aload_n (pc := 29) hG dX4_readTerm_29 0 rfl ?_
      refine q_pV (pc := 30) [] [] hG (c_X4_peek τ σ8 a0 hS8.1 tA0 at1 (hS8.same tA0 rfl ht) Tt) my_X4_peek mv_X4_peek w316 dX4_readTerm_30 tA0 (by decide) rfl rfl (Nat.le_of_ble_eq_true rfl) (by decide) (fun v30 p30 => ?_)
      replace hF := fx_E hF p30.2
      refine q_istore (pc := 33) [(4, .int v30), (0, .ref a0), (1, .int x1), (2, .int p8_2), (3, .int p8_3)] hG dX4_readTerm_33 (by decide) rfl ?_
      refine q_aload_n (pc := 35) hG dX4_readTerm_35 1 rfl ?_
      refine q_dup (pc := 36) hG dX4_readTerm_36 rfl ?_
      refine q_getI (pc := 37) hG fl_X4_22 dX4_readTerm_37 hS8.1 tA0 ff_4_2 (fun v37 f37 g37 => ?_)
      replace hF := fx_I hF f37 rfl
      refine q_iconst (pc := 40) hG dX4_readTerm_40 ki_1 ?_
      refine q_iadd (pc := 41) hG dX4_readTerm_41 (fun v41 e41 => ?_)
      replace hF := fx_B_add hF rfl tl_1 e41
      refine q_putI (pc := 42) hG fl_X4_22 dX4_readTerm_42 hS8 tA0 ff_4_2 (q_r_any v41) (by decide) rfl (fun s42 u42 w42 => ?_)
      replace hF := fx_P hF u42 rfl rfl
      have m42 : s42 a0 2 = .int v41 := by rw [u42]; exact q_up_same
      refine q_aload_n (pc := 45) hG dX4_readTerm_45 1 rfl ?_
      refine q_iload_n (pc := 46) hG dX4_readTerm_46 2 rfl ?_
      refine q_cVi (pc := 47) [.int x1] [] hG (c_X4_readFactor_L0 τ s42 a0 x1 w42.1 tA0 rA1 at1 (w42.same tA0 rfl ht) Tt) my_X4_readFactor mv_X4_readFactor w332 dX4_readTerm_47 tA0 (by decide) rfl rfl (Nat.le_of_ble_eq_true rfl) (by decide) (fun v47 s47 p47 => ?_)
      have w47 := w42.trans p47.1 rfl
      replace hF := fx_C hF p47.2.2
      refine q_istore_n (pc := 50) [(2, .int v47), (4, .int v30), (0, .ref a0), (1, .int x1), (3, .int p8_3)] hG dX4_readTerm_50 (by decide) rfl ?_
      refine q_aload_n (pc := 51) hG dX4_readTerm_51 2 rfl ?_
      refine q_getR (pc := 52) (k2 := 3) (n2 := 1) hG fl_X4_31 dX4_readTerm_52 w47.1 tA0 ff_4_4 (fun b52 f52 T52 => ?_)
      replace hF := fx_R hF f52 rfl
      have f_3 := (w47.2 _ _ _ _ tA0 rfl).symm.trans f52
      refine q_iload (pc := 55) hG dX4_readTerm_55 1 rfl ?_
      refine q_iconst (pc := 57) hG dX4_readTerm_57 ki_0 ?_
      refine q_cVi (pc := 58) [.int v30, .int 0] [] hG (c_X3_add τ s47 b52 v30 0 w47.1 T52) my_X3_add mv_X3_add w344 dX4_readTerm_58 T52 (by decide) rfl rfl (Nat.le_of_ble_eq_true rfl) (by decide) (fun v58 s58 p58 => ?_)
      have w58 := w47.trans p58.1 rfl
      have fq58 := p58.2.2
      rewrite [tl_0] at fq58
      replace hF := fx_C hF fq58
      refine q_pop (pc := 61) hG dX4_readTerm_61 rfl ?_
      obtain ⟨v62, e62⟩ : ∃ z : Int32, z = p8_3 + Int32.ofInt 1 := ⟨_, rfl⟩
      have r_4 := q_rlt r8_3 rl_240 c12 239 (by decide)
      have h62 := q_incN (lo := 1) (hi := 240) r_4 (by decide) (by decide) e62
      replace hF := fx_add hF rfl rfl h62.1
      refine q_iinc (pc := 62) [(3, .int v62), (2, .int v47), (4, .int v30), (0, .ref a0), (1, .int x1)] hG dX4_readTerm_62 4 rfl e62 (by decide) rfl ?_
      refine q_goto (pc := 65) 8 hG dX4_readTerm_65 rfl ?_
      refine q_lv [3, 4, 1, 0] rfl ?_
      exact ih8 v47 v62 s58 p47.2.1 (q_r.mono h62.2 (by decide)) w58 hF (q_measU hm8 (by have o0 := c12; have o1 := h62.1; have o2 := r_4; have o3 := h62.2; have l4 := tl_240; unfold q_r at o2 o3; omega) (h62.2).2)
  refine q_lv [2, 3, 1, 0] rfl ?_
  exact J8 ((240 - (0 : Int32).toInt).toNat + 1) v2 0 s2 p2.2.1 (q_r.mono rl_0 (by decide)) w2 (by rw [tl_0]; exact hF) (Nat.lt_succ_self _)
def md_X4_readSum_L0 : List (Nat × Nat) := [(3, 1), (3, 2), (4, 2), (4, 3), (112, 0), (113, 0)]
set_option maxRecDepth 100000 in
set_option maxHeartbeats 4000000 in
theorem c_X4_readSum_L0 {l : Launch} {D : q_D} (τ : q_T) (σ : q_V) (a0 : Nat) (x1 : Int32) (hI : q_I τ σ) (tA0 : τ a0 = some (4, 1)) (rA1 : q_r x1 0 0) (at1 : Nat) (ht : σ a0 0 = .ref at1) (Tt : τ at1 = some (110, 260)) : q_Ci l D yX4_readSum cX4_readSum 5 (some .boolean) 22 510 τ σ [.ref a0, .int x1] (fun r σ1 => q_S md_X4_readSum_L0 τ σ σ1 ∧ (q_r r 0 1) ∧ ((r.toInt, fx_N σ1) = f_X4_readSum_L0 (fx_N σ) a0 x1.toInt)) := by
  refine q_meti rfl (Nat.le_of_ble_eq_true rfl) (fun X hG hE => ?_)
  show q_O X 0 0 τ σ 0 [(0, .ref a0), (1, .int x1)] []
  have hS0 : q_S md_X4_readSum_L0 τ σ σ := q_S.rf hI
  obtain ⟨Fv, hF⟩ : ∃ z, fx_eq z (f_X4_readSum_L0 (fx_N σ) a0 x1.toInt) := ⟨_, fx_rf⟩
  have hF0 := hF
  unfold f_X4_readSum_L0 at hF
  replace hF := fx_R hF ht rfl
  refine q_aload_n (pc := 0) hG dX4_readSum_0 0 rfl ?_
  refine q_iload_n (pc := 1) hG dX4_readSum_1 1 rfl ?_
  refine q_cVi (pc := 2) [.int x1] [] hG (c_X4_readTerm_L0 τ σ a0 x1 hI tA0 rA1 at1 ht Tt) my_X4_readTerm mv_X4_readTerm w329 dX4_readSum_2 tA0 (by decide) rfl rfl (Nat.le_of_ble_eq_true rfl) (by decide) (fun v2 s2 p2 => ?_)
  have w2 := hS0.trans p2.1 rfl
  replace hF := fx_C hF p2.2.2
  refine q_istore_n (pc := 5) [(2, .int v2), (0, .ref a0), (1, .int x1)] hG dX4_readSum_5 (by decide) rfl ?_
  refine q_iconst (pc := 6) hG dX4_readSum_6 ki_0 ?_
  refine q_istore_n (pc := 7) [(3, .int 0), (2, .int v2), (0, .ref a0), (1, .int x1)] hG dX4_readSum_7 (by decide) rfl ?_
  have J8 : ∀ (n8 : Nat) (p8_2 : Int32) (p8_3 : Int32) (σ8 : q_V), (q_r p8_2 0 1) → (q_r p8_3 0 240) → (q_S md_X4_readSum_L0 τ σ σ8) → (fx_eq Fv (kL_X4_readSum_L0_8 a0 x1.toInt n8 p8_2.toInt p8_3.toInt (fx_N σ8))) → ((240 - p8_3.toInt).toNat < n8) → q_O X 0 0 τ σ8 8 [(0, .ref a0), (1, .int x1), (2, .int p8_2), (3, .int p8_3)] [] := by
    intro n8
    induction n8 with
    | zero => intro p8_2 p8_3 σ8 r8_2 r8_3 hS8 hF hm8; exact absurd hm8 (Nat.not_lt_zero _)
    | succ n8 ih8 =>
      intro p8_2 p8_3 σ8 r8_2 r8_3 hS8 hF hm8
      replace hF := (show fx_eq Fv (kB_X4_readSum_L0_8 (kL_X4_readSum_L0_8 a0 x1.toInt n8) a0 x1.toInt p8_2.toInt p8_3.toInt (fx_N σ8)) from hF)
      unfold kB_X4_readSum_L0_8 at hF
      refine q_iload_n (pc := 8) hG dX4_readSum_8 3 rfl ?_
      refine q_sipush (pc := 9) hG dX4_readSum_9 ks_240 ?_
      refine q_icmp_ge (pc := 12) hG 76 dX4_readSum_12 rfl ?_ ?_
      · intro c12
        replace hF := fx_lt2 hF rfl tl_240 c12
        refine q_iload_n (pc := 76) hG dX4_readSum_76 2 rfl ?_
        exact q_zrt hG hE dX4_readSum_77 r8_2 ⟨hS8, r8_2, (fx_end hF hF0)⟩
      intro c12
      replace hF := fx_lt1 hF rfl tl_240 c12
      refine q_iload_n (pc := 15) hG dX4_readSum_15 2 rfl ?_
      refine q_if_eq (pc := 16) hG 76 dX4_readSum_16 rfl ?_ ?_
      · intro c16
        replace hF := fx_eq1 hF rfl rfl c16
        refine q_iload_n (pc := 76) hG dX4_readSum_76 2 rfl ?_
        have r_1 := q_zeq c16
        exact q_zrt hG hE dX4_readSum_77 (q_r.mono r_1 (by decide)) ⟨hS8, (q_r.mono r_1 (by decide)), (fx_end hF hF0)⟩
      intro c16
      replace hF := fx_eq2 hF rfl rfl c16
      refine q_aload_n (pc := 19) hG dX4_readSum_19 0 rfl ?_
      refine q_pV (pc := 20) [] [] hG (c_X4_peek τ σ8 a0 hS8.1 tA0 at1 (hS8.same tA0 rfl ht) Tt) my_X4_peek mv_X4_peek w316 dX4_readSum_20 tA0 (by decide) rfl rfl (Nat.le_of_ble_eq_true rfl) (by decide) (fun v20 p20 => ?_)
      replace hF := fx_E hF p20.2
      refine q_bipush (pc := 23) hG dX4_readSum_23 kb_43 ?_
      have J37 : (fx_eq Fv (kJ_X4_readSum_L0_37 (fx_N σ8) a0 x1.toInt p8_3.toInt (kL_X4_readSum_L0_8 a0 x1.toInt n8))) → q_O X 0 0 τ σ8 37 [(0, .ref a0), (1, .int x1), (3, .int p8_3)] [] := by
        intro hF
        unfold kJ_X4_readSum_L0_37 at hF
        refine q_aload_n (pc := 37) hG dX4_readSum_37 0 rfl ?_
        refine q_pV (pc := 38) [] [] hG (c_X4_peek τ σ8 a0 hS8.1 tA0 at1 (hS8.same tA0 rfl ht) Tt) my_X4_peek mv_X4_peek w316 dX4_readSum_38 tA0 (by decide) rfl rfl (Nat.le_of_ble_eq_true rfl) (by decide) (fun v38 p38 => ?_)
        replace hF := fx_E hF p38.2
        refine q_istore (pc := 41) [(4, .int v38), (0, .ref a0), (1, .int x1), (3, .int p8_3)] hG dX4_readSum_41 (by decide) rfl ?_
        refine q_aload_n (pc := 43) hG dX4_readSum_43 1 rfl ?_
        refine q_dup (pc := 44) hG dX4_readSum_44 rfl ?_
        refine q_getI (pc := 45) hG fl_X4_22 dX4_readSum_45 hS8.1 tA0 ff_4_2 (fun v45 f45 g45 => ?_)
        replace hF := fx_I hF f45 rfl
        refine q_iconst (pc := 48) hG dX4_readSum_48 ki_1 ?_
        refine q_iadd (pc := 49) hG dX4_readSum_49 (fun v49 e49 => ?_)
        replace hF := fx_B_add hF rfl tl_1 e49
        refine q_putI (pc := 50) hG fl_X4_22 dX4_readSum_50 hS8 tA0 ff_4_2 (q_r_any v49) (by decide) rfl (fun s50 u50 w50 => ?_)
        replace hF := fx_P hF u50 rfl rfl
        have m50 : s50 a0 2 = .int v49 := by rw [u50]; exact q_up_same
        refine q_aload_n (pc := 53) hG dX4_readSum_53 1 rfl ?_
        refine q_iload_n (pc := 54) hG dX4_readSum_54 2 rfl ?_
        refine q_cVi (pc := 55) [.int x1] [] hG (c_X4_readTerm_L0 τ s50 a0 x1 w50.1 tA0 rA1 at1 (w50.same tA0 rfl ht) Tt) my_X4_readTerm mv_X4_readTerm w329 dX4_readSum_55 tA0 (by decide) rfl rfl (Nat.le_of_ble_eq_true rfl) (by decide) (fun v55 s55 p55 => ?_)
        have w55 := w50.trans p55.1 rfl
        replace hF := fx_C hF p55.2.2
        refine q_istore_n (pc := 58) [(2, .int v55), (4, .int v38), (0, .ref a0), (1, .int x1), (3, .int p8_3)] hG dX4_readSum_58 (by decide) rfl ?_
        refine q_aload_n (pc := 59) hG dX4_readSum_59 2 rfl ?_
        refine q_getR (pc := 60) (k2 := 3) (n2 := 1) hG fl_X4_31 dX4_readSum_60 w55.1 tA0 ff_4_4 (fun b60 f60 T60 => ?_)
        replace hF := fx_R hF f60 rfl
        have f_2 := (w55.2 _ _ _ _ tA0 rfl).symm.trans f60
        refine q_iload (pc := 63) hG dX4_readSum_63 1 rfl ?_
        refine q_iconst (pc := 65) hG dX4_readSum_65 ki_0 ?_
        refine q_cVi (pc := 66) [.int v38, .int 0] [] hG (c_X3_add τ s55 b60 v38 0 w55.1 T60) my_X3_add mv_X3_add w344 dX4_readSum_66 T60 (by decide) rfl rfl (Nat.le_of_ble_eq_true rfl) (by decide) (fun v66 s66 p66 => ?_)
        have w66 := w55.trans p66.1 rfl
        have fq66 := p66.2.2
        rewrite [tl_0] at fq66
        replace hF := fx_C hF fq66
        refine q_pop (pc := 69) hG dX4_readSum_69 rfl ?_
        obtain ⟨v70, e70⟩ : ∃ z : Int32, z = p8_3 + Int32.ofInt 1 := ⟨_, rfl⟩
        have r_3 := q_rlt r8_3 rl_240 c12 239 (by decide)
        have h70 := q_incN (lo := 1) (hi := 240) r_3 (by decide) (by decide) e70
        replace hF := fx_add hF rfl rfl h70.1
        refine q_iinc (pc := 70) [(3, .int v70), (2, .int v55), (4, .int v38), (0, .ref a0), (1, .int x1)] hG dX4_readSum_70 4 rfl e70 (by decide) rfl ?_
        refine q_goto (pc := 73) 8 hG dX4_readSum_73 rfl ?_
        refine q_lv [3, 4, 1, 0] rfl ?_
        exact ih8 v55 v70 s66 p55.2.1 (q_r.mono h70.2 (by decide)) w66 hF (q_measU hm8 (by have o0 := c12; have o1 := h70.1; have o2 := r_3; have o3 := h70.2; have l4 := tl_240; unfold q_r at o2 o3; omega) (h70.2).2)
      refine q_icmp_eq (pc := 25) hG 37 dX4_readSum_25 rfl ?_ ?_
      · intro c25
        replace hF := fx_eq1 hF rfl tl_43 c25
        refine q_lv [0, 1, 3] rfl ?_
        exact J37 hF
      intro c25
      replace hF := fx_eq2 hF rfl tl_43 c25
      refine q_aload_n (pc := 28) hG dX4_readSum_28 0 rfl ?_
      refine q_pV (pc := 29) [] [] hG (c_X4_peek τ σ8 a0 hS8.1 tA0 at1 (hS8.same tA0 rfl ht) Tt) my_X4_peek mv_X4_peek w316 dX4_readSum_29 tA0 (by decide) rfl rfl (Nat.le_of_ble_eq_true rfl) (by decide) (fun v29 p29 => ?_)
      replace hF := fx_E hF p29.2
      refine q_bipush (pc := 32) hG dX4_readSum_32 kb_45 ?_
      refine q_icmp_ne (pc := 34) hG 76 dX4_readSum_34 rfl ?_ ?_
      · intro c34
        replace hF := fx_eq2 hF rfl tl_45 c34
        refine q_iload_n (pc := 76) hG dX4_readSum_76 2 rfl ?_
        have r_4 := q_neL (c := 1) r8_2 c16 (by decide)
        exact q_zrt hG hE dX4_readSum_77 (q_r.mono r_4 (by decide)) ⟨hS8, (q_r.mono r_4 (by decide)), (fx_end hF hF0)⟩
      intro c34
      replace hF := fx_eq1 hF rfl tl_45 c34
      refine q_lv [0, 1, 3] rfl ?_
      exact J37 hF
  refine q_lv [2, 3, 1, 0] rfl ?_
  exact J8 ((240 - (0 : Int32).toInt).toNat + 1) v2 0 s2 p2.2.1 (q_r.mono rl_0 (by decide)) w2 (by rw [tl_0]; exact hF) (Nat.lt_succ_self _)
theorem dX4_readPiece_0 : decode cX4_readPiece 0 = .ok (.aload_n 0, 1) := by decide +kernel
theorem dX4_readPiece_1 : decode cX4_readPiece 1 = .ok (.invokevirtual 51, 3) := by decide +kernel
theorem dX4_readPiece_4 : decode cX4_readPiece 4 = .ok (.bipush 33, 2) := by decide +kernel
theorem dX4_readPiece_6 : decode cX4_readPiece 6 = .ok (.if_icmp .ne 36, 3) := by decide +kernel
theorem dX4_readPiece_9 : decode cX4_readPiece 9 = .ok (.aload_n 0, 1) := by decide +kernel
theorem dX4_readPiece_10 : decode cX4_readPiece 10 = .ok (.iload_n 1, 1) := by decide +kernel
theorem dX4_readPiece_11 : decode cX4_readPiece 11 = .ok (.invokevirtual 83, 3) := by decide +kernel
theorem dX4_readPiece_14 : decode cX4_readPiece 14 = .ok (.ifCond .eq 13, 3) := by decide +kernel
theorem dX4_readPiece_17 : decode cX4_readPiece 17 = .ok (.aload_n 0, 1) := by decide +kernel
theorem dX4_readPiece_18 : decode cX4_readPiece 18 = .ok (.iload_n 1, 1) := by decide +kernel
theorem dX4_readPiece_19 : decode cX4_readPiece 19 = .ok (.iconst 1, 1) := by decide +kernel
theorem dX4_readPiece_20 : decode cX4_readPiece 20 = .ok (.iadd, 1) := by decide +kernel
theorem dX4_readPiece_21 : decode cX4_readPiece 21 = .ok (.invokevirtual 80, 3) := by decide +kernel
theorem dX4_readPiece_24 : decode cX4_readPiece 24 = .ok (.ifCond .ne 5, 3) := by decide +kernel
theorem dX4_readPiece_27 : decode cX4_readPiece 27 = .ok (.iconst 0, 1) := by decide +kernel
theorem dX4_readPiece_28 : decode cX4_readPiece 28 = .ok (.ireturn, 1) := by decide +kernel
theorem dX4_readPiece_29 : decode cX4_readPiece 29 = .ok (.aload_n 0, 1) := by decide +kernel
theorem dX4_readPiece_30 : decode cX4_readPiece 30 = .ok (.getfield 31, 3) := by decide +kernel
theorem dX4_readPiece_33 : decode cX4_readPiece 33 = .ok (.bipush 33, 2) := by decide +kernel
theorem dX4_readPiece_35 : decode cX4_readPiece 35 = .ok (.iconst 0, 1) := by decide +kernel
theorem dX4_readPiece_36 : decode cX4_readPiece 36 = .ok (.invokevirtual 65, 3) := by decide +kernel
theorem dX4_readPiece_39 : decode cX4_readPiece 39 = .ok (.pop, 1) := by decide +kernel
theorem dX4_readPiece_40 : decode cX4_readPiece 40 = .ok (.iconst 1, 1) := by decide +kernel
theorem dX4_readPiece_41 : decode cX4_readPiece 41 = .ok (.ireturn, 1) := by decide +kernel
theorem dX4_readPiece_42 : decode cX4_readPiece 42 = .ok (.aload_n 0, 1) := by decide +kernel
theorem dX4_readPiece_43 : decode cX4_readPiece 43 = .ok (.invokevirtual 51, 3) := by decide +kernel
theorem dX4_readPiece_46 : decode cX4_readPiece 46 = .ok (.bipush 40, 2) := by decide +kernel
theorem dX4_readPiece_48 : decode cX4_readPiece 48 = .ok (.if_icmp .ne 36, 3) := by decide +kernel
theorem dX4_readPiece_51 : decode cX4_readPiece 51 = .ok (.aload_n 0, 1) := by decide +kernel
theorem dX4_readPiece_52 : decode cX4_readPiece 52 = .ok (.iload_n 1, 1) := by decide +kernel
theorem dX4_readPiece_53 : decode cX4_readPiece 53 = .ok (.invokevirtual 83, 3) := by decide +kernel
theorem dX4_readPiece_56 : decode cX4_readPiece 56 = .ok (.ifCond .eq 26, 3) := by decide +kernel
theorem dX4_readPiece_59 : decode cX4_readPiece 59 = .ok (.aload_n 0, 1) := by decide +kernel
theorem dX4_readPiece_60 : decode cX4_readPiece 60 = .ok (.iload_n 1, 1) := by decide +kernel
theorem dX4_readPiece_61 : decode cX4_readPiece 61 = .ok (.iconst 1, 1) := by decide +kernel
theorem dX4_readPiece_62 : decode cX4_readPiece 62 = .ok (.iadd, 1) := by decide +kernel
theorem dX4_readPiece_63 : decode cX4_readPiece 63 = .ok (.invokevirtual 71, 3) := by decide +kernel
theorem dX4_readPiece_66 : decode cX4_readPiece 66 = .ok (.ifCond .eq 16, 3) := by decide +kernel
theorem dX4_readPiece_69 : decode cX4_readPiece 69 = .ok (.aload_n 0, 1) := by decide +kernel
theorem dX4_readPiece_70 : decode cX4_readPiece 70 = .ok (.bipush 41, 2) := by decide +kernel
theorem dX4_readPiece_72 : decode cX4_readPiece 72 = .ok (.invokevirtual 48, 3) := by decide +kernel
theorem dX4_readPiece_75 : decode cX4_readPiece 75 = .ok (.ifCond .eq 7, 3) := by decide +kernel
theorem dX4_readPiece_78 : decode cX4_readPiece 78 = .ok (.iconst 1, 1) := by decide +kernel
theorem dX4_readPiece_79 : decode cX4_readPiece 79 = .ok (.goto 4, 3) := by decide +kernel
theorem dX4_readPiece_82 : decode cX4_readPiece 82 = .ok (.iconst 0, 1) := by decide +kernel
theorem dX4_readPiece_83 : decode cX4_readPiece 83 = .ok (.ireturn, 1) := by decide +kernel
theorem dX4_readPiece_84 : decode cX4_readPiece 84 = .ok (.aload_n 0, 1) := by decide +kernel
theorem dX4_readPiece_85 : decode cX4_readPiece 85 = .ok (.iload_n 1, 1) := by decide +kernel
theorem dX4_readPiece_86 : decode cX4_readPiece 86 = .ok (.invokevirtual 62, 3) := by decide +kernel
theorem dX4_readPiece_89 : decode cX4_readPiece 89 = .ok (.ifCond .ne 5, 3) := by decide +kernel
theorem dX4_readPiece_92 : decode cX4_readPiece 92 = .ok (.iconst 0, 1) := by decide +kernel
theorem dX4_readPiece_93 : decode cX4_readPiece 93 = .ok (.ireturn, 1) := by decide +kernel
theorem dX4_readPiece_94 : decode cX4_readPiece 94 = .ok (.aload_n 0, 1) := by decide +kernel
theorem dX4_readPiece_95 : decode cX4_readPiece 95 = .ok (.invokevirtual 51, 3) := by decide +kernel
theorem dX4_readPiece_98 : decode cX4_readPiece 98 = .ok (.istore_n 2, 1) := by decide +kernel
theorem dX4_readPiece_99 : decode cX4_readPiece 99 = .ok (.iload_n 2, 1) := by decide +kernel
theorem dX4_readPiece_100 : decode cX4_readPiece 100 = .ok (.bipush 60, 2) := by decide +kernel
theorem dX4_readPiece_102 : decode cX4_readPiece 102 = .ok (.if_icmp .eq 21, 3) := by decide +kernel
theorem dX4_readPiece_105 : decode cX4_readPiece 105 = .ok (.iload_n 2, 1) := by decide +kernel
theorem dX4_readPiece_106 : decode cX4_readPiece 106 = .ok (.bipush 62, 2) := by decide +kernel
theorem dX4_readPiece_108 : decode cX4_readPiece 108 = .ok (.if_icmp .eq 15, 3) := by decide +kernel
theorem dX4_readPiece_111 : decode cX4_readPiece 111 = .ok (.iload_n 2, 1) := by decide +kernel
theorem dX4_readPiece_112 : decode cX4_readPiece 112 = .ok (.bipush 61, 2) := by decide +kernel
theorem dX4_readPiece_114 : decode cX4_readPiece 114 = .ok (.if_icmp .eq 9, 3) := by decide +kernel
theorem dX4_readPiece_117 : decode cX4_readPiece 117 = .ok (.aload_n 0, 1) := by decide +kernel
theorem dX4_readPiece_118 : decode cX4_readPiece 118 = .ok (.iconst 1, 1) := by decide +kernel
theorem dX4_readPiece_119 : decode cX4_readPiece 119 = .ok (.invokevirtual 55, 3) := by decide +kernel
theorem dX4_readPiece_122 : decode cX4_readPiece 122 = .ok (.ireturn, 1) := by decide +kernel
theorem dX4_readPiece_123 : decode cX4_readPiece 123 = .ok (.aload_n 0, 1) := by decide +kernel
theorem dX4_readPiece_124 : decode cX4_readPiece 124 = .ok (.dup, 1) := by decide +kernel
theorem dX4_readPiece_125 : decode cX4_readPiece 125 = .ok (.getfield 22, 3) := by decide +kernel
theorem dX4_readPiece_128 : decode cX4_readPiece 128 = .ok (.iconst 1, 1) := by decide +kernel
theorem dX4_readPiece_129 : decode cX4_readPiece 129 = .ok (.iadd, 1) := by decide +kernel
theorem dX4_readPiece_130 : decode cX4_readPiece 130 = .ok (.putfield 22, 3) := by decide +kernel
theorem dX4_readPiece_133 : decode cX4_readPiece 133 = .ok (.aload_n 0, 1) := by decide +kernel
theorem dX4_readPiece_134 : decode cX4_readPiece 134 = .ok (.iload_n 1, 1) := by decide +kernel
theorem dX4_readPiece_135 : decode cX4_readPiece 135 = .ok (.invokevirtual 62, 3) := by decide +kernel
theorem dX4_readPiece_138 : decode cX4_readPiece 138 = .ok (.ifCond .ne 5, 3) := by decide +kernel
theorem dX4_readPiece_141 : decode cX4_readPiece 141 = .ok (.iconst 0, 1) := by decide +kernel
theorem dX4_readPiece_142 : decode cX4_readPiece 142 = .ok (.ireturn, 1) := by decide +kernel
theorem dX4_readPiece_143 : decode cX4_readPiece 143 = .ok (.aload_n 0, 1) := by decide +kernel
theorem dX4_readPiece_144 : decode cX4_readPiece 144 = .ok (.getfield 31, 3) := by decide +kernel
theorem dX4_readPiece_147 : decode cX4_readPiece 147 = .ok (.iload_n 2, 1) := by decide +kernel
theorem dX4_readPiece_148 : decode cX4_readPiece 148 = .ok (.iconst 0, 1) := by decide +kernel
theorem dX4_readPiece_149 : decode cX4_readPiece 149 = .ok (.invokevirtual 65, 3) := by decide +kernel
theorem dX4_readPiece_152 : decode cX4_readPiece 152 = .ok (.pop, 1) := by decide +kernel
theorem dX4_readPiece_153 : decode cX4_readPiece 153 = .ok (.iconst 1, 1) := by decide +kernel
theorem dX4_readPiece_154 : decode cX4_readPiece 154 = .ok (.ireturn, 1) := by decide +kernel
def md_X4_readPiece_L6 : List (Nat × Nat) := [(3, 1), (3, 2), (4, 2), (4, 3), (112, 0), (113, 0)]
set_option maxRecDepth 100000 in
set_option maxHeartbeats 4000000 in
theorem c_X4_readPiece_L6 {l : Launch} {D : q_D} (τ : q_T) (σ : q_V) (a0 : Nat) (x1 : Int32) (hI : q_I τ σ) (tA0 : τ a0 = some (4, 1)) (rA1 : q_r x1 6 6) (at1 : Nat) (ht : σ a0 0 = .ref at1) (Tt : τ at1 = some (110, 260)) : q_Ci l D yX4_readPiece cX4_readPiece 3 (some .boolean) 5 114 τ σ [.ref a0, .int x1] (fun r σ1 => q_S md_X4_readPiece_L6 τ σ σ1 ∧ (q_r r 0 1) ∧ ((r.toInt, fx_N σ1) = f_X4_readPiece_L6 (fx_N σ) a0 x1.toInt)) := by
  refine q_meti rfl (Nat.le_of_ble_eq_true rfl) (fun X hG hE => ?_)
  show q_O X 0 0 τ σ 0 [(0, .ref a0), (1, .int x1)] []
  have hS0 : q_S md_X4_readPiece_L6 τ σ σ := q_S.rf hI
  obtain ⟨Fv, hF⟩ : ∃ z, fx_eq z (f_X4_readPiece_L6 (fx_N σ) a0 x1.toInt) := ⟨_, fx_rf⟩
  have hF0 := hF
  unfold f_X4_readPiece_L6 at hF
  replace hF := fx_R hF ht rfl
  refine q_aload_n (pc := 0) hG dX4_readPiece_0 0 rfl ?_
  refine q_pV (pc := 1) [] [] hG (c_X4_peek τ σ a0 hI tA0 at1 ht Tt) my_X4_peek mv_X4_peek w316 dX4_readPiece_1 tA0 (by decide) rfl rfl (Nat.le_of_ble_eq_true rfl) (by decide) (fun v1 p1 => ?_)
  replace hF := fx_E hF p1.2
  refine q_bipush (pc := 4) hG dX4_readPiece_4 kb_33 ?_
  refine q_icmp_ne (pc := 6) hG 42 dX4_readPiece_6 rfl ?_ ?_
  · intro c6
    replace hF := fx_eq2 hF rfl tl_33 c6
    refine q_aload_n (pc := 42) hG dX4_readPiece_42 0 rfl ?_
    refine q_pV (pc := 43) [] [] hG (c_X4_peek τ σ a0 hI tA0 at1 ht Tt) my_X4_peek mv_X4_peek w316 dX4_readPiece_43 tA0 (by decide) rfl rfl (Nat.le_of_ble_eq_true rfl) (by decide) (fun v43 p43 => ?_)
    replace hF := fx_E hF p43.2
    refine q_bipush (pc := 46) hG dX4_readPiece_46 kb_40 ?_
    refine q_icmp_ne (pc := 48) hG 84 dX4_readPiece_48 rfl ?_ ?_
    · intro c48
      replace hF := fx_eq2 hF rfl tl_40 c48
      refine q_aload_n (pc := 84) hG dX4_readPiece_84 0 rfl ?_
      refine q_iload_n (pc := 85) hG dX4_readPiece_85 1 rfl ?_
      refine q_cVi (pc := 86) [.int x1] [] hG (c_X4_readSum_L6 τ σ a0 x1 hI tA0 rA1 at1 ht Tt) my_X4_readSum mv_X4_readSum w326 dX4_readPiece_86 tA0 (by decide) rfl rfl (Nat.le_of_ble_eq_true rfl) (by decide) (fun v86 s86 p86 => ?_)
      have w86 := hS0.trans p86.1 rfl
      replace hF := fx_C hF p86.2.2
      refine q_if_ne (pc := 89) hG 94 dX4_readPiece_89 rfl ?_ ?_
      · intro c89
        replace hF := fx_eq2 hF rfl rfl c89
        refine q_aload_n (pc := 94) hG dX4_readPiece_94 0 rfl ?_
        refine q_pV (pc := 95) [] [] hG (c_X4_peek τ s86 a0 w86.1 tA0 at1 (w86.same tA0 rfl ht) Tt) my_X4_peek mv_X4_peek w316 dX4_readPiece_95 tA0 (by decide) rfl rfl (Nat.le_of_ble_eq_true rfl) (by decide) (fun v95 p95 => ?_)
        replace hF := fx_E hF p95.2
        refine q_istore_n (pc := 98) [(2, .int v95), (0, .ref a0), (1, .int x1)] hG dX4_readPiece_98 (by decide) rfl ?_
        refine q_iload_n (pc := 99) hG dX4_readPiece_99 0 rfl ?_
        refine q_bipush (pc := 100) hG dX4_readPiece_100 kb_60 ?_
        have J123 : (fx_eq Fv (kJ_X4_readPiece_L6_123 (fx_N s86) a0 x1.toInt v95.toInt)) → q_O X 0 0 τ s86 123 [(0, .ref a0), (1, .int x1), (2, .int v95)] [] := by
          intro hF
          unfold kJ_X4_readPiece_L6_123 at hF
          refine q_aload_n (pc := 123) hG dX4_readPiece_123 0 rfl ?_
          refine q_dup (pc := 124) hG dX4_readPiece_124 rfl ?_
          refine q_getI (pc := 125) hG fl_X4_22 dX4_readPiece_125 w86.1 tA0 ff_4_2 (fun v125 f125 g125 => ?_)
          replace hF := fx_I hF f125 rfl
          refine q_iconst (pc := 128) hG dX4_readPiece_128 ki_1 ?_
          refine q_iadd (pc := 129) hG dX4_readPiece_129 (fun v129 e129 => ?_)
          replace hF := fx_B_add hF rfl tl_1 e129
          refine q_putI (pc := 130) hG fl_X4_22 dX4_readPiece_130 w86 tA0 ff_4_2 (q_r_any v129) (by decide) rfl (fun s130 u130 w130 => ?_)
          replace hF := fx_P hF u130 rfl rfl
          have m130 : s130 a0 2 = .int v129 := by rw [u130]; exact q_up_same
          refine q_aload_n (pc := 133) hG dX4_readPiece_133 0 rfl ?_
          refine q_iload_n (pc := 134) hG dX4_readPiece_134 1 rfl ?_
          refine q_cVi (pc := 135) [.int x1] [] hG (c_X4_readSum_L6 τ s130 a0 x1 w130.1 tA0 rA1 at1 (w130.same tA0 rfl ht) Tt) my_X4_readSum mv_X4_readSum w326 dX4_readPiece_135 tA0 (by decide) rfl rfl (Nat.le_of_ble_eq_true rfl) (by decide) (fun v135 s135 p135 => ?_)
          have w135 := w130.trans p135.1 rfl
          replace hF := fx_C hF p135.2.2
          refine q_if_ne (pc := 138) hG 143 dX4_readPiece_138 rfl ?_ ?_
          · intro c138
            replace hF := fx_eq2 hF rfl rfl c138
            refine q_aload_n (pc := 143) hG dX4_readPiece_143 0 rfl ?_
            refine q_getR (pc := 144) (k2 := 3) (n2 := 1) hG fl_X4_31 dX4_readPiece_144 w135.1 tA0 ff_4_4 (fun b144 f144 T144 => ?_)
            replace hF := fx_R hF f144 rfl
            have f_1 := (w135.2 _ _ _ _ tA0 rfl).symm.trans f144
            refine q_iload_n (pc := 147) hG dX4_readPiece_147 2 rfl ?_
            refine q_iconst (pc := 148) hG dX4_readPiece_148 ki_0 ?_
            refine q_cVi (pc := 149) [.int v95, .int 0] [] hG (c_X3_add τ s135 b144 v95 0 w135.1 T144) my_X3_add mv_X3_add w344 dX4_readPiece_149 T144 (by decide) rfl rfl (Nat.le_of_ble_eq_true rfl) (by decide) (fun v149 s149 p149 => ?_)
            have w149 := w135.trans p149.1 rfl
            have fq149 := p149.2.2
            rewrite [tl_0] at fq149
            replace hF := fx_C hF fq149
            refine q_pop (pc := 152) hG dX4_readPiece_152 rfl ?_
            refine q_iconst (pc := 153) hG dX4_readPiece_153 ki_1 ?_
            exact q_zrt hG hE dX4_readPiece_154 (q_r.mono rl_1 (by decide)) ⟨w149, (q_r.mono rl_1 (by decide)), (by rw [tl_1]; exact fx_end hF hF0)⟩
          intro c138
          replace hF := fx_eq1 hF rfl rfl c138
          refine q_iconst (pc := 141) hG dX4_readPiece_141 ki_0 ?_
          exact q_zrt hG hE dX4_readPiece_142 (q_r.mono rl_0 (by decide)) ⟨w135, (q_r.mono rl_0 (by decide)), (by rw [tl_0]; exact fx_end hF hF0)⟩
        refine q_icmp_eq (pc := 102) hG 123 dX4_readPiece_102 rfl ?_ ?_
        · intro c102
          replace hF := fx_eq1 hF rfl tl_60 c102
          refine q_lv [1, 2, 0] rfl ?_
          exact J123 hF
        intro c102
        replace hF := fx_eq2 hF rfl tl_60 c102
        refine q_iload_n (pc := 105) hG dX4_readPiece_105 0 rfl ?_
        refine q_bipush (pc := 106) hG dX4_readPiece_106 kb_62 ?_
        refine q_icmp_eq (pc := 108) hG 123 dX4_readPiece_108 rfl ?_ ?_
        · intro c108
          replace hF := fx_eq1 hF rfl tl_62 c108
          refine q_lv [1, 2, 0] rfl ?_
          exact J123 hF
        intro c108
        replace hF := fx_eq2 hF rfl tl_62 c108
        refine q_iload_n (pc := 111) hG dX4_readPiece_111 0 rfl ?_
        refine q_bipush (pc := 112) hG dX4_readPiece_112 kb_61 ?_
        refine q_icmp_eq (pc := 114) hG 123 dX4_readPiece_114 rfl ?_ ?_
        · intro c114
          replace hF := fx_eq1 hF rfl tl_61 c114
          refine q_lv [1, 2, 0] rfl ?_
          exact J123 hF
        intro c114
        replace hF := fx_eq2 hF rfl tl_61 c114
        refine q_aload_n (pc := 117) hG dX4_readPiece_117 1 rfl ?_
        refine q_iconst (pc := 118) hG dX4_readPiece_118 ki_1 ?_
        refine q_cVi (pc := 119) [.int 1] [] hG (c_X4_fail τ s86 a0 1 w86.1 tA0) my_X4_fail mv_X4_fail w319 dX4_readPiece_119 tA0 (by decide) rfl rfl (Nat.le_of_ble_eq_true rfl) (by decide) (fun v119 s119 p119 => ?_)
        have w119 := w86.trans p119.1 rfl
        have fq119 := p119.2.2
        rewrite [tl_1] at fq119
        replace hF := fx_C hF fq119
        exact q_zrt hG hE dX4_readPiece_122 (q_r.mono p119.2.1 (by decide)) ⟨w119, (q_r.mono p119.2.1 (by decide)), (fx_end hF hF0)⟩
      intro c89
      replace hF := fx_eq1 hF rfl rfl c89
      refine q_iconst (pc := 92) hG dX4_readPiece_92 ki_0 ?_
      exact q_zrt hG hE dX4_readPiece_93 (q_r.mono rl_0 (by decide)) ⟨w86, (q_r.mono rl_0 (by decide)), (by rw [tl_0]; exact fx_end hF hF0)⟩
    intro c48
    replace hF := fx_eq1 hF rfl tl_40 c48
    refine q_aload_n (pc := 51) hG dX4_readPiece_51 0 rfl ?_
    refine q_iload_n (pc := 52) hG dX4_readPiece_52 1 rfl ?_
    refine q_cVi (pc := 53) [.int x1] [] hG (c_X4_mayOpen τ σ a0 x1 hI tA0) my_X4_mayOpen mv_X4_mayOpen w335 dX4_readPiece_53 tA0 (by decide) rfl rfl (Nat.le_of_ble_eq_true rfl) (by decide) (fun v53 s53 p53 => ?_)
    have w53 := hS0.trans p53.1 rfl
    replace hF := fx_C hF p53.2.2.1
    refine q_if_eq (pc := 56) hG 82 dX4_readPiece_56 rfl ?_ ?_
    · intro c56
      replace hF := fx_eq1 hF rfl rfl c56
      refine q_iconst (pc := 82) hG dX4_readPiece_82 ki_0 ?_
      exact q_zrt hG hE dX4_readPiece_83 (q_r.mono rl_0 (by decide)) ⟨w53, (q_r.mono rl_0 (by decide)), (by rw [tl_0]; exact fx_end hF hF0)⟩
    intro c56
    have g_2 := p53.2.2.2 (q_one p53.2.1 c56)
    exact absurd (show _ ≤ (5 : Int32).toInt from g_2) (by have l0 := tl_5; have q0 := rA1; unfold q_r at q0; omega)
  intro c6
  replace hF := fx_eq1 hF rfl tl_33 c6
  refine q_aload_n (pc := 9) hG dX4_readPiece_9 0 rfl ?_
  refine q_iload_n (pc := 10) hG dX4_readPiece_10 1 rfl ?_
  refine q_cVi (pc := 11) [.int x1] [] hG (c_X4_mayOpen τ σ a0 x1 hI tA0) my_X4_mayOpen mv_X4_mayOpen w335 dX4_readPiece_11 tA0 (by decide) rfl rfl (Nat.le_of_ble_eq_true rfl) (by decide) (fun v11 s11 p11 => ?_)
  have w11 := hS0.trans p11.1 rfl
  replace hF := fx_C hF p11.2.2.1
  refine q_if_eq (pc := 14) hG 27 dX4_readPiece_14 rfl ?_ ?_
  · intro c14
    replace hF := fx_eq1 hF rfl rfl c14
    refine q_iconst (pc := 27) hG dX4_readPiece_27 ki_0 ?_
    exact q_zrt hG hE dX4_readPiece_28 (q_r.mono rl_0 (by decide)) ⟨w11, (q_r.mono rl_0 (by decide)), (by rw [tl_0]; exact fx_end hF hF0)⟩
  intro c14
  have g_3 := p11.2.2.2 (q_one p11.2.1 c14)
  exact absurd (show _ ≤ (5 : Int32).toInt from g_3) (by have l0 := tl_5; have q0 := rA1; unfold q_r at q0; omega)
theorem dX4_readPart_0 : decode cX4_readPart 0 = .ok (.aload_n 0, 1) := by decide +kernel
theorem dX4_readPart_1 : decode cX4_readPart 1 = .ok (.iload_n 1, 1) := by decide +kernel
theorem dX4_readPart_2 : decode cX4_readPart 2 = .ok (.invokevirtual 80, 3) := by decide +kernel
theorem dX4_readPart_5 : decode cX4_readPart 5 = .ok (.istore_n 2, 1) := by decide +kernel
theorem dX4_readPart_6 : decode cX4_readPart 6 = .ok (.iconst 0, 1) := by decide +kernel
theorem dX4_readPart_7 : decode cX4_readPart 7 = .ok (.istore_n 3, 1) := by decide +kernel
theorem dX4_readPart_8 : decode cX4_readPart 8 = .ok (.iload_n 3, 1) := by decide +kernel
theorem dX4_readPart_9 : decode cX4_readPart 9 = .ok (.sipush 240, 3) := by decide +kernel
theorem dX4_readPart_12 : decode cX4_readPart 12 = .ok (.if_icmp .ge 59, 3) := by decide +kernel
theorem dX4_readPart_15 : decode cX4_readPart 15 = .ok (.iload_n 2, 1) := by decide +kernel
theorem dX4_readPart_16 : decode cX4_readPart 16 = .ok (.ifCond .eq 55, 3) := by decide +kernel
theorem dX4_readPart_19 : decode cX4_readPart 19 = .ok (.aload_n 0, 1) := by decide +kernel
theorem dX4_readPart_20 : decode cX4_readPart 20 = .ok (.invokevirtual 51, 3) := by decide +kernel
theorem dX4_readPart_23 : decode cX4_readPart 23 = .ok (.bipush 38, 2) := by decide +kernel
theorem dX4_readPart_25 : decode cX4_readPart 25 = .ok (.if_icmp .ne 46, 3) := by decide +kernel
theorem dX4_readPart_28 : decode cX4_readPart 28 = .ok (.aload_n 0, 1) := by decide +kernel
theorem dX4_readPart_29 : decode cX4_readPart 29 = .ok (.dup, 1) := by decide +kernel
theorem dX4_readPart_30 : decode cX4_readPart 30 = .ok (.getfield 22, 3) := by decide +kernel
theorem dX4_readPart_33 : decode cX4_readPart 33 = .ok (.iconst 1, 1) := by decide +kernel
theorem dX4_readPart_34 : decode cX4_readPart 34 = .ok (.iadd, 1) := by decide +kernel
theorem dX4_readPart_35 : decode cX4_readPart 35 = .ok (.putfield 22, 3) := by decide +kernel
theorem dX4_readPart_38 : decode cX4_readPart 38 = .ok (.aload_n 0, 1) := by decide +kernel
theorem dX4_readPart_39 : decode cX4_readPart 39 = .ok (.getfield 31, 3) := by decide +kernel
theorem dX4_readPart_42 : decode cX4_readPart 42 = .ok (.bipush 38, 2) := by decide +kernel
theorem dX4_readPart_44 : decode cX4_readPart 44 = .ok (.iconst 0, 1) := by decide +kernel
theorem dX4_readPart_45 : decode cX4_readPart 45 = .ok (.invokevirtual 65, 3) := by decide +kernel
theorem dX4_readPart_48 : decode cX4_readPart 48 = .ok (.istore 4, 2) := by decide +kernel
theorem dX4_readPart_50 : decode cX4_readPart 50 = .ok (.aload_n 0, 1) := by decide +kernel
theorem dX4_readPart_51 : decode cX4_readPart 51 = .ok (.iload_n 1, 1) := by decide +kernel
theorem dX4_readPart_52 : decode cX4_readPart 52 = .ok (.invokevirtual 80, 3) := by decide +kernel
theorem dX4_readPart_55 : decode cX4_readPart 55 = .ok (.istore_n 2, 1) := by decide +kernel
theorem dX4_readPart_56 : decode cX4_readPart 56 = .ok (.aload_n 0, 1) := by decide +kernel
theorem dX4_readPart_57 : decode cX4_readPart 57 = .ok (.getfield 31, 3) := by decide +kernel
theorem dX4_readPart_60 : decode cX4_readPart 60 = .ok (.iload 4, 2) := by decide +kernel
theorem dX4_readPart_62 : decode cX4_readPart 62 = .ok (.invokevirtual 77, 3) := by decide +kernel
theorem dX4_readPart_65 : decode cX4_readPart 65 = .ok (.iinc 3 1, 3) := by decide +kernel
theorem dX4_readPart_68 : decode cX4_readPart 68 = .ok (.goto (-60), 3) := by decide +kernel
theorem dX4_readPart_71 : decode cX4_readPart 71 = .ok (.iload_n 2, 1) := by decide +kernel
theorem dX4_readPart_72 : decode cX4_readPart 72 = .ok (.ireturn, 1) := by decide +kernel
def md_X4_readPart_L6 : List (Nat × Nat) := [(3, 1), (3, 2), (4, 2), (4, 3), (112, 0), (113, 0)]
set_option maxRecDepth 100000 in
set_option maxHeartbeats 4000000 in
theorem c_X4_readPart_L6 {l : Launch} {D : q_D} (τ : q_T) (σ : q_V) (a0 : Nat) (x1 : Int32) (hI : q_I τ σ) (tA0 : τ a0 = some (4, 1)) (rA1 : q_r x1 6 6) (at1 : Nat) (ht : σ a0 0 = .ref at1) (Tt : τ at1 = some (110, 260)) : q_Ci l D yX4_readPart cX4_readPart 5 (some .boolean) 6 136 τ σ [.ref a0, .int x1] (fun r σ1 => q_S md_X4_readPart_L6 τ σ σ1 ∧ (q_r r 0 1) ∧ ((r.toInt, fx_N σ1) = f_X4_readPart_L6 (fx_N σ) a0 x1.toInt)) := by
  refine q_meti rfl (Nat.le_of_ble_eq_true rfl) (fun X hG hE => ?_)
  show q_O X 0 0 τ σ 0 [(0, .ref a0), (1, .int x1)] []
  have hS0 : q_S md_X4_readPart_L6 τ σ σ := q_S.rf hI
  obtain ⟨Fv, hF⟩ : ∃ z, fx_eq z (f_X4_readPart_L6 (fx_N σ) a0 x1.toInt) := ⟨_, fx_rf⟩
  have hF0 := hF
  unfold f_X4_readPart_L6 at hF
  replace hF := fx_R hF ht rfl
  refine q_aload_n (pc := 0) hG dX4_readPart_0 0 rfl ?_
  refine q_iload_n (pc := 1) hG dX4_readPart_1 1 rfl ?_
  refine q_cVi (pc := 2) [.int x1] [] hG (c_X4_readPiece_L6 τ σ a0 x1 hI tA0 rA1 at1 ht Tt) my_X4_readPiece mv_X4_readPiece w364 dX4_readPart_2 tA0 (by decide) rfl rfl (Nat.le_of_ble_eq_true rfl) (by decide) (fun v2 s2 p2 => ?_)
  have w2 := hS0.trans p2.1 rfl
  replace hF := fx_C hF p2.2.2
  refine q_istore_n (pc := 5) [(2, .int v2), (0, .ref a0), (1, .int x1)] hG dX4_readPart_5 (by decide) rfl ?_
  refine q_iconst (pc := 6) hG dX4_readPart_6 ki_0 ?_
  refine q_istore_n (pc := 7) [(3, .int 0), (2, .int v2), (0, .ref a0), (1, .int x1)] hG dX4_readPart_7 (by decide) rfl ?_
  have J8 : ∀ (n8 : Nat) (p8_2 : Int32) (p8_3 : Int32) (σ8 : q_V), (q_r p8_2 0 1) → (q_r p8_3 0 240) → (q_S md_X4_readPart_L6 τ σ σ8) → (fx_eq Fv (kL_X4_readPart_L6_8 a0 x1.toInt n8 p8_2.toInt p8_3.toInt (fx_N σ8))) → ((240 - p8_3.toInt).toNat < n8) → q_O X 0 0 τ σ8 8 [(0, .ref a0), (1, .int x1), (2, .int p8_2), (3, .int p8_3)] [] := by
    intro n8
    induction n8 with
    | zero => intro p8_2 p8_3 σ8 r8_2 r8_3 hS8 hF hm8; exact absurd hm8 (Nat.not_lt_zero _)
    | succ n8 ih8 =>
      intro p8_2 p8_3 σ8 r8_2 r8_3 hS8 hF hm8
      replace hF := (show fx_eq Fv (kB_X4_readPart_L6_8 (kL_X4_readPart_L6_8 a0 x1.toInt n8) a0 x1.toInt p8_2.toInt p8_3.toInt (fx_N σ8)) from hF)
      unfold kB_X4_readPart_L6_8 at hF
      refine q_iload_n (pc := 8) hG dX4_readPart_8 3 rfl ?_
      refine q_sipush (pc := 9) hG dX4_readPart_9 ks_240 ?_
      refine q_icmp_ge (pc := 12) hG 71 dX4_readPart_12 rfl ?_ ?_
      · intro c12
        replace hF := fx_lt2 hF rfl tl_240 c12
        refine q_iload_n (pc := 71) hG dX4_readPart_71 2 rfl ?_
        exact q_zrt hG hE dX4_readPart_72 r8_2 ⟨hS8, r8_2, (fx_end hF hF0)⟩
      intro c12
      replace hF := fx_lt1 hF rfl tl_240 c12
      refine q_iload_n (pc := 15) hG dX4_readPart_15 2 rfl ?_
      refine q_if_eq (pc := 16) hG 71 dX4_readPart_16 rfl ?_ ?_
      · intro c16
        replace hF := fx_eq1 hF rfl rfl c16
        refine q_iload_n (pc := 71) hG dX4_readPart_71 2 rfl ?_
        have r_1 := q_zeq c16
        exact q_zrt hG hE dX4_readPart_72 (q_r.mono r_1 (by decide)) ⟨hS8, (q_r.mono r_1 (by decide)), (fx_end hF hF0)⟩
      intro c16
      replace hF := fx_eq2 hF rfl rfl c16
      refine q_aload_n (pc := 19) hG dX4_readPart_19 0 rfl ?_
      refine q_pV (pc := 20) [] [] hG (c_X4_peek τ σ8 a0 hS8.1 tA0 at1 (hS8.same tA0 rfl ht) Tt) my_X4_peek mv_X4_peek w316 dX4_readPart_20 tA0 (by decide) rfl rfl (Nat.le_of_ble_eq_true rfl) (by decide) (fun v20 p20 => ?_)
      replace hF := fx_E hF p20.2
      refine q_bipush (pc := 23) hG dX4_readPart_23 kb_38 ?_
      refine q_icmp_ne (pc := 25) hG 71 dX4_readPart_25 rfl ?_ ?_
      · intro c25
        replace hF := fx_eq2 hF rfl tl_38 c25
        refine q_iload_n (pc := 71) hG dX4_readPart_71 2 rfl ?_
        have r_2 := q_neL (c := 1) r8_2 c16 (by decide)
        exact q_zrt hG hE dX4_readPart_72 (q_r.mono r_2 (by decide)) ⟨hS8, (q_r.mono r_2 (by decide)), (fx_end hF hF0)⟩
      intro c25
      replace hF := fx_eq1 hF rfl tl_38 c25
      refine q_aload_n (pc := 28) hG dX4_readPart_28 0 rfl ?_
      refine q_dup (pc := 29) hG dX4_readPart_29 rfl ?_
      refine q_getI (pc := 30) hG fl_X4_22 dX4_readPart_30 hS8.1 tA0 ff_4_2 (fun v30 f30 g30 => ?_)
      replace hF := fx_I hF f30 rfl
      refine q_iconst (pc := 33) hG dX4_readPart_33 ki_1 ?_
      refine q_iadd (pc := 34) hG dX4_readPart_34 (fun v34 e34 => ?_)
      replace hF := fx_B_add hF rfl tl_1 e34
      refine q_putI (pc := 35) hG fl_X4_22 dX4_readPart_35 hS8 tA0 ff_4_2 (q_r_any v34) (by decide) rfl (fun s35 u35 w35 => ?_)
      replace hF := fx_P hF u35 rfl rfl
      have m35 : s35 a0 2 = .int v34 := by rw [u35]; exact q_up_same
      refine q_aload_n (pc := 38) hG dX4_readPart_38 0 rfl ?_
      refine q_getR (pc := 39) (k2 := 3) (n2 := 1) hG fl_X4_31 dX4_readPart_39 w35.1 tA0 ff_4_4 (fun b39 f39 T39 => ?_)
      replace hF := fx_R hF f39 rfl
      have f_3 := (w35.2 _ _ _ _ tA0 rfl).symm.trans f39
      refine q_bipush (pc := 42) hG dX4_readPart_42 kb_38 ?_
      refine q_iconst (pc := 44) hG dX4_readPart_44 ki_0 ?_
      refine q_cVi (pc := 45) [.int 38, .int 0] [] hG (c_X3_add τ s35 b39 38 0 w35.1 T39) my_X3_add mv_X3_add w344 dX4_readPart_45 T39 (by decide) rfl rfl (Nat.le_of_ble_eq_true rfl) (by decide) (fun v45 s45 p45 => ?_)
      have w45 := w35.trans p45.1 rfl
      have fq45 := p45.2.2
      rewrite [tl_0, tl_38] at fq45
      replace hF := fx_C hF fq45
      refine q_istore (pc := 48) [(4, .int v45), (0, .ref a0), (1, .int x1), (2, .int p8_2), (3, .int p8_3)] hG dX4_readPart_48 (by decide) rfl ?_
      refine q_aload_n (pc := 50) hG dX4_readPart_50 1 rfl ?_
      refine q_iload_n (pc := 51) hG dX4_readPart_51 2 rfl ?_
      refine q_cVi (pc := 52) [.int x1] [] hG (c_X4_readPiece_L6 τ s45 a0 x1 w45.1 tA0 rA1 at1 (w45.same tA0 rfl ht) Tt) my_X4_readPiece mv_X4_readPiece w364 dX4_readPart_52 tA0 (by decide) rfl rfl (Nat.le_of_ble_eq_true rfl) (by decide) (fun v52 s52 p52 => ?_)
      have w52 := w45.trans p52.1 rfl
      replace hF := fx_C hF p52.2.2
      refine q_istore_n (pc := 55) [(2, .int v52), (4, .int v45), (0, .ref a0), (1, .int x1), (3, .int p8_3)] hG dX4_readPart_55 (by decide) rfl ?_
      refine q_aload_n (pc := 56) hG dX4_readPart_56 2 rfl ?_
      refine q_getV (pc := 57) (v := .ref b39) hG fl_X4_31 dX4_readPart_57 tA0 (w52.same tA0 rfl f_3) ?_
      refine q_iload (pc := 60) hG dX4_readPart_60 1 rfl ?_
      refine q_cVv (pc := 62) [.int v45] [] hG (c_X3_leadHere τ s52 b39 v45 w52.1 T39) my_X3_leadHere mv_X3_leadHere w367 dX4_readPart_62 T39 (by decide) rfl rfl (Nat.le_of_ble_eq_true rfl) (by decide) (fun s62 p62 => ?_)
      have w62 := w52.trans p62.1 rfl
      replace hF := fx_S hF p62.2
      obtain ⟨v65, e65⟩ : ∃ z : Int32, z = p8_3 + Int32.ofInt 1 := ⟨_, rfl⟩
      have r_4 := q_rlt r8_3 rl_240 c12 239 (by decide)
      have h65 := q_incN (lo := 1) (hi := 240) r_4 (by decide) (by decide) e65
      replace hF := fx_add hF rfl rfl h65.1
      refine q_iinc (pc := 65) [(3, .int v65), (2, .int v52), (4, .int v45), (0, .ref a0), (1, .int x1)] hG dX4_readPart_65 4 rfl e65 (by decide) rfl ?_
      refine q_goto (pc := 68) 8 hG dX4_readPart_68 rfl ?_
      refine q_lv [3, 4, 1, 0] rfl ?_
      exact ih8 v52 v65 s62 p52.2.1 (q_r.mono h65.2 (by decide)) w62 hF (q_measU hm8 (by have o0 := c12; have o1 := h65.1; have o2 := r_4; have o3 := h65.2; have l4 := tl_240; unfold q_r at o2 o3; omega) (h65.2).2)
  refine q_lv [2, 3, 1, 0] rfl ?_
  exact J8 ((240 - (0 : Int32).toInt).toNat + 1) v2 0 s2 p2.2.1 (q_r.mono rl_0 (by decide)) w2 (by rw [tl_0]; exact hF) (Nat.lt_succ_self _)
theorem dX4_readParts_0 : decode cX4_readParts 0 = .ok (.aload_n 0, 1) := by decide +kernel
theorem dX4_readParts_1 : decode cX4_readParts 1 = .ok (.iload_n 1, 1) := by decide +kernel
theorem dX4_readParts_2 : decode cX4_readParts 2 = .ok (.invokevirtual 74, 3) := by decide +kernel
theorem dX4_readParts_5 : decode cX4_readParts 5 = .ok (.istore_n 2, 1) := by decide +kernel
theorem dX4_readParts_6 : decode cX4_readParts 6 = .ok (.iconst 0, 1) := by decide +kernel
theorem dX4_readParts_7 : decode cX4_readParts 7 = .ok (.istore_n 3, 1) := by decide +kernel
theorem dX4_readParts_8 : decode cX4_readParts 8 = .ok (.iload_n 3, 1) := by decide +kernel
theorem dX4_readParts_9 : decode cX4_readParts 9 = .ok (.sipush 240, 3) := by decide +kernel
theorem dX4_readParts_12 : decode cX4_readParts 12 = .ok (.if_icmp .ge 59, 3) := by decide +kernel
theorem dX4_readParts_15 : decode cX4_readParts 15 = .ok (.iload_n 2, 1) := by decide +kernel
theorem dX4_readParts_16 : decode cX4_readParts 16 = .ok (.ifCond .eq 55, 3) := by decide +kernel
theorem dX4_readParts_19 : decode cX4_readParts 19 = .ok (.aload_n 0, 1) := by decide +kernel
theorem dX4_readParts_20 : decode cX4_readParts 20 = .ok (.invokevirtual 51, 3) := by decide +kernel
theorem dX4_readParts_23 : decode cX4_readParts 23 = .ok (.bipush 124, 2) := by decide +kernel
theorem dX4_readParts_25 : decode cX4_readParts 25 = .ok (.if_icmp .ne 46, 3) := by decide +kernel
theorem dX4_readParts_28 : decode cX4_readParts 28 = .ok (.aload_n 0, 1) := by decide +kernel
theorem dX4_readParts_29 : decode cX4_readParts 29 = .ok (.dup, 1) := by decide +kernel
theorem dX4_readParts_30 : decode cX4_readParts 30 = .ok (.getfield 22, 3) := by decide +kernel
theorem dX4_readParts_33 : decode cX4_readParts 33 = .ok (.iconst 1, 1) := by decide +kernel
theorem dX4_readParts_34 : decode cX4_readParts 34 = .ok (.iadd, 1) := by decide +kernel
theorem dX4_readParts_35 : decode cX4_readParts 35 = .ok (.putfield 22, 3) := by decide +kernel
theorem dX4_readParts_38 : decode cX4_readParts 38 = .ok (.aload_n 0, 1) := by decide +kernel
theorem dX4_readParts_39 : decode cX4_readParts 39 = .ok (.getfield 31, 3) := by decide +kernel
theorem dX4_readParts_42 : decode cX4_readParts 42 = .ok (.bipush 124, 2) := by decide +kernel
theorem dX4_readParts_44 : decode cX4_readParts 44 = .ok (.iconst 0, 1) := by decide +kernel
theorem dX4_readParts_45 : decode cX4_readParts 45 = .ok (.invokevirtual 65, 3) := by decide +kernel
theorem dX4_readParts_48 : decode cX4_readParts 48 = .ok (.istore 4, 2) := by decide +kernel
theorem dX4_readParts_50 : decode cX4_readParts 50 = .ok (.aload_n 0, 1) := by decide +kernel
theorem dX4_readParts_51 : decode cX4_readParts 51 = .ok (.iload_n 1, 1) := by decide +kernel
theorem dX4_readParts_52 : decode cX4_readParts 52 = .ok (.invokevirtual 74, 3) := by decide +kernel
theorem dX4_readParts_55 : decode cX4_readParts 55 = .ok (.istore_n 2, 1) := by decide +kernel
theorem dX4_readParts_56 : decode cX4_readParts 56 = .ok (.aload_n 0, 1) := by decide +kernel
theorem dX4_readParts_57 : decode cX4_readParts 57 = .ok (.getfield 31, 3) := by decide +kernel
theorem dX4_readParts_60 : decode cX4_readParts 60 = .ok (.iload 4, 2) := by decide +kernel
theorem dX4_readParts_62 : decode cX4_readParts 62 = .ok (.invokevirtual 77, 3) := by decide +kernel
theorem dX4_readParts_65 : decode cX4_readParts 65 = .ok (.iinc 3 1, 3) := by decide +kernel
theorem dX4_readParts_68 : decode cX4_readParts 68 = .ok (.goto (-60), 3) := by decide +kernel
theorem dX4_readParts_71 : decode cX4_readParts 71 = .ok (.iload_n 2, 1) := by decide +kernel
theorem dX4_readParts_72 : decode cX4_readParts 72 = .ok (.ireturn, 1) := by decide +kernel
def md_X4_readParts_L6 : List (Nat × Nat) := [(3, 1), (3, 2), (4, 2), (4, 3), (112, 0), (113, 0)]
set_option maxRecDepth 100000 in
set_option maxHeartbeats 4000000 in
theorem c_X4_readParts_L6 {l : Launch} {D : q_D} (τ : q_T) (σ : q_V) (a0 : Nat) (x1 : Int32) (hI : q_I τ σ) (tA0 : τ a0 = some (4, 1)) (rA1 : q_r x1 6 6) (at1 : Nat) (ht : σ a0 0 = .ref at1) (Tt : τ at1 = some (110, 260)) : q_Ci l D yX4_readParts cX4_readParts 5 (some .boolean) 7 160 τ σ [.ref a0, .int x1] (fun r σ1 => q_S md_X4_readParts_L6 τ σ σ1 ∧ (q_r r 0 1) ∧ ((r.toInt, fx_N σ1) = f_X4_readParts_L6 (fx_N σ) a0 x1.toInt)) := by
  refine q_meti rfl (Nat.le_of_ble_eq_true rfl) (fun X hG hE => ?_)
  show q_O X 0 0 τ σ 0 [(0, .ref a0), (1, .int x1)] []
  have hS0 : q_S md_X4_readParts_L6 τ σ σ := q_S.rf hI
  obtain ⟨Fv, hF⟩ : ∃ z, fx_eq z (f_X4_readParts_L6 (fx_N σ) a0 x1.toInt) := ⟨_, fx_rf⟩
  have hF0 := hF
  unfold f_X4_readParts_L6 at hF
  replace hF := fx_R hF ht rfl
  refine q_aload_n (pc := 0) hG dX4_readParts_0 0 rfl ?_
  refine q_iload_n (pc := 1) hG dX4_readParts_1 1 rfl ?_
  refine q_cVi (pc := 2) [.int x1] [] hG (c_X4_readPart_L6 τ σ a0 x1 hI tA0 rA1 at1 ht Tt) my_X4_readPart mv_X4_readPart w361 dX4_readParts_2 tA0 (by decide) rfl rfl (Nat.le_of_ble_eq_true rfl) (by decide) (fun v2 s2 p2 => ?_)
  have w2 := hS0.trans p2.1 rfl
  replace hF := fx_C hF p2.2.2
  refine q_istore_n (pc := 5) [(2, .int v2), (0, .ref a0), (1, .int x1)] hG dX4_readParts_5 (by decide) rfl ?_
  refine q_iconst (pc := 6) hG dX4_readParts_6 ki_0 ?_
  refine q_istore_n (pc := 7) [(3, .int 0), (2, .int v2), (0, .ref a0), (1, .int x1)] hG dX4_readParts_7 (by decide) rfl ?_
  have J8 : ∀ (n8 : Nat) (p8_2 : Int32) (p8_3 : Int32) (σ8 : q_V), (q_r p8_2 0 1) → (q_r p8_3 0 240) → (q_S md_X4_readParts_L6 τ σ σ8) → (fx_eq Fv (kL_X4_readParts_L6_8 a0 x1.toInt n8 p8_2.toInt p8_3.toInt (fx_N σ8))) → ((240 - p8_3.toInt).toNat < n8) → q_O X 0 0 τ σ8 8 [(0, .ref a0), (1, .int x1), (2, .int p8_2), (3, .int p8_3)] [] := by
    intro n8
    induction n8 with
    | zero => intro p8_2 p8_3 σ8 r8_2 r8_3 hS8 hF hm8; exact absurd hm8 (Nat.not_lt_zero _)
    | succ n8 ih8 =>
      intro p8_2 p8_3 σ8 r8_2 r8_3 hS8 hF hm8
      replace hF := (show fx_eq Fv (kB_X4_readParts_L6_8 (kL_X4_readParts_L6_8 a0 x1.toInt n8) a0 x1.toInt p8_2.toInt p8_3.toInt (fx_N σ8)) from hF)
      unfold kB_X4_readParts_L6_8 at hF
      refine q_iload_n (pc := 8) hG dX4_readParts_8 3 rfl ?_
      refine q_sipush (pc := 9) hG dX4_readParts_9 ks_240 ?_
      refine q_icmp_ge (pc := 12) hG 71 dX4_readParts_12 rfl ?_ ?_
      · intro c12
        replace hF := fx_lt2 hF rfl tl_240 c12
        refine q_iload_n (pc := 71) hG dX4_readParts_71 2 rfl ?_
        exact q_zrt hG hE dX4_readParts_72 r8_2 ⟨hS8, r8_2, (fx_end hF hF0)⟩
      intro c12
      replace hF := fx_lt1 hF rfl tl_240 c12
      refine q_iload_n (pc := 15) hG dX4_readParts_15 2 rfl ?_
      refine q_if_eq (pc := 16) hG 71 dX4_readParts_16 rfl ?_ ?_
      · intro c16
        replace hF := fx_eq1 hF rfl rfl c16
        refine q_iload_n (pc := 71) hG dX4_readParts_71 2 rfl ?_
        have r_1 := q_zeq c16
        exact q_zrt hG hE dX4_readParts_72 (q_r.mono r_1 (by decide)) ⟨hS8, (q_r.mono r_1 (by decide)), (fx_end hF hF0)⟩
      intro c16
      replace hF := fx_eq2 hF rfl rfl c16
      refine q_aload_n (pc := 19) hG dX4_readParts_19 0 rfl ?_
      refine q_pV (pc := 20) [] [] hG (c_X4_peek τ σ8 a0 hS8.1 tA0 at1 (hS8.same tA0 rfl ht) Tt) my_X4_peek mv_X4_peek w316 dX4_readParts_20 tA0 (by decide) rfl rfl (Nat.le_of_ble_eq_true rfl) (by decide) (fun v20 p20 => ?_)
      replace hF := fx_E hF p20.2
      refine q_bipush (pc := 23) hG dX4_readParts_23 kb_124 ?_
      refine q_icmp_ne (pc := 25) hG 71 dX4_readParts_25 rfl ?_ ?_
      · intro c25
        replace hF := fx_eq2 hF rfl tl_124 c25
        refine q_iload_n (pc := 71) hG dX4_readParts_71 2 rfl ?_
        have r_2 := q_neL (c := 1) r8_2 c16 (by decide)
        exact q_zrt hG hE dX4_readParts_72 (q_r.mono r_2 (by decide)) ⟨hS8, (q_r.mono r_2 (by decide)), (fx_end hF hF0)⟩
      intro c25
      replace hF := fx_eq1 hF rfl tl_124 c25
      refine q_aload_n (pc := 28) hG dX4_readParts_28 0 rfl ?_
      refine q_dup (pc := 29) hG dX4_readParts_29 rfl ?_
      refine q_getI (pc := 30) hG fl_X4_22 dX4_readParts_30 hS8.1 tA0 ff_4_2 (fun v30 f30 g30 => ?_)
      replace hF := fx_I hF f30 rfl
      refine q_iconst (pc := 33) hG dX4_readParts_33 ki_1 ?_
      refine q_iadd (pc := 34) hG dX4_readParts_34 (fun v34 e34 => ?_)
      replace hF := fx_B_add hF rfl tl_1 e34
      refine q_putI (pc := 35) hG fl_X4_22 dX4_readParts_35 hS8 tA0 ff_4_2 (q_r_any v34) (by decide) rfl (fun s35 u35 w35 => ?_)
      replace hF := fx_P hF u35 rfl rfl
      have m35 : s35 a0 2 = .int v34 := by rw [u35]; exact q_up_same
      refine q_aload_n (pc := 38) hG dX4_readParts_38 0 rfl ?_
      refine q_getR (pc := 39) (k2 := 3) (n2 := 1) hG fl_X4_31 dX4_readParts_39 w35.1 tA0 ff_4_4 (fun b39 f39 T39 => ?_)
      replace hF := fx_R hF f39 rfl
      have f_3 := (w35.2 _ _ _ _ tA0 rfl).symm.trans f39
      refine q_bipush (pc := 42) hG dX4_readParts_42 kb_124 ?_
      refine q_iconst (pc := 44) hG dX4_readParts_44 ki_0 ?_
      refine q_cVi (pc := 45) [.int 124, .int 0] [] hG (c_X3_add τ s35 b39 124 0 w35.1 T39) my_X3_add mv_X3_add w344 dX4_readParts_45 T39 (by decide) rfl rfl (Nat.le_of_ble_eq_true rfl) (by decide) (fun v45 s45 p45 => ?_)
      have w45 := w35.trans p45.1 rfl
      have fq45 := p45.2.2
      rewrite [tl_0, tl_124] at fq45
      replace hF := fx_C hF fq45
      refine q_istore (pc := 48) [(4, .int v45), (0, .ref a0), (1, .int x1), (2, .int p8_2), (3, .int p8_3)] hG dX4_readParts_48 (by decide) rfl ?_
      refine q_aload_n (pc := 50) hG dX4_readParts_50 1 rfl ?_
      refine q_iload_n (pc := 51) hG dX4_readParts_51 2 rfl ?_
      refine q_cVi (pc := 52) [.int x1] [] hG (c_X4_readPart_L6 τ s45 a0 x1 w45.1 tA0 rA1 at1 (w45.same tA0 rfl ht) Tt) my_X4_readPart mv_X4_readPart w361 dX4_readParts_52 tA0 (by decide) rfl rfl (Nat.le_of_ble_eq_true rfl) (by decide) (fun v52 s52 p52 => ?_)
      have w52 := w45.trans p52.1 rfl
      replace hF := fx_C hF p52.2.2
      refine q_istore_n (pc := 55) [(2, .int v52), (4, .int v45), (0, .ref a0), (1, .int x1), (3, .int p8_3)] hG dX4_readParts_55 (by decide) rfl ?_
      refine q_aload_n (pc := 56) hG dX4_readParts_56 2 rfl ?_
      refine q_getV (pc := 57) (v := .ref b39) hG fl_X4_31 dX4_readParts_57 tA0 (w52.same tA0 rfl f_3) ?_
      refine q_iload (pc := 60) hG dX4_readParts_60 1 rfl ?_
      refine q_cVv (pc := 62) [.int v45] [] hG (c_X3_leadHere τ s52 b39 v45 w52.1 T39) my_X3_leadHere mv_X3_leadHere w367 dX4_readParts_62 T39 (by decide) rfl rfl (Nat.le_of_ble_eq_true rfl) (by decide) (fun s62 p62 => ?_)
      have w62 := w52.trans p62.1 rfl
      replace hF := fx_S hF p62.2
      obtain ⟨v65, e65⟩ : ∃ z : Int32, z = p8_3 + Int32.ofInt 1 := ⟨_, rfl⟩
      have r_4 := q_rlt r8_3 rl_240 c12 239 (by decide)
      have h65 := q_incN (lo := 1) (hi := 240) r_4 (by decide) (by decide) e65
      replace hF := fx_add hF rfl rfl h65.1
      refine q_iinc (pc := 65) [(3, .int v65), (2, .int v52), (4, .int v45), (0, .ref a0), (1, .int x1)] hG dX4_readParts_65 4 rfl e65 (by decide) rfl ?_
      refine q_goto (pc := 68) 8 hG dX4_readParts_68 rfl ?_
      refine q_lv [3, 4, 1, 0] rfl ?_
      exact ih8 v52 v65 s62 p52.2.1 (q_r.mono h65.2 (by decide)) w62 hF (q_measU hm8 (by have o0 := c12; have o1 := h65.1; have o2 := r_4; have o3 := h65.2; have l4 := tl_240; unfold q_r at o2 o3; omega) (h65.2).2)
  refine q_lv [2, 3, 1, 0] rfl ?_
  exact J8 ((240 - (0 : Int32).toInt).toNat + 1) v2 0 s2 p2.2.1 (q_r.mono rl_0 (by decide)) w2 (by rw [tl_0]; exact hF) (Nat.lt_succ_self _)
def md_X4_readPiece_L5 : List (Nat × Nat) := [(3, 1), (3, 2), (4, 2), (4, 3), (112, 0), (113, 0)]
set_option maxRecDepth 100000 in
set_option maxHeartbeats 4000000 in
theorem c_X4_readPiece_L5 {l : Launch} {D : q_D} (τ : q_T) (σ : q_V) (a0 : Nat) (x1 : Int32) (hI : q_I τ σ) (tA0 : τ a0 = some (4, 1)) (rA1 : q_r x1 5 5) (at1 : Nat) (ht : σ a0 0 = .ref at1) (Tt : τ at1 = some (110, 260)) : q_Ci l D yX4_readPiece cX4_readPiece 3 (some .boolean) 8 184 τ σ [.ref a0, .int x1] (fun r σ1 => q_S md_X4_readPiece_L5 τ σ σ1 ∧ (q_r r 0 1) ∧ ((r.toInt, fx_N σ1) = f_X4_readPiece_L5 (fx_N σ) a0 x1.toInt)) := by
  refine q_meti rfl (Nat.le_of_ble_eq_true rfl) (fun X hG hE => ?_)
  show q_O X 0 0 τ σ 0 [(0, .ref a0), (1, .int x1)] []
  have hS0 : q_S md_X4_readPiece_L5 τ σ σ := q_S.rf hI
  obtain ⟨Fv, hF⟩ : ∃ z, fx_eq z (f_X4_readPiece_L5 (fx_N σ) a0 x1.toInt) := ⟨_, fx_rf⟩
  have hF0 := hF
  unfold f_X4_readPiece_L5 at hF
  replace hF := fx_R hF ht rfl
  refine q_aload_n (pc := 0) hG dX4_readPiece_0 0 rfl ?_
  refine q_pV (pc := 1) [] [] hG (c_X4_peek τ σ a0 hI tA0 at1 ht Tt) my_X4_peek mv_X4_peek w316 dX4_readPiece_1 tA0 (by decide) rfl rfl (Nat.le_of_ble_eq_true rfl) (by decide) (fun v1 p1 => ?_)
  replace hF := fx_E hF p1.2
  refine q_bipush (pc := 4) hG dX4_readPiece_4 kb_33 ?_
  refine q_icmp_ne (pc := 6) hG 42 dX4_readPiece_6 rfl ?_ ?_
  · intro c6
    replace hF := fx_eq2 hF rfl tl_33 c6
    refine q_aload_n (pc := 42) hG dX4_readPiece_42 0 rfl ?_
    refine q_pV (pc := 43) [] [] hG (c_X4_peek τ σ a0 hI tA0 at1 ht Tt) my_X4_peek mv_X4_peek w316 dX4_readPiece_43 tA0 (by decide) rfl rfl (Nat.le_of_ble_eq_true rfl) (by decide) (fun v43 p43 => ?_)
    replace hF := fx_E hF p43.2
    refine q_bipush (pc := 46) hG dX4_readPiece_46 kb_40 ?_
    refine q_icmp_ne (pc := 48) hG 84 dX4_readPiece_48 rfl ?_ ?_
    · intro c48
      replace hF := fx_eq2 hF rfl tl_40 c48
      refine q_aload_n (pc := 84) hG dX4_readPiece_84 0 rfl ?_
      refine q_iload_n (pc := 85) hG dX4_readPiece_85 1 rfl ?_
      refine q_cVi (pc := 86) [.int x1] [] hG (c_X4_readSum_L5 τ σ a0 x1 hI tA0 rA1 at1 ht Tt) my_X4_readSum mv_X4_readSum w326 dX4_readPiece_86 tA0 (by decide) rfl rfl (Nat.le_of_ble_eq_true rfl) (by decide) (fun v86 s86 p86 => ?_)
      have w86 := hS0.trans p86.1 rfl
      replace hF := fx_C hF p86.2.2
      refine q_if_ne (pc := 89) hG 94 dX4_readPiece_89 rfl ?_ ?_
      · intro c89
        replace hF := fx_eq2 hF rfl rfl c89
        refine q_aload_n (pc := 94) hG dX4_readPiece_94 0 rfl ?_
        refine q_pV (pc := 95) [] [] hG (c_X4_peek τ s86 a0 w86.1 tA0 at1 (w86.same tA0 rfl ht) Tt) my_X4_peek mv_X4_peek w316 dX4_readPiece_95 tA0 (by decide) rfl rfl (Nat.le_of_ble_eq_true rfl) (by decide) (fun v95 p95 => ?_)
        replace hF := fx_E hF p95.2
        refine q_istore_n (pc := 98) [(2, .int v95), (0, .ref a0), (1, .int x1)] hG dX4_readPiece_98 (by decide) rfl ?_
        refine q_iload_n (pc := 99) hG dX4_readPiece_99 0 rfl ?_
        refine q_bipush (pc := 100) hG dX4_readPiece_100 kb_60 ?_
        have J123 : (fx_eq Fv (kJ_X4_readPiece_L5_123 (fx_N s86) a0 x1.toInt v95.toInt)) → q_O X 0 0 τ s86 123 [(0, .ref a0), (1, .int x1), (2, .int v95)] [] := by
          intro hF
          unfold kJ_X4_readPiece_L5_123 at hF
          refine q_aload_n (pc := 123) hG dX4_readPiece_123 0 rfl ?_
          refine q_dup (pc := 124) hG dX4_readPiece_124 rfl ?_
          refine q_getI (pc := 125) hG fl_X4_22 dX4_readPiece_125 w86.1 tA0 ff_4_2 (fun v125 f125 g125 => ?_)
          replace hF := fx_I hF f125 rfl
          refine q_iconst (pc := 128) hG dX4_readPiece_128 ki_1 ?_
          refine q_iadd (pc := 129) hG dX4_readPiece_129 (fun v129 e129 => ?_)
          replace hF := fx_B_add hF rfl tl_1 e129
          refine q_putI (pc := 130) hG fl_X4_22 dX4_readPiece_130 w86 tA0 ff_4_2 (q_r_any v129) (by decide) rfl (fun s130 u130 w130 => ?_)
          replace hF := fx_P hF u130 rfl rfl
          have m130 : s130 a0 2 = .int v129 := by rw [u130]; exact q_up_same
          refine q_aload_n (pc := 133) hG dX4_readPiece_133 0 rfl ?_
          refine q_iload_n (pc := 134) hG dX4_readPiece_134 1 rfl ?_
          refine q_cVi (pc := 135) [.int x1] [] hG (c_X4_readSum_L5 τ s130 a0 x1 w130.1 tA0 rA1 at1 (w130.same tA0 rfl ht) Tt) my_X4_readSum mv_X4_readSum w326 dX4_readPiece_135 tA0 (by decide) rfl rfl (Nat.le_of_ble_eq_true rfl) (by decide) (fun v135 s135 p135 => ?_)
          have w135 := w130.trans p135.1 rfl
          replace hF := fx_C hF p135.2.2
          refine q_if_ne (pc := 138) hG 143 dX4_readPiece_138 rfl ?_ ?_
          · intro c138
            replace hF := fx_eq2 hF rfl rfl c138
            refine q_aload_n (pc := 143) hG dX4_readPiece_143 0 rfl ?_
            refine q_getR (pc := 144) (k2 := 3) (n2 := 1) hG fl_X4_31 dX4_readPiece_144 w135.1 tA0 ff_4_4 (fun b144 f144 T144 => ?_)
            replace hF := fx_R hF f144 rfl
            have f_1 := (w135.2 _ _ _ _ tA0 rfl).symm.trans f144
            refine q_iload_n (pc := 147) hG dX4_readPiece_147 2 rfl ?_
            refine q_iconst (pc := 148) hG dX4_readPiece_148 ki_0 ?_
            refine q_cVi (pc := 149) [.int v95, .int 0] [] hG (c_X3_add τ s135 b144 v95 0 w135.1 T144) my_X3_add mv_X3_add w344 dX4_readPiece_149 T144 (by decide) rfl rfl (Nat.le_of_ble_eq_true rfl) (by decide) (fun v149 s149 p149 => ?_)
            have w149 := w135.trans p149.1 rfl
            have fq149 := p149.2.2
            rewrite [tl_0] at fq149
            replace hF := fx_C hF fq149
            refine q_pop (pc := 152) hG dX4_readPiece_152 rfl ?_
            refine q_iconst (pc := 153) hG dX4_readPiece_153 ki_1 ?_
            exact q_zrt hG hE dX4_readPiece_154 (q_r.mono rl_1 (by decide)) ⟨w149, (q_r.mono rl_1 (by decide)), (by rw [tl_1]; exact fx_end hF hF0)⟩
          intro c138
          replace hF := fx_eq1 hF rfl rfl c138
          refine q_iconst (pc := 141) hG dX4_readPiece_141 ki_0 ?_
          exact q_zrt hG hE dX4_readPiece_142 (q_r.mono rl_0 (by decide)) ⟨w135, (q_r.mono rl_0 (by decide)), (by rw [tl_0]; exact fx_end hF hF0)⟩
        refine q_icmp_eq (pc := 102) hG 123 dX4_readPiece_102 rfl ?_ ?_
        · intro c102
          replace hF := fx_eq1 hF rfl tl_60 c102
          refine q_lv [1, 2, 0] rfl ?_
          exact J123 hF
        intro c102
        replace hF := fx_eq2 hF rfl tl_60 c102
        refine q_iload_n (pc := 105) hG dX4_readPiece_105 0 rfl ?_
        refine q_bipush (pc := 106) hG dX4_readPiece_106 kb_62 ?_
        refine q_icmp_eq (pc := 108) hG 123 dX4_readPiece_108 rfl ?_ ?_
        · intro c108
          replace hF := fx_eq1 hF rfl tl_62 c108
          refine q_lv [1, 2, 0] rfl ?_
          exact J123 hF
        intro c108
        replace hF := fx_eq2 hF rfl tl_62 c108
        refine q_iload_n (pc := 111) hG dX4_readPiece_111 0 rfl ?_
        refine q_bipush (pc := 112) hG dX4_readPiece_112 kb_61 ?_
        refine q_icmp_eq (pc := 114) hG 123 dX4_readPiece_114 rfl ?_ ?_
        · intro c114
          replace hF := fx_eq1 hF rfl tl_61 c114
          refine q_lv [1, 2, 0] rfl ?_
          exact J123 hF
        intro c114
        replace hF := fx_eq2 hF rfl tl_61 c114
        refine q_aload_n (pc := 117) hG dX4_readPiece_117 1 rfl ?_
        refine q_iconst (pc := 118) hG dX4_readPiece_118 ki_1 ?_
        refine q_cVi (pc := 119) [.int 1] [] hG (c_X4_fail τ s86 a0 1 w86.1 tA0) my_X4_fail mv_X4_fail w319 dX4_readPiece_119 tA0 (by decide) rfl rfl (Nat.le_of_ble_eq_true rfl) (by decide) (fun v119 s119 p119 => ?_)
        have w119 := w86.trans p119.1 rfl
        have fq119 := p119.2.2
        rewrite [tl_1] at fq119
        replace hF := fx_C hF fq119
        exact q_zrt hG hE dX4_readPiece_122 (q_r.mono p119.2.1 (by decide)) ⟨w119, (q_r.mono p119.2.1 (by decide)), (fx_end hF hF0)⟩
      intro c89
      replace hF := fx_eq1 hF rfl rfl c89
      refine q_iconst (pc := 92) hG dX4_readPiece_92 ki_0 ?_
      exact q_zrt hG hE dX4_readPiece_93 (q_r.mono rl_0 (by decide)) ⟨w86, (q_r.mono rl_0 (by decide)), (by rw [tl_0]; exact fx_end hF hF0)⟩
    intro c48
    replace hF := fx_eq1 hF rfl tl_40 c48
    refine q_aload_n (pc := 51) hG dX4_readPiece_51 0 rfl ?_
    refine q_iload_n (pc := 52) hG dX4_readPiece_52 1 rfl ?_
    refine q_cVi (pc := 53) [.int x1] [] hG (c_X4_mayOpen τ σ a0 x1 hI tA0) my_X4_mayOpen mv_X4_mayOpen w335 dX4_readPiece_53 tA0 (by decide) rfl rfl (Nat.le_of_ble_eq_true rfl) (by decide) (fun v53 s53 p53 => ?_)
    have w53 := hS0.trans p53.1 rfl
    replace hF := fx_C hF p53.2.2.1
    refine q_if_eq (pc := 56) hG 82 dX4_readPiece_56 rfl ?_ ?_
    · intro c56
      replace hF := fx_eq1 hF rfl rfl c56
      refine q_iconst (pc := 82) hG dX4_readPiece_82 ki_0 ?_
      exact q_zrt hG hE dX4_readPiece_83 (q_r.mono rl_0 (by decide)) ⟨w53, (q_r.mono rl_0 (by decide)), (by rw [tl_0]; exact fx_end hF hF0)⟩
    intro c56
    have g_2 := p53.2.2.2 (q_one p53.2.1 c56)
    replace hF := fx_eq2 hF rfl rfl c56
    refine q_aload_n (pc := 59) hG dX4_readPiece_59 0 rfl ?_
    refine q_iload_n (pc := 60) hG dX4_readPiece_60 1 rfl ?_
    refine q_iconst (pc := 61) hG dX4_readPiece_61 ki_1 ?_
    refine q_iadd (pc := 62) hG dX4_readPiece_62 (fun v62 e62 => ?_)
    replace hF := fx_add hF rfl tl_1 (q_addN (lo := 6) (hi := 6) e62 rA1 rl_1 (by decide)).1
    have r_3 := (q_addN (lo := 6) (hi := 6) e62 rA1 rl_1 (by decide)).2
    refine q_cVi (pc := 63) [.int v62] [] hG (c_X4_readParts_L6 τ s53 a0 v62 w53.1 tA0 r_3 at1 (w53.same tA0 rfl ht) Tt) my_X4_readParts mv_X4_readParts w358 dX4_readPiece_63 tA0 (by decide) rfl rfl (Nat.le_of_ble_eq_true rfl) (by decide) (fun v63 s63 p63 => ?_)
    have w63 := w53.trans p63.1 rfl
    replace hF := fx_C hF p63.2.2
    refine q_if_eq (pc := 66) hG 82 dX4_readPiece_66 rfl ?_ ?_
    · intro c66
      replace hF := fx_eq1 hF rfl rfl c66
      refine q_iconst (pc := 82) hG dX4_readPiece_82 ki_0 ?_
      exact q_zrt hG hE dX4_readPiece_83 (q_r.mono rl_0 (by decide)) ⟨w63, (q_r.mono rl_0 (by decide)), (by rw [tl_0]; exact fx_end hF hF0)⟩
    intro c66
    replace hF := fx_eq2 hF rfl rfl c66
    refine q_aload_n (pc := 69) hG dX4_readPiece_69 0 rfl ?_
    refine q_bipush (pc := 70) hG dX4_readPiece_70 kb_41 ?_
    refine q_cVi (pc := 72) [.int 41] [] hG (c_X4_expect τ s63 a0 41 w63.1 tA0 at1 (w63.same tA0 rfl ht) Tt) my_X4_expect mv_X4_expect w338 dX4_readPiece_72 tA0 (by decide) rfl rfl (Nat.le_of_ble_eq_true rfl) (by decide) (fun v72 s72 p72 => ?_)
    have w72 := w63.trans p72.1 rfl
    have fq72 := p72.2.2
    rewrite [tl_41] at fq72
    replace hF := fx_C hF fq72
    refine q_if_eq (pc := 75) hG 82 dX4_readPiece_75 rfl ?_ ?_
    · intro c75
      replace hF := fx_eq1 hF rfl rfl c75
      refine q_iconst (pc := 82) hG dX4_readPiece_82 ki_0 ?_
      exact q_zrt hG hE dX4_readPiece_83 (q_r.mono rl_0 (by decide)) ⟨w72, (q_r.mono rl_0 (by decide)), (by rw [tl_0]; exact fx_end hF hF0)⟩
    intro c75
    replace hF := fx_eq2 hF rfl rfl c75
    refine q_iconst (pc := 78) hG dX4_readPiece_78 ki_1 ?_
    refine q_goto (pc := 79) 83 hG dX4_readPiece_79 rfl ?_
    exact q_zrt hG hE dX4_readPiece_83 (q_r.mono rl_1 (by decide)) ⟨w72, (q_r.mono rl_1 (by decide)), (by rw [tl_1]; exact fx_end hF hF0)⟩
  intro c6
  replace hF := fx_eq1 hF rfl tl_33 c6
  refine q_aload_n (pc := 9) hG dX4_readPiece_9 0 rfl ?_
  refine q_iload_n (pc := 10) hG dX4_readPiece_10 1 rfl ?_
  refine q_cVi (pc := 11) [.int x1] [] hG (c_X4_mayOpen τ σ a0 x1 hI tA0) my_X4_mayOpen mv_X4_mayOpen w335 dX4_readPiece_11 tA0 (by decide) rfl rfl (Nat.le_of_ble_eq_true rfl) (by decide) (fun v11 s11 p11 => ?_)
  have w11 := hS0.trans p11.1 rfl
  replace hF := fx_C hF p11.2.2.1
  refine q_if_eq (pc := 14) hG 27 dX4_readPiece_14 rfl ?_ ?_
  · intro c14
    replace hF := fx_eq1 hF rfl rfl c14
    refine q_iconst (pc := 27) hG dX4_readPiece_27 ki_0 ?_
    exact q_zrt hG hE dX4_readPiece_28 (q_r.mono rl_0 (by decide)) ⟨w11, (q_r.mono rl_0 (by decide)), (by rw [tl_0]; exact fx_end hF hF0)⟩
  intro c14
  have g_4 := p11.2.2.2 (q_one p11.2.1 c14)
  replace hF := fx_eq2 hF rfl rfl c14
  refine q_aload_n (pc := 17) hG dX4_readPiece_17 0 rfl ?_
  refine q_iload_n (pc := 18) hG dX4_readPiece_18 1 rfl ?_
  refine q_iconst (pc := 19) hG dX4_readPiece_19 ki_1 ?_
  refine q_iadd (pc := 20) hG dX4_readPiece_20 (fun v20 e20 => ?_)
  replace hF := fx_add hF rfl tl_1 (q_addN (lo := 6) (hi := 6) e20 rA1 rl_1 (by decide)).1
  have r_5 := (q_addN (lo := 6) (hi := 6) e20 rA1 rl_1 (by decide)).2
  refine q_cVi (pc := 21) [.int v20] [] hG (c_X4_readPiece_L6 τ s11 a0 v20 w11.1 tA0 r_5 at1 (w11.same tA0 rfl ht) Tt) my_X4_readPiece mv_X4_readPiece w364 dX4_readPiece_21 tA0 (by decide) rfl rfl (Nat.le_of_ble_eq_true rfl) (by decide) (fun v21 s21 p21 => ?_)
  have w21 := w11.trans p21.1 rfl
  replace hF := fx_C hF p21.2.2
  refine q_if_ne (pc := 24) hG 29 dX4_readPiece_24 rfl ?_ ?_
  · intro c24
    replace hF := fx_eq2 hF rfl rfl c24
    refine q_aload_n (pc := 29) hG dX4_readPiece_29 0 rfl ?_
    refine q_getR (pc := 30) (k2 := 3) (n2 := 1) hG fl_X4_31 dX4_readPiece_30 w21.1 tA0 ff_4_4 (fun b30 f30 T30 => ?_)
    replace hF := fx_R hF f30 rfl
    have f_6 := (w21.2 _ _ _ _ tA0 rfl).symm.trans f30
    refine q_bipush (pc := 33) hG dX4_readPiece_33 kb_33 ?_
    refine q_iconst (pc := 35) hG dX4_readPiece_35 ki_0 ?_
    refine q_cVi (pc := 36) [.int 33, .int 0] [] hG (c_X3_add τ s21 b30 33 0 w21.1 T30) my_X3_add mv_X3_add w344 dX4_readPiece_36 T30 (by decide) rfl rfl (Nat.le_of_ble_eq_true rfl) (by decide) (fun v36 s36 p36 => ?_)
    have w36 := w21.trans p36.1 rfl
    have fq36 := p36.2.2
    rewrite [tl_0, tl_33] at fq36
    replace hF := fx_C hF fq36
    refine q_pop (pc := 39) hG dX4_readPiece_39 rfl ?_
    refine q_iconst (pc := 40) hG dX4_readPiece_40 ki_1 ?_
    exact q_zrt hG hE dX4_readPiece_41 (q_r.mono rl_1 (by decide)) ⟨w36, (q_r.mono rl_1 (by decide)), (by rw [tl_1]; exact fx_end hF hF0)⟩
  intro c24
  replace hF := fx_eq1 hF rfl rfl c24
  refine q_iconst (pc := 27) hG dX4_readPiece_27 ki_0 ?_
  exact q_zrt hG hE dX4_readPiece_28 (q_r.mono rl_0 (by decide)) ⟨w21, (q_r.mono rl_0 (by decide)), (by rw [tl_0]; exact fx_end hF hF0)⟩
def md_X4_readPart_L5 : List (Nat × Nat) := [(3, 1), (3, 2), (4, 2), (4, 3), (112, 0), (113, 0)]
set_option maxRecDepth 100000 in
set_option maxHeartbeats 4000000 in
theorem c_X4_readPart_L5 {l : Launch} {D : q_D} (τ : q_T) (σ : q_V) (a0 : Nat) (x1 : Int32) (hI : q_I τ σ) (tA0 : τ a0 = some (4, 1)) (rA1 : q_r x1 5 5) (at1 : Nat) (ht : σ a0 0 = .ref at1) (Tt : τ at1 = some (110, 260)) : q_Ci l D yX4_readPart cX4_readPart 5 (some .boolean) 9 206 τ σ [.ref a0, .int x1] (fun r σ1 => q_S md_X4_readPart_L5 τ σ σ1 ∧ (q_r r 0 1) ∧ ((r.toInt, fx_N σ1) = f_X4_readPart_L5 (fx_N σ) a0 x1.toInt)) := by
  refine q_meti rfl (Nat.le_of_ble_eq_true rfl) (fun X hG hE => ?_)
  show q_O X 0 0 τ σ 0 [(0, .ref a0), (1, .int x1)] []
  have hS0 : q_S md_X4_readPart_L5 τ σ σ := q_S.rf hI
  obtain ⟨Fv, hF⟩ : ∃ z, fx_eq z (f_X4_readPart_L5 (fx_N σ) a0 x1.toInt) := ⟨_, fx_rf⟩
  have hF0 := hF
  unfold f_X4_readPart_L5 at hF
  replace hF := fx_R hF ht rfl
  refine q_aload_n (pc := 0) hG dX4_readPart_0 0 rfl ?_
  refine q_iload_n (pc := 1) hG dX4_readPart_1 1 rfl ?_
  refine q_cVi (pc := 2) [.int x1] [] hG (c_X4_readPiece_L5 τ σ a0 x1 hI tA0 rA1 at1 ht Tt) my_X4_readPiece mv_X4_readPiece w364 dX4_readPart_2 tA0 (by decide) rfl rfl (Nat.le_of_ble_eq_true rfl) (by decide) (fun v2 s2 p2 => ?_)
  have w2 := hS0.trans p2.1 rfl
  replace hF := fx_C hF p2.2.2
  refine q_istore_n (pc := 5) [(2, .int v2), (0, .ref a0), (1, .int x1)] hG dX4_readPart_5 (by decide) rfl ?_
  refine q_iconst (pc := 6) hG dX4_readPart_6 ki_0 ?_
  refine q_istore_n (pc := 7) [(3, .int 0), (2, .int v2), (0, .ref a0), (1, .int x1)] hG dX4_readPart_7 (by decide) rfl ?_
  have J8 : ∀ (n8 : Nat) (p8_2 : Int32) (p8_3 : Int32) (σ8 : q_V), (q_r p8_2 0 1) → (q_r p8_3 0 240) → (q_S md_X4_readPart_L5 τ σ σ8) → (fx_eq Fv (kL_X4_readPart_L5_8 a0 x1.toInt n8 p8_2.toInt p8_3.toInt (fx_N σ8))) → ((240 - p8_3.toInt).toNat < n8) → q_O X 0 0 τ σ8 8 [(0, .ref a0), (1, .int x1), (2, .int p8_2), (3, .int p8_3)] [] := by
    intro n8
    induction n8 with
    | zero => intro p8_2 p8_3 σ8 r8_2 r8_3 hS8 hF hm8; exact absurd hm8 (Nat.not_lt_zero _)
    | succ n8 ih8 =>
      intro p8_2 p8_3 σ8 r8_2 r8_3 hS8 hF hm8
      replace hF := (show fx_eq Fv (kB_X4_readPart_L5_8 (kL_X4_readPart_L5_8 a0 x1.toInt n8) a0 x1.toInt p8_2.toInt p8_3.toInt (fx_N σ8)) from hF)
      unfold kB_X4_readPart_L5_8 at hF
      refine q_iload_n (pc := 8) hG dX4_readPart_8 3 rfl ?_
      refine q_sipush (pc := 9) hG dX4_readPart_9 ks_240 ?_
      refine q_icmp_ge (pc := 12) hG 71 dX4_readPart_12 rfl ?_ ?_
      · intro c12
        replace hF := fx_lt2 hF rfl tl_240 c12
        refine q_iload_n (pc := 71) hG dX4_readPart_71 2 rfl ?_
        exact q_zrt hG hE dX4_readPart_72 r8_2 ⟨hS8, r8_2, (fx_end hF hF0)⟩
      intro c12
      replace hF := fx_lt1 hF rfl tl_240 c12
      refine q_iload_n (pc := 15) hG dX4_readPart_15 2 rfl ?_
      refine q_if_eq (pc := 16) hG 71 dX4_readPart_16 rfl ?_ ?_
      · intro c16
        replace hF := fx_eq1 hF rfl rfl c16
        refine q_iload_n (pc := 71) hG dX4_readPart_71 2 rfl ?_
        have r_1 := q_zeq c16
        exact q_zrt hG hE dX4_readPart_72 (q_r.mono r_1 (by decide)) ⟨hS8, (q_r.mono r_1 (by decide)), (fx_end hF hF0)⟩
      intro c16
      replace hF := fx_eq2 hF rfl rfl c16
      refine q_aload_n (pc := 19) hG dX4_readPart_19 0 rfl ?_
      refine q_pV (pc := 20) [] [] hG (c_X4_peek τ σ8 a0 hS8.1 tA0 at1 (hS8.same tA0 rfl ht) Tt) my_X4_peek mv_X4_peek w316 dX4_readPart_20 tA0 (by decide) rfl rfl (Nat.le_of_ble_eq_true rfl) (by decide) (fun v20 p20 => ?_)
      replace hF := fx_E hF p20.2
      refine q_bipush (pc := 23) hG dX4_readPart_23 kb_38 ?_
      refine q_icmp_ne (pc := 25) hG 71 dX4_readPart_25 rfl ?_ ?_
      · intro c25
        replace hF := fx_eq2 hF rfl tl_38 c25
        refine q_iload_n (pc := 71) hG dX4_readPart_71 2 rfl ?_
        have r_2 := q_neL (c := 1) r8_2 c16 (by decide)
        exact q_zrt hG hE dX4_readPart_72 (q_r.mono r_2 (by decide)) ⟨hS8, (q_r.mono r_2 (by decide)), (fx_end hF hF0)⟩
      intro c25
      replace hF := fx_eq1 hF rfl tl_38 c25
      refine q_aload_n (pc := 28) hG dX4_readPart_28 0 rfl ?_
      refine q_dup (pc := 29) hG dX4_readPart_29 rfl ?_
      refine q_getI (pc := 30) hG fl_X4_22 dX4_readPart_30 hS8.1 tA0 ff_4_2 (fun v30 f30 g30 => ?_)
      replace hF := fx_I hF f30 rfl
      refine q_iconst (pc := 33) hG dX4_readPart_33 ki_1 ?_
      refine q_iadd (pc := 34) hG dX4_readPart_34 (fun v34 e34 => ?_)
      replace hF := fx_B_add hF rfl tl_1 e34
      refine q_putI (pc := 35) hG fl_X4_22 dX4_readPart_35 hS8 tA0 ff_4_2 (q_r_any v34) (by decide) rfl (fun s35 u35 w35 => ?_)
      replace hF := fx_P hF u35 rfl rfl
      have m35 : s35 a0 2 = .int v34 := by rw [u35]; exact q_up_same
      refine q_aload_n (pc := 38) hG dX4_readPart_38 0 rfl ?_
      refine q_getR (pc := 39) (k2 := 3) (n2 := 1) hG fl_X4_31 dX4_readPart_39 w35.1 tA0 ff_4_4 (fun b39 f39 T39 => ?_)
      replace hF := fx_R hF f39 rfl
      have f_3 := (w35.2 _ _ _ _ tA0 rfl).symm.trans f39
      refine q_bipush (pc := 42) hG dX4_readPart_42 kb_38 ?_
      refine q_iconst (pc := 44) hG dX4_readPart_44 ki_0 ?_
      refine q_cVi (pc := 45) [.int 38, .int 0] [] hG (c_X3_add τ s35 b39 38 0 w35.1 T39) my_X3_add mv_X3_add w344 dX4_readPart_45 T39 (by decide) rfl rfl (Nat.le_of_ble_eq_true rfl) (by decide) (fun v45 s45 p45 => ?_)
      have w45 := w35.trans p45.1 rfl
      have fq45 := p45.2.2
      rewrite [tl_0, tl_38] at fq45
      replace hF := fx_C hF fq45
      refine q_istore (pc := 48) [(4, .int v45), (0, .ref a0), (1, .int x1), (2, .int p8_2), (3, .int p8_3)] hG dX4_readPart_48 (by decide) rfl ?_
      refine q_aload_n (pc := 50) hG dX4_readPart_50 1 rfl ?_
      refine q_iload_n (pc := 51) hG dX4_readPart_51 2 rfl ?_
      refine q_cVi (pc := 52) [.int x1] [] hG (c_X4_readPiece_L5 τ s45 a0 x1 w45.1 tA0 rA1 at1 (w45.same tA0 rfl ht) Tt) my_X4_readPiece mv_X4_readPiece w364 dX4_readPart_52 tA0 (by decide) rfl rfl (Nat.le_of_ble_eq_true rfl) (by decide) (fun v52 s52 p52 => ?_)
      have w52 := w45.trans p52.1 rfl
      replace hF := fx_C hF p52.2.2
      refine q_istore_n (pc := 55) [(2, .int v52), (4, .int v45), (0, .ref a0), (1, .int x1), (3, .int p8_3)] hG dX4_readPart_55 (by decide) rfl ?_
      refine q_aload_n (pc := 56) hG dX4_readPart_56 2 rfl ?_
      refine q_getV (pc := 57) (v := .ref b39) hG fl_X4_31 dX4_readPart_57 tA0 (w52.same tA0 rfl f_3) ?_
      refine q_iload (pc := 60) hG dX4_readPart_60 1 rfl ?_
      refine q_cVv (pc := 62) [.int v45] [] hG (c_X3_leadHere τ s52 b39 v45 w52.1 T39) my_X3_leadHere mv_X3_leadHere w367 dX4_readPart_62 T39 (by decide) rfl rfl (Nat.le_of_ble_eq_true rfl) (by decide) (fun s62 p62 => ?_)
      have w62 := w52.trans p62.1 rfl
      replace hF := fx_S hF p62.2
      obtain ⟨v65, e65⟩ : ∃ z : Int32, z = p8_3 + Int32.ofInt 1 := ⟨_, rfl⟩
      have r_4 := q_rlt r8_3 rl_240 c12 239 (by decide)
      have h65 := q_incN (lo := 1) (hi := 240) r_4 (by decide) (by decide) e65
      replace hF := fx_add hF rfl rfl h65.1
      refine q_iinc (pc := 65) [(3, .int v65), (2, .int v52), (4, .int v45), (0, .ref a0), (1, .int x1)] hG dX4_readPart_65 4 rfl e65 (by decide) rfl ?_
      refine q_goto (pc := 68) 8 hG dX4_readPart_68 rfl ?_
      refine q_lv [3, 4, 1, 0] rfl ?_
      exact ih8 v52 v65 s62 p52.2.1 (q_r.mono h65.2 (by decide)) w62 hF (q_measU hm8 (by have o0 := c12; have o1 := h65.1; have o2 := r_4; have o3 := h65.2; have l4 := tl_240; unfold q_r at o2 o3; omega) (h65.2).2)
  refine q_lv [2, 3, 1, 0] rfl ?_
  exact J8 ((240 - (0 : Int32).toInt).toNat + 1) v2 0 s2 p2.2.1 (q_r.mono rl_0 (by decide)) w2 (by rw [tl_0]; exact hF) (Nat.lt_succ_self _)
def md_X4_readParts_L5 : List (Nat × Nat) := [(3, 1), (3, 2), (4, 2), (4, 3), (112, 0), (113, 0)]
set_option maxRecDepth 100000 in
set_option maxHeartbeats 4000000 in
theorem c_X4_readParts_L5 {l : Launch} {D : q_D} (τ : q_T) (σ : q_V) (a0 : Nat) (x1 : Int32) (hI : q_I τ σ) (tA0 : τ a0 = some (4, 1)) (rA1 : q_r x1 5 5) (at1 : Nat) (ht : σ a0 0 = .ref at1) (Tt : τ at1 = some (110, 260)) : q_Ci l D yX4_readParts cX4_readParts 5 (some .boolean) 10 230 τ σ [.ref a0, .int x1] (fun r σ1 => q_S md_X4_readParts_L5 τ σ σ1 ∧ (q_r r 0 1) ∧ ((r.toInt, fx_N σ1) = f_X4_readParts_L5 (fx_N σ) a0 x1.toInt)) := by
  refine q_meti rfl (Nat.le_of_ble_eq_true rfl) (fun X hG hE => ?_)
  show q_O X 0 0 τ σ 0 [(0, .ref a0), (1, .int x1)] []
  have hS0 : q_S md_X4_readParts_L5 τ σ σ := q_S.rf hI
  obtain ⟨Fv, hF⟩ : ∃ z, fx_eq z (f_X4_readParts_L5 (fx_N σ) a0 x1.toInt) := ⟨_, fx_rf⟩
  have hF0 := hF
  unfold f_X4_readParts_L5 at hF
  replace hF := fx_R hF ht rfl
  refine q_aload_n (pc := 0) hG dX4_readParts_0 0 rfl ?_
  refine q_iload_n (pc := 1) hG dX4_readParts_1 1 rfl ?_
  refine q_cVi (pc := 2) [.int x1] [] hG (c_X4_readPart_L5 τ σ a0 x1 hI tA0 rA1 at1 ht Tt) my_X4_readPart mv_X4_readPart w361 dX4_readParts_2 tA0 (by decide) rfl rfl (Nat.le_of_ble_eq_true rfl) (by decide) (fun v2 s2 p2 => ?_)
  have w2 := hS0.trans p2.1 rfl
  replace hF := fx_C hF p2.2.2
  refine q_istore_n (pc := 5) [(2, .int v2), (0, .ref a0), (1, .int x1)] hG dX4_readParts_5 (by decide) rfl ?_
  refine q_iconst (pc := 6) hG dX4_readParts_6 ki_0 ?_
  refine q_istore_n (pc := 7) [(3, .int 0), (2, .int v2), (0, .ref a0), (1, .int x1)] hG dX4_readParts_7 (by decide) rfl ?_
  have J8 : ∀ (n8 : Nat) (p8_2 : Int32) (p8_3 : Int32) (σ8 : q_V), (q_r p8_2 0 1) → (q_r p8_3 0 240) → (q_S md_X4_readParts_L5 τ σ σ8) → (fx_eq Fv (kL_X4_readParts_L5_8 a0 x1.toInt n8 p8_2.toInt p8_3.toInt (fx_N σ8))) → ((240 - p8_3.toInt).toNat < n8) → q_O X 0 0 τ σ8 8 [(0, .ref a0), (1, .int x1), (2, .int p8_2), (3, .int p8_3)] [] := by
    intro n8
    induction n8 with
    | zero => intro p8_2 p8_3 σ8 r8_2 r8_3 hS8 hF hm8; exact absurd hm8 (Nat.not_lt_zero _)
    | succ n8 ih8 =>
      intro p8_2 p8_3 σ8 r8_2 r8_3 hS8 hF hm8
      replace hF := (show fx_eq Fv (kB_X4_readParts_L5_8 (kL_X4_readParts_L5_8 a0 x1.toInt n8) a0 x1.toInt p8_2.toInt p8_3.toInt (fx_N σ8)) from hF)
      unfold kB_X4_readParts_L5_8 at hF
      refine q_iload_n (pc := 8) hG dX4_readParts_8 3 rfl ?_
      refine q_sipush (pc := 9) hG dX4_readParts_9 ks_240 ?_
      refine q_icmp_ge (pc := 12) hG 71 dX4_readParts_12 rfl ?_ ?_
      · intro c12
        replace hF := fx_lt2 hF rfl tl_240 c12
        refine q_iload_n (pc := 71) hG dX4_readParts_71 2 rfl ?_
        exact q_zrt hG hE dX4_readParts_72 r8_2 ⟨hS8, r8_2, (fx_end hF hF0)⟩
      intro c12
      replace hF := fx_lt1 hF rfl tl_240 c12
      refine q_iload_n (pc := 15) hG dX4_readParts_15 2 rfl ?_
      refine q_if_eq (pc := 16) hG 71 dX4_readParts_16 rfl ?_ ?_
      · intro c16
        replace hF := fx_eq1 hF rfl rfl c16
        refine q_iload_n (pc := 71) hG dX4_readParts_71 2 rfl ?_
        have r_1 := q_zeq c16
        exact q_zrt hG hE dX4_readParts_72 (q_r.mono r_1 (by decide)) ⟨hS8, (q_r.mono r_1 (by decide)), (fx_end hF hF0)⟩
      intro c16
      replace hF := fx_eq2 hF rfl rfl c16
      refine q_aload_n (pc := 19) hG dX4_readParts_19 0 rfl ?_
      refine q_pV (pc := 20) [] [] hG (c_X4_peek τ σ8 a0 hS8.1 tA0 at1 (hS8.same tA0 rfl ht) Tt) my_X4_peek mv_X4_peek w316 dX4_readParts_20 tA0 (by decide) rfl rfl (Nat.le_of_ble_eq_true rfl) (by decide) (fun v20 p20 => ?_)
      replace hF := fx_E hF p20.2
      refine q_bipush (pc := 23) hG dX4_readParts_23 kb_124 ?_
      refine q_icmp_ne (pc := 25) hG 71 dX4_readParts_25 rfl ?_ ?_
      · intro c25
        replace hF := fx_eq2 hF rfl tl_124 c25
        refine q_iload_n (pc := 71) hG dX4_readParts_71 2 rfl ?_
        have r_2 := q_neL (c := 1) r8_2 c16 (by decide)
        exact q_zrt hG hE dX4_readParts_72 (q_r.mono r_2 (by decide)) ⟨hS8, (q_r.mono r_2 (by decide)), (fx_end hF hF0)⟩
      intro c25
      replace hF := fx_eq1 hF rfl tl_124 c25
      refine q_aload_n (pc := 28) hG dX4_readParts_28 0 rfl ?_
      refine q_dup (pc := 29) hG dX4_readParts_29 rfl ?_
      refine q_getI (pc := 30) hG fl_X4_22 dX4_readParts_30 hS8.1 tA0 ff_4_2 (fun v30 f30 g30 => ?_)
      replace hF := fx_I hF f30 rfl
      refine q_iconst (pc := 33) hG dX4_readParts_33 ki_1 ?_
      refine q_iadd (pc := 34) hG dX4_readParts_34 (fun v34 e34 => ?_)
      replace hF := fx_B_add hF rfl tl_1 e34
      refine q_putI (pc := 35) hG fl_X4_22 dX4_readParts_35 hS8 tA0 ff_4_2 (q_r_any v34) (by decide) rfl (fun s35 u35 w35 => ?_)
      replace hF := fx_P hF u35 rfl rfl
      have m35 : s35 a0 2 = .int v34 := by rw [u35]; exact q_up_same
      refine q_aload_n (pc := 38) hG dX4_readParts_38 0 rfl ?_
      refine q_getR (pc := 39) (k2 := 3) (n2 := 1) hG fl_X4_31 dX4_readParts_39 w35.1 tA0 ff_4_4 (fun b39 f39 T39 => ?_)
      replace hF := fx_R hF f39 rfl
      have f_3 := (w35.2 _ _ _ _ tA0 rfl).symm.trans f39
      refine q_bipush (pc := 42) hG dX4_readParts_42 kb_124 ?_
      refine q_iconst (pc := 44) hG dX4_readParts_44 ki_0 ?_
      refine q_cVi (pc := 45) [.int 124, .int 0] [] hG (c_X3_add τ s35 b39 124 0 w35.1 T39) my_X3_add mv_X3_add w344 dX4_readParts_45 T39 (by decide) rfl rfl (Nat.le_of_ble_eq_true rfl) (by decide) (fun v45 s45 p45 => ?_)
      have w45 := w35.trans p45.1 rfl
      have fq45 := p45.2.2
      rewrite [tl_0, tl_124] at fq45
      replace hF := fx_C hF fq45
      refine q_istore (pc := 48) [(4, .int v45), (0, .ref a0), (1, .int x1), (2, .int p8_2), (3, .int p8_3)] hG dX4_readParts_48 (by decide) rfl ?_
      refine q_aload_n (pc := 50) hG dX4_readParts_50 1 rfl ?_
      refine q_iload_n (pc := 51) hG dX4_readParts_51 2 rfl ?_
      refine q_cVi (pc := 52) [.int x1] [] hG (c_X4_readPart_L5 τ s45 a0 x1 w45.1 tA0 rA1 at1 (w45.same tA0 rfl ht) Tt) my_X4_readPart mv_X4_readPart w361 dX4_readParts_52 tA0 (by decide) rfl rfl (Nat.le_of_ble_eq_true rfl) (by decide) (fun v52 s52 p52 => ?_)
      have w52 := w45.trans p52.1 rfl
      replace hF := fx_C hF p52.2.2
      refine q_istore_n (pc := 55) [(2, .int v52), (4, .int v45), (0, .ref a0), (1, .int x1), (3, .int p8_3)] hG dX4_readParts_55 (by decide) rfl ?_
      refine q_aload_n (pc := 56) hG dX4_readParts_56 2 rfl ?_
      refine q_getV (pc := 57) (v := .ref b39) hG fl_X4_31 dX4_readParts_57 tA0 (w52.same tA0 rfl f_3) ?_
      refine q_iload (pc := 60) hG dX4_readParts_60 1 rfl ?_
      refine q_cVv (pc := 62) [.int v45] [] hG (c_X3_leadHere τ s52 b39 v45 w52.1 T39) my_X3_leadHere mv_X3_leadHere w367 dX4_readParts_62 T39 (by decide) rfl rfl (Nat.le_of_ble_eq_true rfl) (by decide) (fun s62 p62 => ?_)
      have w62 := w52.trans p62.1 rfl
      replace hF := fx_S hF p62.2
      obtain ⟨v65, e65⟩ : ∃ z : Int32, z = p8_3 + Int32.ofInt 1 := ⟨_, rfl⟩
      have r_4 := q_rlt r8_3 rl_240 c12 239 (by decide)
      have h65 := q_incN (lo := 1) (hi := 240) r_4 (by decide) (by decide) e65
      replace hF := fx_add hF rfl rfl h65.1
      refine q_iinc (pc := 65) [(3, .int v65), (2, .int v52), (4, .int v45), (0, .ref a0), (1, .int x1)] hG dX4_readParts_65 4 rfl e65 (by decide) rfl ?_
      refine q_goto (pc := 68) 8 hG dX4_readParts_68 rfl ?_
      refine q_lv [3, 4, 1, 0] rfl ?_
      exact ih8 v52 v65 s62 p52.2.1 (q_r.mono h65.2 (by decide)) w62 hF (q_measU hm8 (by have o0 := c12; have o1 := h65.1; have o2 := r_4; have o3 := h65.2; have l4 := tl_240; unfold q_r at o2 o3; omega) (h65.2).2)
  refine q_lv [2, 3, 1, 0] rfl ?_
  exact J8 ((240 - (0 : Int32).toInt).toNat + 1) v2 0 s2 p2.2.1 (q_r.mono rl_0 (by decide)) w2 (by rw [tl_0]; exact hF) (Nat.lt_succ_self _)
def md_X4_readPiece_L4 : List (Nat × Nat) := [(3, 1), (3, 2), (4, 2), (4, 3), (112, 0), (113, 0)]
set_option maxRecDepth 100000 in
set_option maxHeartbeats 4000000 in
theorem c_X4_readPiece_L4 {l : Launch} {D : q_D} (τ : q_T) (σ : q_V) (a0 : Nat) (x1 : Int32) (hI : q_I τ σ) (tA0 : τ a0 = some (4, 1)) (rA1 : q_r x1 4 4) (at1 : Nat) (ht : σ a0 0 = .ref at1) (Tt : τ at1 = some (110, 260)) : q_Ci l D yX4_readPiece cX4_readPiece 3 (some .boolean) 11 254 τ σ [.ref a0, .int x1] (fun r σ1 => q_S md_X4_readPiece_L4 τ σ σ1 ∧ (q_r r 0 1) ∧ ((r.toInt, fx_N σ1) = f_X4_readPiece_L4 (fx_N σ) a0 x1.toInt)) := by
  refine q_meti rfl (Nat.le_of_ble_eq_true rfl) (fun X hG hE => ?_)
  show q_O X 0 0 τ σ 0 [(0, .ref a0), (1, .int x1)] []
  have hS0 : q_S md_X4_readPiece_L4 τ σ σ := q_S.rf hI
  obtain ⟨Fv, hF⟩ : ∃ z, fx_eq z (f_X4_readPiece_L4 (fx_N σ) a0 x1.toInt) := ⟨_, fx_rf⟩
  have hF0 := hF
  unfold f_X4_readPiece_L4 at hF
  replace hF := fx_R hF ht rfl
  refine q_aload_n (pc := 0) hG dX4_readPiece_0 0 rfl ?_
  refine q_pV (pc := 1) [] [] hG (c_X4_peek τ σ a0 hI tA0 at1 ht Tt) my_X4_peek mv_X4_peek w316 dX4_readPiece_1 tA0 (by decide) rfl rfl (Nat.le_of_ble_eq_true rfl) (by decide) (fun v1 p1 => ?_)
  replace hF := fx_E hF p1.2
  refine q_bipush (pc := 4) hG dX4_readPiece_4 kb_33 ?_
  refine q_icmp_ne (pc := 6) hG 42 dX4_readPiece_6 rfl ?_ ?_
  · intro c6
    replace hF := fx_eq2 hF rfl tl_33 c6
    refine q_aload_n (pc := 42) hG dX4_readPiece_42 0 rfl ?_
    refine q_pV (pc := 43) [] [] hG (c_X4_peek τ σ a0 hI tA0 at1 ht Tt) my_X4_peek mv_X4_peek w316 dX4_readPiece_43 tA0 (by decide) rfl rfl (Nat.le_of_ble_eq_true rfl) (by decide) (fun v43 p43 => ?_)
    replace hF := fx_E hF p43.2
    refine q_bipush (pc := 46) hG dX4_readPiece_46 kb_40 ?_
    refine q_icmp_ne (pc := 48) hG 84 dX4_readPiece_48 rfl ?_ ?_
    · intro c48
      replace hF := fx_eq2 hF rfl tl_40 c48
      refine q_aload_n (pc := 84) hG dX4_readPiece_84 0 rfl ?_
      refine q_iload_n (pc := 85) hG dX4_readPiece_85 1 rfl ?_
      refine q_cVi (pc := 86) [.int x1] [] hG (c_X4_readSum_L4 τ σ a0 x1 hI tA0 rA1 at1 ht Tt) my_X4_readSum mv_X4_readSum w326 dX4_readPiece_86 tA0 (by decide) rfl rfl (Nat.le_of_ble_eq_true rfl) (by decide) (fun v86 s86 p86 => ?_)
      have w86 := hS0.trans p86.1 rfl
      replace hF := fx_C hF p86.2.2
      refine q_if_ne (pc := 89) hG 94 dX4_readPiece_89 rfl ?_ ?_
      · intro c89
        replace hF := fx_eq2 hF rfl rfl c89
        refine q_aload_n (pc := 94) hG dX4_readPiece_94 0 rfl ?_
        refine q_pV (pc := 95) [] [] hG (c_X4_peek τ s86 a0 w86.1 tA0 at1 (w86.same tA0 rfl ht) Tt) my_X4_peek mv_X4_peek w316 dX4_readPiece_95 tA0 (by decide) rfl rfl (Nat.le_of_ble_eq_true rfl) (by decide) (fun v95 p95 => ?_)
        replace hF := fx_E hF p95.2
        refine q_istore_n (pc := 98) [(2, .int v95), (0, .ref a0), (1, .int x1)] hG dX4_readPiece_98 (by decide) rfl ?_
        refine q_iload_n (pc := 99) hG dX4_readPiece_99 0 rfl ?_
        refine q_bipush (pc := 100) hG dX4_readPiece_100 kb_60 ?_
        have J123 : (fx_eq Fv (kJ_X4_readPiece_L4_123 (fx_N s86) a0 x1.toInt v95.toInt)) → q_O X 0 0 τ s86 123 [(0, .ref a0), (1, .int x1), (2, .int v95)] [] := by
          intro hF
          unfold kJ_X4_readPiece_L4_123 at hF
          refine q_aload_n (pc := 123) hG dX4_readPiece_123 0 rfl ?_
          refine q_dup (pc := 124) hG dX4_readPiece_124 rfl ?_
          refine q_getI (pc := 125) hG fl_X4_22 dX4_readPiece_125 w86.1 tA0 ff_4_2 (fun v125 f125 g125 => ?_)
          replace hF := fx_I hF f125 rfl
          refine q_iconst (pc := 128) hG dX4_readPiece_128 ki_1 ?_
          refine q_iadd (pc := 129) hG dX4_readPiece_129 (fun v129 e129 => ?_)
          replace hF := fx_B_add hF rfl tl_1 e129
          refine q_putI (pc := 130) hG fl_X4_22 dX4_readPiece_130 w86 tA0 ff_4_2 (q_r_any v129) (by decide) rfl (fun s130 u130 w130 => ?_)
          replace hF := fx_P hF u130 rfl rfl
          have m130 : s130 a0 2 = .int v129 := by rw [u130]; exact q_up_same
          refine q_aload_n (pc := 133) hG dX4_readPiece_133 0 rfl ?_
          refine q_iload_n (pc := 134) hG dX4_readPiece_134 1 rfl ?_
          refine q_cVi (pc := 135) [.int x1] [] hG (c_X4_readSum_L4 τ s130 a0 x1 w130.1 tA0 rA1 at1 (w130.same tA0 rfl ht) Tt) my_X4_readSum mv_X4_readSum w326 dX4_readPiece_135 tA0 (by decide) rfl rfl (Nat.le_of_ble_eq_true rfl) (by decide) (fun v135 s135 p135 => ?_)
          have w135 := w130.trans p135.1 rfl
          replace hF := fx_C hF p135.2.2
          refine q_if_ne (pc := 138) hG 143 dX4_readPiece_138 rfl ?_ ?_
          · intro c138
            replace hF := fx_eq2 hF rfl rfl c138
            refine q_aload_n (pc := 143) hG dX4_readPiece_143 0 rfl ?_
            refine q_getR (pc := 144) (k2 := 3) (n2 := 1) hG fl_X4_31 dX4_readPiece_144 w135.1 tA0 ff_4_4 (fun b144 f144 T144 => ?_)
            replace hF := fx_R hF f144 rfl
            have f_1 := (w135.2 _ _ _ _ tA0 rfl).symm.trans f144
            refine q_iload_n (pc := 147) hG dX4_readPiece_147 2 rfl ?_
            refine q_iconst (pc := 148) hG dX4_readPiece_148 ki_0 ?_
            refine q_cVi (pc := 149) [.int v95, .int 0] [] hG (c_X3_add τ s135 b144 v95 0 w135.1 T144) my_X3_add mv_X3_add w344 dX4_readPiece_149 T144 (by decide) rfl rfl (Nat.le_of_ble_eq_true rfl) (by decide) (fun v149 s149 p149 => ?_)
            have w149 := w135.trans p149.1 rfl
            have fq149 := p149.2.2
            rewrite [tl_0] at fq149
            replace hF := fx_C hF fq149
            refine q_pop (pc := 152) hG dX4_readPiece_152 rfl ?_
            refine q_iconst (pc := 153) hG dX4_readPiece_153 ki_1 ?_
            exact q_zrt hG hE dX4_readPiece_154 (q_r.mono rl_1 (by decide)) ⟨w149, (q_r.mono rl_1 (by decide)), (by rw [tl_1]; exact fx_end hF hF0)⟩
          intro c138
          replace hF := fx_eq1 hF rfl rfl c138
          refine q_iconst (pc := 141) hG dX4_readPiece_141 ki_0 ?_
          exact q_zrt hG hE dX4_readPiece_142 (q_r.mono rl_0 (by decide)) ⟨w135, (q_r.mono rl_0 (by decide)), (by rw [tl_0]; exact fx_end hF hF0)⟩
        refine q_icmp_eq (pc := 102) hG 123 dX4_readPiece_102 rfl ?_ ?_
        · intro c102
          replace hF := fx_eq1 hF rfl tl_60 c102
          refine q_lv [1, 2, 0] rfl ?_
          exact J123 hF
        intro c102
        replace hF := fx_eq2 hF rfl tl_60 c102
        refine q_iload_n (pc := 105) hG dX4_readPiece_105 0 rfl ?_
        refine q_bipush (pc := 106) hG dX4_readPiece_106 kb_62 ?_
        refine q_icmp_eq (pc := 108) hG 123 dX4_readPiece_108 rfl ?_ ?_
        · intro c108
          replace hF := fx_eq1 hF rfl tl_62 c108
          refine q_lv [1, 2, 0] rfl ?_
          exact J123 hF
        intro c108
        replace hF := fx_eq2 hF rfl tl_62 c108
        refine q_iload_n (pc := 111) hG dX4_readPiece_111 0 rfl ?_
        refine q_bipush (pc := 112) hG dX4_readPiece_112 kb_61 ?_
        refine q_icmp_eq (pc := 114) hG 123 dX4_readPiece_114 rfl ?_ ?_
        · intro c114
          replace hF := fx_eq1 hF rfl tl_61 c114
          refine q_lv [1, 2, 0] rfl ?_
          exact J123 hF
        intro c114
        replace hF := fx_eq2 hF rfl tl_61 c114
        refine q_aload_n (pc := 117) hG dX4_readPiece_117 1 rfl ?_
        refine q_iconst (pc := 118) hG dX4_readPiece_118 ki_1 ?_
        refine q_cVi (pc := 119) [.int 1] [] hG (c_X4_fail τ s86 a0 1 w86.1 tA0) my_X4_fail mv_X4_fail w319 dX4_readPiece_119 tA0 (by decide) rfl rfl (Nat.le_of_ble_eq_true rfl) (by decide) (fun v119 s119 p119 => ?_)
        have w119 := w86.trans p119.1 rfl
        have fq119 := p119.2.2
        rewrite [tl_1] at fq119
        replace hF := fx_C hF fq119
        exact q_zrt hG hE dX4_readPiece_122 (q_r.mono p119.2.1 (by decide)) ⟨w119, (q_r.mono p119.2.1 (by decide)), (fx_end hF hF0)⟩
      intro c89
      replace hF := fx_eq1 hF rfl rfl c89
      refine q_iconst (pc := 92) hG dX4_readPiece_92 ki_0 ?_
      exact q_zrt hG hE dX4_readPiece_93 (q_r.mono rl_0 (by decide)) ⟨w86, (q_r.mono rl_0 (by decide)), (by rw [tl_0]; exact fx_end hF hF0)⟩
    intro c48
    replace hF := fx_eq1 hF rfl tl_40 c48
    refine q_aload_n (pc := 51) hG dX4_readPiece_51 0 rfl ?_
    refine q_iload_n (pc := 52) hG dX4_readPiece_52 1 rfl ?_
    refine q_cVi (pc := 53) [.int x1] [] hG (c_X4_mayOpen τ σ a0 x1 hI tA0) my_X4_mayOpen mv_X4_mayOpen w335 dX4_readPiece_53 tA0 (by decide) rfl rfl (Nat.le_of_ble_eq_true rfl) (by decide) (fun v53 s53 p53 => ?_)
    have w53 := hS0.trans p53.1 rfl
    replace hF := fx_C hF p53.2.2.1
    refine q_if_eq (pc := 56) hG 82 dX4_readPiece_56 rfl ?_ ?_
    · intro c56
      replace hF := fx_eq1 hF rfl rfl c56
      refine q_iconst (pc := 82) hG dX4_readPiece_82 ki_0 ?_
      exact q_zrt hG hE dX4_readPiece_83 (q_r.mono rl_0 (by decide)) ⟨w53, (q_r.mono rl_0 (by decide)), (by rw [tl_0]; exact fx_end hF hF0)⟩
    intro c56
    have g_2 := p53.2.2.2 (q_one p53.2.1 c56)
    replace hF := fx_eq2 hF rfl rfl c56
    refine q_aload_n (pc := 59) hG dX4_readPiece_59 0 rfl ?_
    refine q_iload_n (pc := 60) hG dX4_readPiece_60 1 rfl ?_
    refine q_iconst (pc := 61) hG dX4_readPiece_61 ki_1 ?_
    refine q_iadd (pc := 62) hG dX4_readPiece_62 (fun v62 e62 => ?_)
    replace hF := fx_add hF rfl tl_1 (q_addN (lo := 5) (hi := 5) e62 rA1 rl_1 (by decide)).1
    have r_3 := (q_addN (lo := 5) (hi := 5) e62 rA1 rl_1 (by decide)).2
    refine q_cVi (pc := 63) [.int v62] [] hG (c_X4_readParts_L5 τ s53 a0 v62 w53.1 tA0 r_3 at1 (w53.same tA0 rfl ht) Tt) my_X4_readParts mv_X4_readParts w358 dX4_readPiece_63 tA0 (by decide) rfl rfl (Nat.le_of_ble_eq_true rfl) (by decide) (fun v63 s63 p63 => ?_)
    have w63 := w53.trans p63.1 rfl
    replace hF := fx_C hF p63.2.2
    refine q_if_eq (pc := 66) hG 82 dX4_readPiece_66 rfl ?_ ?_
    · intro c66
      replace hF := fx_eq1 hF rfl rfl c66
      refine q_iconst (pc := 82) hG dX4_readPiece_82 ki_0 ?_
      exact q_zrt hG hE dX4_readPiece_83 (q_r.mono rl_0 (by decide)) ⟨w63, (q_r.mono rl_0 (by decide)), (by rw [tl_0]; exact fx_end hF hF0)⟩
    intro c66
    replace hF := fx_eq2 hF rfl rfl c66
    refine q_aload_n (pc := 69) hG dX4_readPiece_69 0 rfl ?_
    refine q_bipush (pc := 70) hG dX4_readPiece_70 kb_41 ?_
    refine q_cVi (pc := 72) [.int 41] [] hG (c_X4_expect τ s63 a0 41 w63.1 tA0 at1 (w63.same tA0 rfl ht) Tt) my_X4_expect mv_X4_expect w338 dX4_readPiece_72 tA0 (by decide) rfl rfl (Nat.le_of_ble_eq_true rfl) (by decide) (fun v72 s72 p72 => ?_)
    have w72 := w63.trans p72.1 rfl
    have fq72 := p72.2.2
    rewrite [tl_41] at fq72
    replace hF := fx_C hF fq72
    refine q_if_eq (pc := 75) hG 82 dX4_readPiece_75 rfl ?_ ?_
    · intro c75
      replace hF := fx_eq1 hF rfl rfl c75
      refine q_iconst (pc := 82) hG dX4_readPiece_82 ki_0 ?_
      exact q_zrt hG hE dX4_readPiece_83 (q_r.mono rl_0 (by decide)) ⟨w72, (q_r.mono rl_0 (by decide)), (by rw [tl_0]; exact fx_end hF hF0)⟩
    intro c75
    replace hF := fx_eq2 hF rfl rfl c75
    refine q_iconst (pc := 78) hG dX4_readPiece_78 ki_1 ?_
    refine q_goto (pc := 79) 83 hG dX4_readPiece_79 rfl ?_
    exact q_zrt hG hE dX4_readPiece_83 (q_r.mono rl_1 (by decide)) ⟨w72, (q_r.mono rl_1 (by decide)), (by rw [tl_1]; exact fx_end hF hF0)⟩
  intro c6
  replace hF := fx_eq1 hF rfl tl_33 c6
  refine q_aload_n (pc := 9) hG dX4_readPiece_9 0 rfl ?_
  refine q_iload_n (pc := 10) hG dX4_readPiece_10 1 rfl ?_
  refine q_cVi (pc := 11) [.int x1] [] hG (c_X4_mayOpen τ σ a0 x1 hI tA0) my_X4_mayOpen mv_X4_mayOpen w335 dX4_readPiece_11 tA0 (by decide) rfl rfl (Nat.le_of_ble_eq_true rfl) (by decide) (fun v11 s11 p11 => ?_)
  have w11 := hS0.trans p11.1 rfl
  replace hF := fx_C hF p11.2.2.1
  refine q_if_eq (pc := 14) hG 27 dX4_readPiece_14 rfl ?_ ?_
  · intro c14
    replace hF := fx_eq1 hF rfl rfl c14
    refine q_iconst (pc := 27) hG dX4_readPiece_27 ki_0 ?_
    exact q_zrt hG hE dX4_readPiece_28 (q_r.mono rl_0 (by decide)) ⟨w11, (q_r.mono rl_0 (by decide)), (by rw [tl_0]; exact fx_end hF hF0)⟩
  intro c14
  have g_4 := p11.2.2.2 (q_one p11.2.1 c14)
  replace hF := fx_eq2 hF rfl rfl c14
  refine q_aload_n (pc := 17) hG dX4_readPiece_17 0 rfl ?_
  refine q_iload_n (pc := 18) hG dX4_readPiece_18 1 rfl ?_
  refine q_iconst (pc := 19) hG dX4_readPiece_19 ki_1 ?_
  refine q_iadd (pc := 20) hG dX4_readPiece_20 (fun v20 e20 => ?_)
  replace hF := fx_add hF rfl tl_1 (q_addN (lo := 5) (hi := 5) e20 rA1 rl_1 (by decide)).1
  have r_5 := (q_addN (lo := 5) (hi := 5) e20 rA1 rl_1 (by decide)).2
  refine q_cVi (pc := 21) [.int v20] [] hG (c_X4_readPiece_L5 τ s11 a0 v20 w11.1 tA0 r_5 at1 (w11.same tA0 rfl ht) Tt) my_X4_readPiece mv_X4_readPiece w364 dX4_readPiece_21 tA0 (by decide) rfl rfl (Nat.le_of_ble_eq_true rfl) (by decide) (fun v21 s21 p21 => ?_)
  have w21 := w11.trans p21.1 rfl
  replace hF := fx_C hF p21.2.2
  refine q_if_ne (pc := 24) hG 29 dX4_readPiece_24 rfl ?_ ?_
  · intro c24
    replace hF := fx_eq2 hF rfl rfl c24
    refine q_aload_n (pc := 29) hG dX4_readPiece_29 0 rfl ?_
    refine q_getR (pc := 30) (k2 := 3) (n2 := 1) hG fl_X4_31 dX4_readPiece_30 w21.1 tA0 ff_4_4 (fun b30 f30 T30 => ?_)
    replace hF := fx_R hF f30 rfl
    have f_6 := (w21.2 _ _ _ _ tA0 rfl).symm.trans f30
    refine q_bipush (pc := 33) hG dX4_readPiece_33 kb_33 ?_
    refine q_iconst (pc := 35) hG dX4_readPiece_35 ki_0 ?_
    refine q_cVi (pc := 36) [.int 33, .int 0] [] hG (c_X3_add τ s21 b30 33 0 w21.1 T30) my_X3_add mv_X3_add w344 dX4_readPiece_36 T30 (by decide) rfl rfl (Nat.le_of_ble_eq_true rfl) (by decide) (fun v36 s36 p36 => ?_)
    have w36 := w21.trans p36.1 rfl
    have fq36 := p36.2.2
    rewrite [tl_0, tl_33] at fq36
    replace hF := fx_C hF fq36
    refine q_pop (pc := 39) hG dX4_readPiece_39 rfl ?_
    refine q_iconst (pc := 40) hG dX4_readPiece_40 ki_1 ?_
    exact q_zrt hG hE dX4_readPiece_41 (q_r.mono rl_1 (by decide)) ⟨w36, (q_r.mono rl_1 (by decide)), (by rw [tl_1]; exact fx_end hF hF0)⟩
  intro c24
  replace hF := fx_eq1 hF rfl rfl c24
  refine q_iconst (pc := 27) hG dX4_readPiece_27 ki_0 ?_
  exact q_zrt hG hE dX4_readPiece_28 (q_r.mono rl_0 (by decide)) ⟨w21, (q_r.mono rl_0 (by decide)), (by rw [tl_0]; exact fx_end hF hF0)⟩
def md_X4_readPart_L4 : List (Nat × Nat) := [(3, 1), (3, 2), (4, 2), (4, 3), (112, 0), (113, 0)]
set_option maxRecDepth 100000 in
set_option maxHeartbeats 4000000 in
theorem c_X4_readPart_L4 {l : Launch} {D : q_D} (τ : q_T) (σ : q_V) (a0 : Nat) (x1 : Int32) (hI : q_I τ σ) (tA0 : τ a0 = some (4, 1)) (rA1 : q_r x1 4 4) (at1 : Nat) (ht : σ a0 0 = .ref at1) (Tt : τ at1 = some (110, 260)) : q_Ci l D yX4_readPart cX4_readPart 5 (some .boolean) 12 276 τ σ [.ref a0, .int x1] (fun r σ1 => q_S md_X4_readPart_L4 τ σ σ1 ∧ (q_r r 0 1) ∧ ((r.toInt, fx_N σ1) = f_X4_readPart_L4 (fx_N σ) a0 x1.toInt)) := by
  refine q_meti rfl (Nat.le_of_ble_eq_true rfl) (fun X hG hE => ?_)
  show q_O X 0 0 τ σ 0 [(0, .ref a0), (1, .int x1)] []
  have hS0 : q_S md_X4_readPart_L4 τ σ σ := q_S.rf hI
  obtain ⟨Fv, hF⟩ : ∃ z, fx_eq z (f_X4_readPart_L4 (fx_N σ) a0 x1.toInt) := ⟨_, fx_rf⟩
  have hF0 := hF
  unfold f_X4_readPart_L4 at hF
  replace hF := fx_R hF ht rfl
  refine q_aload_n (pc := 0) hG dX4_readPart_0 0 rfl ?_
  refine q_iload_n (pc := 1) hG dX4_readPart_1 1 rfl ?_
  refine q_cVi (pc := 2) [.int x1] [] hG (c_X4_readPiece_L4 τ σ a0 x1 hI tA0 rA1 at1 ht Tt) my_X4_readPiece mv_X4_readPiece w364 dX4_readPart_2 tA0 (by decide) rfl rfl (Nat.le_of_ble_eq_true rfl) (by decide) (fun v2 s2 p2 => ?_)
  have w2 := hS0.trans p2.1 rfl
  replace hF := fx_C hF p2.2.2
  refine q_istore_n (pc := 5) [(2, .int v2), (0, .ref a0), (1, .int x1)] hG dX4_readPart_5 (by decide) rfl ?_
  refine q_iconst (pc := 6) hG dX4_readPart_6 ki_0 ?_
  refine q_istore_n (pc := 7) [(3, .int 0), (2, .int v2), (0, .ref a0), (1, .int x1)] hG dX4_readPart_7 (by decide) rfl ?_
  have J8 : ∀ (n8 : Nat) (p8_2 : Int32) (p8_3 : Int32) (σ8 : q_V), (q_r p8_2 0 1) → (q_r p8_3 0 240) → (q_S md_X4_readPart_L4 τ σ σ8) → (fx_eq Fv (kL_X4_readPart_L4_8 a0 x1.toInt n8 p8_2.toInt p8_3.toInt (fx_N σ8))) → ((240 - p8_3.toInt).toNat < n8) → q_O X 0 0 τ σ8 8 [(0, .ref a0), (1, .int x1), (2, .int p8_2), (3, .int p8_3)] [] := by
    intro n8
    induction n8 with
    | zero => intro p8_2 p8_3 σ8 r8_2 r8_3 hS8 hF hm8; exact absurd hm8 (Nat.not_lt_zero _)
    | succ n8 ih8 =>
      intro p8_2 p8_3 σ8 r8_2 r8_3 hS8 hF hm8
      replace hF := (show fx_eq Fv (kB_X4_readPart_L4_8 (kL_X4_readPart_L4_8 a0 x1.toInt n8) a0 x1.toInt p8_2.toInt p8_3.toInt (fx_N σ8)) from hF)
      unfold kB_X4_readPart_L4_8 at hF
      refine q_iload_n (pc := 8) hG dX4_readPart_8 3 rfl ?_
      refine q_sipush (pc := 9) hG dX4_readPart_9 ks_240 ?_
      refine q_icmp_ge (pc := 12) hG 71 dX4_readPart_12 rfl ?_ ?_
      · intro c12
        replace hF := fx_lt2 hF rfl tl_240 c12
        refine q_iload_n (pc := 71) hG dX4_readPart_71 2 rfl ?_
        exact q_zrt hG hE dX4_readPart_72 r8_2 ⟨hS8, r8_2, (fx_end hF hF0)⟩
      intro c12
      replace hF := fx_lt1 hF rfl tl_240 c12
      refine q_iload_n (pc := 15) hG dX4_readPart_15 2 rfl ?_
      refine q_if_eq (pc := 16) hG 71 dX4_readPart_16 rfl ?_ ?_
      · intro c16
        replace hF := fx_eq1 hF rfl rfl c16
        refine q_iload_n (pc := 71) hG dX4_readPart_71 2 rfl ?_
        have r_1 := q_zeq c16
        exact q_zrt hG hE dX4_readPart_72 (q_r.mono r_1 (by decide)) ⟨hS8, (q_r.mono r_1 (by decide)), (fx_end hF hF0)⟩
      intro c16
      replace hF := fx_eq2 hF rfl rfl c16
      refine q_aload_n (pc := 19) hG dX4_readPart_19 0 rfl ?_
      refine q_pV (pc := 20) [] [] hG (c_X4_peek τ σ8 a0 hS8.1 tA0 at1 (hS8.same tA0 rfl ht) Tt) my_X4_peek mv_X4_peek w316 dX4_readPart_20 tA0 (by decide) rfl rfl (Nat.le_of_ble_eq_true rfl) (by decide) (fun v20 p20 => ?_)
      replace hF := fx_E hF p20.2
      refine q_bipush (pc := 23) hG dX4_readPart_23 kb_38 ?_
      refine q_icmp_ne (pc := 25) hG 71 dX4_readPart_25 rfl ?_ ?_
      · intro c25
        replace hF := fx_eq2 hF rfl tl_38 c25
        refine q_iload_n (pc := 71) hG dX4_readPart_71 2 rfl ?_
        have r_2 := q_neL (c := 1) r8_2 c16 (by decide)
        exact q_zrt hG hE dX4_readPart_72 (q_r.mono r_2 (by decide)) ⟨hS8, (q_r.mono r_2 (by decide)), (fx_end hF hF0)⟩
      intro c25
      replace hF := fx_eq1 hF rfl tl_38 c25
      refine q_aload_n (pc := 28) hG dX4_readPart_28 0 rfl ?_
      refine q_dup (pc := 29) hG dX4_readPart_29 rfl ?_
      refine q_getI (pc := 30) hG fl_X4_22 dX4_readPart_30 hS8.1 tA0 ff_4_2 (fun v30 f30 g30 => ?_)
      replace hF := fx_I hF f30 rfl
      refine q_iconst (pc := 33) hG dX4_readPart_33 ki_1 ?_
      refine q_iadd (pc := 34) hG dX4_readPart_34 (fun v34 e34 => ?_)
      replace hF := fx_B_add hF rfl tl_1 e34
      refine q_putI (pc := 35) hG fl_X4_22 dX4_readPart_35 hS8 tA0 ff_4_2 (q_r_any v34) (by decide) rfl (fun s35 u35 w35 => ?_)
      replace hF := fx_P hF u35 rfl rfl
      have m35 : s35 a0 2 = .int v34 := by rw [u35]; exact q_up_same
      refine q_aload_n (pc := 38) hG dX4_readPart_38 0 rfl ?_
      refine q_getR (pc := 39) (k2 := 3) (n2 := 1) hG fl_X4_31 dX4_readPart_39 w35.1 tA0 ff_4_4 (fun b39 f39 T39 => ?_)
      replace hF := fx_R hF f39 rfl
      have f_3 := (w35.2 _ _ _ _ tA0 rfl).symm.trans f39
      refine q_bipush (pc := 42) hG dX4_readPart_42 kb_38 ?_
      refine q_iconst (pc := 44) hG dX4_readPart_44 ki_0 ?_
      refine q_cVi (pc := 45) [.int 38, .int 0] [] hG (c_X3_add τ s35 b39 38 0 w35.1 T39) my_X3_add mv_X3_add w344 dX4_readPart_45 T39 (by decide) rfl rfl (Nat.le_of_ble_eq_true rfl) (by decide) (fun v45 s45 p45 => ?_)
      have w45 := w35.trans p45.1 rfl
      have fq45 := p45.2.2
      rewrite [tl_0, tl_38] at fq45
      replace hF := fx_C hF fq45
      refine q_istore (pc := 48) [(4, .int v45), (0, .ref a0), (1, .int x1), (2, .int p8_2), (3, .int p8_3)] hG dX4_readPart_48 (by decide) rfl ?_
      refine q_aload_n (pc := 50) hG dX4_readPart_50 1 rfl ?_
      refine q_iload_n (pc := 51) hG dX4_readPart_51 2 rfl ?_
      refine q_cVi (pc := 52) [.int x1] [] hG (c_X4_readPiece_L4 τ s45 a0 x1 w45.1 tA0 rA1 at1 (w45.same tA0 rfl ht) Tt) my_X4_readPiece mv_X4_readPiece w364 dX4_readPart_52 tA0 (by decide) rfl rfl (Nat.le_of_ble_eq_true rfl) (by decide) (fun v52 s52 p52 => ?_)
      have w52 := w45.trans p52.1 rfl
      replace hF := fx_C hF p52.2.2
      refine q_istore_n (pc := 55) [(2, .int v52), (4, .int v45), (0, .ref a0), (1, .int x1), (3, .int p8_3)] hG dX4_readPart_55 (by decide) rfl ?_
      refine q_aload_n (pc := 56) hG dX4_readPart_56 2 rfl ?_
      refine q_getV (pc := 57) (v := .ref b39) hG fl_X4_31 dX4_readPart_57 tA0 (w52.same tA0 rfl f_3) ?_
      refine q_iload (pc := 60) hG dX4_readPart_60 1 rfl ?_
      refine q_cVv (pc := 62) [.int v45] [] hG (c_X3_leadHere τ s52 b39 v45 w52.1 T39) my_X3_leadHere mv_X3_leadHere w367 dX4_readPart_62 T39 (by decide) rfl rfl (Nat.le_of_ble_eq_true rfl) (by decide) (fun s62 p62 => ?_)
      have w62 := w52.trans p62.1 rfl
      replace hF := fx_S hF p62.2
      obtain ⟨v65, e65⟩ : ∃ z : Int32, z = p8_3 + Int32.ofInt 1 := ⟨_, rfl⟩
      have r_4 := q_rlt r8_3 rl_240 c12 239 (by decide)
      have h65 := q_incN (lo := 1) (hi := 240) r_4 (by decide) (by decide) e65
      replace hF := fx_add hF rfl rfl h65.1
      refine q_iinc (pc := 65) [(3, .int v65), (2, .int v52), (4, .int v45), (0, .ref a0), (1, .int x1)] hG dX4_readPart_65 4 rfl e65 (by decide) rfl ?_
      refine q_goto (pc := 68) 8 hG dX4_readPart_68 rfl ?_
      refine q_lv [3, 4, 1, 0] rfl ?_
      exact ih8 v52 v65 s62 p52.2.1 (q_r.mono h65.2 (by decide)) w62 hF (q_measU hm8 (by have o0 := c12; have o1 := h65.1; have o2 := r_4; have o3 := h65.2; have l4 := tl_240; unfold q_r at o2 o3; omega) (h65.2).2)
  refine q_lv [2, 3, 1, 0] rfl ?_
  exact J8 ((240 - (0 : Int32).toInt).toNat + 1) v2 0 s2 p2.2.1 (q_r.mono rl_0 (by decide)) w2 (by rw [tl_0]; exact hF) (Nat.lt_succ_self _)
def md_X4_readParts_L4 : List (Nat × Nat) := [(3, 1), (3, 2), (4, 2), (4, 3), (112, 0), (113, 0)]
set_option maxRecDepth 100000 in
set_option maxHeartbeats 4000000 in
theorem c_X4_readParts_L4 {l : Launch} {D : q_D} (τ : q_T) (σ : q_V) (a0 : Nat) (x1 : Int32) (hI : q_I τ σ) (tA0 : τ a0 = some (4, 1)) (rA1 : q_r x1 4 4) (at1 : Nat) (ht : σ a0 0 = .ref at1) (Tt : τ at1 = some (110, 260)) : q_Ci l D yX4_readParts cX4_readParts 5 (some .boolean) 13 300 τ σ [.ref a0, .int x1] (fun r σ1 => q_S md_X4_readParts_L4 τ σ σ1 ∧ (q_r r 0 1) ∧ ((r.toInt, fx_N σ1) = f_X4_readParts_L4 (fx_N σ) a0 x1.toInt)) := by
  refine q_meti rfl (Nat.le_of_ble_eq_true rfl) (fun X hG hE => ?_)
  show q_O X 0 0 τ σ 0 [(0, .ref a0), (1, .int x1)] []
  have hS0 : q_S md_X4_readParts_L4 τ σ σ := q_S.rf hI
  obtain ⟨Fv, hF⟩ : ∃ z, fx_eq z (f_X4_readParts_L4 (fx_N σ) a0 x1.toInt) := ⟨_, fx_rf⟩
  have hF0 := hF
  unfold f_X4_readParts_L4 at hF
  replace hF := fx_R hF ht rfl
  refine q_aload_n (pc := 0) hG dX4_readParts_0 0 rfl ?_
  refine q_iload_n (pc := 1) hG dX4_readParts_1 1 rfl ?_
  refine q_cVi (pc := 2) [.int x1] [] hG (c_X4_readPart_L4 τ σ a0 x1 hI tA0 rA1 at1 ht Tt) my_X4_readPart mv_X4_readPart w361 dX4_readParts_2 tA0 (by decide) rfl rfl (Nat.le_of_ble_eq_true rfl) (by decide) (fun v2 s2 p2 => ?_)
  have w2 := hS0.trans p2.1 rfl
  replace hF := fx_C hF p2.2.2
  refine q_istore_n (pc := 5) [(2, .int v2), (0, .ref a0), (1, .int x1)] hG dX4_readParts_5 (by decide) rfl ?_
  refine q_iconst (pc := 6) hG dX4_readParts_6 ki_0 ?_
  refine q_istore_n (pc := 7) [(3, .int 0), (2, .int v2), (0, .ref a0), (1, .int x1)] hG dX4_readParts_7 (by decide) rfl ?_
  have J8 : ∀ (n8 : Nat) (p8_2 : Int32) (p8_3 : Int32) (σ8 : q_V), (q_r p8_2 0 1) → (q_r p8_3 0 240) → (q_S md_X4_readParts_L4 τ σ σ8) → (fx_eq Fv (kL_X4_readParts_L4_8 a0 x1.toInt n8 p8_2.toInt p8_3.toInt (fx_N σ8))) → ((240 - p8_3.toInt).toNat < n8) → q_O X 0 0 τ σ8 8 [(0, .ref a0), (1, .int x1), (2, .int p8_2), (3, .int p8_3)] [] := by
    intro n8
    induction n8 with
    | zero => intro p8_2 p8_3 σ8 r8_2 r8_3 hS8 hF hm8; exact absurd hm8 (Nat.not_lt_zero _)
    | succ n8 ih8 =>
      intro p8_2 p8_3 σ8 r8_2 r8_3 hS8 hF hm8
      replace hF := (show fx_eq Fv (kB_X4_readParts_L4_8 (kL_X4_readParts_L4_8 a0 x1.toInt n8) a0 x1.toInt p8_2.toInt p8_3.toInt (fx_N σ8)) from hF)
      unfold kB_X4_readParts_L4_8 at hF
      refine q_iload_n (pc := 8) hG dX4_readParts_8 3 rfl ?_
      refine q_sipush (pc := 9) hG dX4_readParts_9 ks_240 ?_
      refine q_icmp_ge (pc := 12) hG 71 dX4_readParts_12 rfl ?_ ?_
      · intro c12
        replace hF := fx_lt2 hF rfl tl_240 c12
        refine q_iload_n (pc := 71) hG dX4_readParts_71 2 rfl ?_
        exact q_zrt hG hE dX4_readParts_72 r8_2 ⟨hS8, r8_2, (fx_end hF hF0)⟩
      intro c12
      replace hF := fx_lt1 hF rfl tl_240 c12
      refine q_iload_n (pc := 15) hG dX4_readParts_15 2 rfl ?_
      refine q_if_eq (pc := 16) hG 71 dX4_readParts_16 rfl ?_ ?_
      · intro c16
        replace hF := fx_eq1 hF rfl rfl c16
        refine q_iload_n (pc := 71) hG dX4_readParts_71 2 rfl ?_
        have r_1 := q_zeq c16
        exact q_zrt hG hE dX4_readParts_72 (q_r.mono r_1 (by decide)) ⟨hS8, (q_r.mono r_1 (by decide)), (fx_end hF hF0)⟩
      intro c16
      replace hF := fx_eq2 hF rfl rfl c16
      refine q_aload_n (pc := 19) hG dX4_readParts_19 0 rfl ?_
      refine q_pV (pc := 20) [] [] hG (c_X4_peek τ σ8 a0 hS8.1 tA0 at1 (hS8.same tA0 rfl ht) Tt) my_X4_peek mv_X4_peek w316 dX4_readParts_20 tA0 (by decide) rfl rfl (Nat.le_of_ble_eq_true rfl) (by decide) (fun v20 p20 => ?_)
      replace hF := fx_E hF p20.2
      refine q_bipush (pc := 23) hG dX4_readParts_23 kb_124 ?_
      refine q_icmp_ne (pc := 25) hG 71 dX4_readParts_25 rfl ?_ ?_
      · intro c25
        replace hF := fx_eq2 hF rfl tl_124 c25
        refine q_iload_n (pc := 71) hG dX4_readParts_71 2 rfl ?_
        have r_2 := q_neL (c := 1) r8_2 c16 (by decide)
        exact q_zrt hG hE dX4_readParts_72 (q_r.mono r_2 (by decide)) ⟨hS8, (q_r.mono r_2 (by decide)), (fx_end hF hF0)⟩
      intro c25
      replace hF := fx_eq1 hF rfl tl_124 c25
      refine q_aload_n (pc := 28) hG dX4_readParts_28 0 rfl ?_
      refine q_dup (pc := 29) hG dX4_readParts_29 rfl ?_
      refine q_getI (pc := 30) hG fl_X4_22 dX4_readParts_30 hS8.1 tA0 ff_4_2 (fun v30 f30 g30 => ?_)
      replace hF := fx_I hF f30 rfl
      refine q_iconst (pc := 33) hG dX4_readParts_33 ki_1 ?_
      refine q_iadd (pc := 34) hG dX4_readParts_34 (fun v34 e34 => ?_)
      replace hF := fx_B_add hF rfl tl_1 e34
      refine q_putI (pc := 35) hG fl_X4_22 dX4_readParts_35 hS8 tA0 ff_4_2 (q_r_any v34) (by decide) rfl (fun s35 u35 w35 => ?_)
      replace hF := fx_P hF u35 rfl rfl
      have m35 : s35 a0 2 = .int v34 := by rw [u35]; exact q_up_same
      refine q_aload_n (pc := 38) hG dX4_readParts_38 0 rfl ?_
      refine q_getR (pc := 39) (k2 := 3) (n2 := 1) hG fl_X4_31 dX4_readParts_39 w35.1 tA0 ff_4_4 (fun b39 f39 T39 => ?_)
      replace hF := fx_R hF f39 rfl
      have f_3 := (w35.2 _ _ _ _ tA0 rfl).symm.trans f39
      refine q_bipush (pc := 42) hG dX4_readParts_42 kb_124 ?_
      refine q_iconst (pc := 44) hG dX4_readParts_44 ki_0 ?_
      refine q_cVi (pc := 45) [.int 124, .int 0] [] hG (c_X3_add τ s35 b39 124 0 w35.1 T39) my_X3_add mv_X3_add w344 dX4_readParts_45 T39 (by decide) rfl rfl (Nat.le_of_ble_eq_true rfl) (by decide) (fun v45 s45 p45 => ?_)
      have w45 := w35.trans p45.1 rfl
      have fq45 := p45.2.2
      rewrite [tl_0, tl_124] at fq45
      replace hF := fx_C hF fq45
      refine q_istore (pc := 48) [(4, .int v45), (0, .ref a0), (1, .int x1), (2, .int p8_2), (3, .int p8_3)] hG dX4_readParts_48 (by decide) rfl ?_
      refine q_aload_n (pc := 50) hG dX4_readParts_50 1 rfl ?_
      refine q_iload_n (pc := 51) hG dX4_readParts_51 2 rfl ?_
      refine q_cVi (pc := 52) [.int x1] [] hG (c_X4_readPart_L4 τ s45 a0 x1 w45.1 tA0 rA1 at1 (w45.same tA0 rfl ht) Tt) my_X4_readPart mv_X4_readPart w361 dX4_readParts_52 tA0 (by decide) rfl rfl (Nat.le_of_ble_eq_true rfl) (by decide) (fun v52 s52 p52 => ?_)
      have w52 := w45.trans p52.1 rfl
      replace hF := fx_C hF p52.2.2
      refine q_istore_n (pc := 55) [(2, .int v52), (4, .int v45), (0, .ref a0), (1, .int x1), (3, .int p8_3)] hG dX4_readParts_55 (by decide) rfl ?_
      refine q_aload_n (pc := 56) hG dX4_readParts_56 2 rfl ?_
      refine q_getV (pc := 57) (v := .ref b39) hG fl_X4_31 dX4_readParts_57 tA0 (w52.same tA0 rfl f_3) ?_
      refine q_iload (pc := 60) hG dX4_readParts_60 1 rfl ?_
      refine q_cVv (pc := 62) [.int v45] [] hG (c_X3_leadHere τ s52 b39 v45 w52.1 T39) my_X3_leadHere mv_X3_leadHere w367 dX4_readParts_62 T39 (by decide) rfl rfl (Nat.le_of_ble_eq_true rfl) (by decide) (fun s62 p62 => ?_)
      have w62 := w52.trans p62.1 rfl
      replace hF := fx_S hF p62.2
      obtain ⟨v65, e65⟩ : ∃ z : Int32, z = p8_3 + Int32.ofInt 1 := ⟨_, rfl⟩
      have r_4 := q_rlt r8_3 rl_240 c12 239 (by decide)
      have h65 := q_incN (lo := 1) (hi := 240) r_4 (by decide) (by decide) e65
      replace hF := fx_add hF rfl rfl h65.1
      refine q_iinc (pc := 65) [(3, .int v65), (2, .int v52), (4, .int v45), (0, .ref a0), (1, .int x1)] hG dX4_readParts_65 4 rfl e65 (by decide) rfl ?_
      refine q_goto (pc := 68) 8 hG dX4_readParts_68 rfl ?_
      refine q_lv [3, 4, 1, 0] rfl ?_
      exact ih8 v52 v65 s62 p52.2.1 (q_r.mono h65.2 (by decide)) w62 hF (q_measU hm8 (by have o0 := c12; have o1 := h65.1; have o2 := r_4; have o3 := h65.2; have l4 := tl_240; unfold q_r at o2 o3; omega) (h65.2).2)
  refine q_lv [2, 3, 1, 0] rfl ?_
  exact J8 ((240 - (0 : Int32).toInt).toNat + 1) v2 0 s2 p2.2.1 (q_r.mono rl_0 (by decide)) w2 (by rw [tl_0]; exact hF) (Nat.lt_succ_self _)
def md_X4_readPiece_L3 : List (Nat × Nat) := [(3, 1), (3, 2), (4, 2), (4, 3), (112, 0), (113, 0)]
set_option maxRecDepth 100000 in
set_option maxHeartbeats 4000000 in
theorem c_X4_readPiece_L3 {l : Launch} {D : q_D} (τ : q_T) (σ : q_V) (a0 : Nat) (x1 : Int32) (hI : q_I τ σ) (tA0 : τ a0 = some (4, 1)) (rA1 : q_r x1 3 3) (at1 : Nat) (ht : σ a0 0 = .ref at1) (Tt : τ at1 = some (110, 260)) : q_Ci l D yX4_readPiece cX4_readPiece 3 (some .boolean) 14 324 τ σ [.ref a0, .int x1] (fun r σ1 => q_S md_X4_readPiece_L3 τ σ σ1 ∧ (q_r r 0 1) ∧ ((r.toInt, fx_N σ1) = f_X4_readPiece_L3 (fx_N σ) a0 x1.toInt)) := by
  refine q_meti rfl (Nat.le_of_ble_eq_true rfl) (fun X hG hE => ?_)
  show q_O X 0 0 τ σ 0 [(0, .ref a0), (1, .int x1)] []
  have hS0 : q_S md_X4_readPiece_L3 τ σ σ := q_S.rf hI
  obtain ⟨Fv, hF⟩ : ∃ z, fx_eq z (f_X4_readPiece_L3 (fx_N σ) a0 x1.toInt) := ⟨_, fx_rf⟩
  have hF0 := hF
  unfold f_X4_readPiece_L3 at hF
  replace hF := fx_R hF ht rfl
  refine q_aload_n (pc := 0) hG dX4_readPiece_0 0 rfl ?_
  refine q_pV (pc := 1) [] [] hG (c_X4_peek τ σ a0 hI tA0 at1 ht Tt) my_X4_peek mv_X4_peek w316 dX4_readPiece_1 tA0 (by decide) rfl rfl (Nat.le_of_ble_eq_true rfl) (by decide) (fun v1 p1 => ?_)
  replace hF := fx_E hF p1.2
  refine q_bipush (pc := 4) hG dX4_readPiece_4 kb_33 ?_
  refine q_icmp_ne (pc := 6) hG 42 dX4_readPiece_6 rfl ?_ ?_
  · intro c6
    replace hF := fx_eq2 hF rfl tl_33 c6
    refine q_aload_n (pc := 42) hG dX4_readPiece_42 0 rfl ?_
    refine q_pV (pc := 43) [] [] hG (c_X4_peek τ σ a0 hI tA0 at1 ht Tt) my_X4_peek mv_X4_peek w316 dX4_readPiece_43 tA0 (by decide) rfl rfl (Nat.le_of_ble_eq_true rfl) (by decide) (fun v43 p43 => ?_)
    replace hF := fx_E hF p43.2
    refine q_bipush (pc := 46) hG dX4_readPiece_46 kb_40 ?_
    refine q_icmp_ne (pc := 48) hG 84 dX4_readPiece_48 rfl ?_ ?_
    · intro c48
      replace hF := fx_eq2 hF rfl tl_40 c48
      refine q_aload_n (pc := 84) hG dX4_readPiece_84 0 rfl ?_
      refine q_iload_n (pc := 85) hG dX4_readPiece_85 1 rfl ?_
      refine q_cVi (pc := 86) [.int x1] [] hG (c_X4_readSum_L3 τ σ a0 x1 hI tA0 rA1 at1 ht Tt) my_X4_readSum mv_X4_readSum w326 dX4_readPiece_86 tA0 (by decide) rfl rfl (Nat.le_of_ble_eq_true rfl) (by decide) (fun v86 s86 p86 => ?_)
      have w86 := hS0.trans p86.1 rfl
      replace hF := fx_C hF p86.2.2
      refine q_if_ne (pc := 89) hG 94 dX4_readPiece_89 rfl ?_ ?_
      · intro c89
        replace hF := fx_eq2 hF rfl rfl c89
        refine q_aload_n (pc := 94) hG dX4_readPiece_94 0 rfl ?_
        refine q_pV (pc := 95) [] [] hG (c_X4_peek τ s86 a0 w86.1 tA0 at1 (w86.same tA0 rfl ht) Tt) my_X4_peek mv_X4_peek w316 dX4_readPiece_95 tA0 (by decide) rfl rfl (Nat.le_of_ble_eq_true rfl) (by decide) (fun v95 p95 => ?_)
        replace hF := fx_E hF p95.2
        refine q_istore_n (pc := 98) [(2, .int v95), (0, .ref a0), (1, .int x1)] hG dX4_readPiece_98 (by decide) rfl ?_
        refine q_iload_n (pc := 99) hG dX4_readPiece_99 0 rfl ?_
        refine q_bipush (pc := 100) hG dX4_readPiece_100 kb_60 ?_
        have J123 : (fx_eq Fv (kJ_X4_readPiece_L3_123 (fx_N s86) a0 x1.toInt v95.toInt)) → q_O X 0 0 τ s86 123 [(0, .ref a0), (1, .int x1), (2, .int v95)] [] := by
          intro hF
          unfold kJ_X4_readPiece_L3_123 at hF
          refine q_aload_n (pc := 123) hG dX4_readPiece_123 0 rfl ?_
          refine q_dup (pc := 124) hG dX4_readPiece_124 rfl ?_
          refine q_getI (pc := 125) hG fl_X4_22 dX4_readPiece_125 w86.1 tA0 ff_4_2 (fun v125 f125 g125 => ?_)
          replace hF := fx_I hF f125 rfl
          refine q_iconst (pc := 128) hG dX4_readPiece_128 ki_1 ?_
          refine q_iadd (pc := 129) hG dX4_readPiece_129 (fun v129 e129 => ?_)
          replace hF := fx_B_add hF rfl tl_1 e129
          refine q_putI (pc := 130) hG fl_X4_22 dX4_readPiece_130 w86 tA0 ff_4_2 (q_r_any v129) (by decide) rfl (fun s130 u130 w130 => ?_)
          replace hF := fx_P hF u130 rfl rfl
          have m130 : s130 a0 2 = .int v129 := by rw [u130]; exact q_up_same
          refine q_aload_n (pc := 133) hG dX4_readPiece_133 0 rfl ?_
          refine q_iload_n (pc := 134) hG dX4_readPiece_134 1 rfl ?_
          refine q_cVi (pc := 135) [.int x1] [] hG (c_X4_readSum_L3 τ s130 a0 x1 w130.1 tA0 rA1 at1 (w130.same tA0 rfl ht) Tt) my_X4_readSum mv_X4_readSum w326 dX4_readPiece_135 tA0 (by decide) rfl rfl (Nat.le_of_ble_eq_true rfl) (by decide) (fun v135 s135 p135 => ?_)
          have w135 := w130.trans p135.1 rfl
          replace hF := fx_C hF p135.2.2
          refine q_if_ne (pc := 138) hG 143 dX4_readPiece_138 rfl ?_ ?_
          · intro c138
            replace hF := fx_eq2 hF rfl rfl c138
            refine q_aload_n (pc := 143) hG dX4_readPiece_143 0 rfl ?_
            refine q_getR (pc := 144) (k2 := 3) (n2 := 1) hG fl_X4_31 dX4_readPiece_144 w135.1 tA0 ff_4_4 (fun b144 f144 T144 => ?_)
            replace hF := fx_R hF f144 rfl
            have f_1 := (w135.2 _ _ _ _ tA0 rfl).symm.trans f144
            refine q_iload_n (pc := 147) hG dX4_readPiece_147 2 rfl ?_
            refine q_iconst (pc := 148) hG dX4_readPiece_148 ki_0 ?_
            refine q_cVi (pc := 149) [.int v95, .int 0] [] hG (c_X3_add τ s135 b144 v95 0 w135.1 T144) my_X3_add mv_X3_add w344 dX4_readPiece_149 T144 (by decide) rfl rfl (Nat.le_of_ble_eq_true rfl) (by decide) (fun v149 s149 p149 => ?_)
            have w149 := w135.trans p149.1 rfl
            have fq149 := p149.2.2
            rewrite [tl_0] at fq149
            replace hF := fx_C hF fq149
            refine q_pop (pc := 152) hG dX4_readPiece_152 rfl ?_
            refine q_iconst (pc := 153) hG dX4_readPiece_153 ki_1 ?_
            exact q_zrt hG hE dX4_readPiece_154 (q_r.mono rl_1 (by decide)) ⟨w149, (q_r.mono rl_1 (by decide)), (by rw [tl_1]; exact fx_end hF hF0)⟩
          intro c138
          replace hF := fx_eq1 hF rfl rfl c138
          refine q_iconst (pc := 141) hG dX4_readPiece_141 ki_0 ?_
          exact q_zrt hG hE dX4_readPiece_142 (q_r.mono rl_0 (by decide)) ⟨w135, (q_r.mono rl_0 (by decide)), (by rw [tl_0]; exact fx_end hF hF0)⟩
        refine q_icmp_eq (pc := 102) hG 123 dX4_readPiece_102 rfl ?_ ?_
        · intro c102
          replace hF := fx_eq1 hF rfl tl_60 c102
          refine q_lv [1, 2, 0] rfl ?_
          exact J123 hF
        intro c102
        replace hF := fx_eq2 hF rfl tl_60 c102
        refine q_iload_n (pc := 105) hG dX4_readPiece_105 0 rfl ?_
        refine q_bipush (pc := 106) hG dX4_readPiece_106 kb_62 ?_
        refine q_icmp_eq (pc := 108) hG 123 dX4_readPiece_108 rfl ?_ ?_
        · intro c108
          replace hF := fx_eq1 hF rfl tl_62 c108
          refine q_lv [1, 2, 0] rfl ?_
          exact J123 hF
        intro c108
        replace hF := fx_eq2 hF rfl tl_62 c108
        refine q_iload_n (pc := 111) hG dX4_readPiece_111 0 rfl ?_
        refine q_bipush (pc := 112) hG dX4_readPiece_112 kb_61 ?_
        refine q_icmp_eq (pc := 114) hG 123 dX4_readPiece_114 rfl ?_ ?_
        · intro c114
          replace hF := fx_eq1 hF rfl tl_61 c114
          refine q_lv [1, 2, 0] rfl ?_
          exact J123 hF
        intro c114
        replace hF := fx_eq2 hF rfl tl_61 c114
        refine q_aload_n (pc := 117) hG dX4_readPiece_117 1 rfl ?_
        refine q_iconst (pc := 118) hG dX4_readPiece_118 ki_1 ?_
        refine q_cVi (pc := 119) [.int 1] [] hG (c_X4_fail τ s86 a0 1 w86.1 tA0) my_X4_fail mv_X4_fail w319 dX4_readPiece_119 tA0 (by decide) rfl rfl (Nat.le_of_ble_eq_true rfl) (by decide) (fun v119 s119 p119 => ?_)
        have w119 := w86.trans p119.1 rfl
        have fq119 := p119.2.2
        rewrite [tl_1] at fq119
        replace hF := fx_C hF fq119
        exact q_zrt hG hE dX4_readPiece_122 (q_r.mono p119.2.1 (by decide)) ⟨w119, (q_r.mono p119.2.1 (by decide)), (fx_end hF hF0)⟩
      intro c89
      replace hF := fx_eq1 hF rfl rfl c89
      refine q_iconst (pc := 92) hG dX4_readPiece_92 ki_0 ?_
      exact q_zrt hG hE dX4_readPiece_93 (q_r.mono rl_0 (by decide)) ⟨w86, (q_r.mono rl_0 (by decide)), (by rw [tl_0]; exact fx_end hF hF0)⟩
    intro c48
    replace hF := fx_eq1 hF rfl tl_40 c48
    refine q_aload_n (pc := 51) hG dX4_readPiece_51 0 rfl ?_
    refine q_iload_n (pc := 52) hG dX4_readPiece_52 1 rfl ?_
    refine q_cVi (pc := 53) [.int x1] [] hG (c_X4_mayOpen τ σ a0 x1 hI tA0) my_X4_mayOpen mv_X4_mayOpen w335 dX4_readPiece_53 tA0 (by decide) rfl rfl (Nat.le_of_ble_eq_true rfl) (by decide) (fun v53 s53 p53 => ?_)
    have w53 := hS0.trans p53.1 rfl
    replace hF := fx_C hF p53.2.2.1
    refine q_if_eq (pc := 56) hG 82 dX4_readPiece_56 rfl ?_ ?_
    · intro c56
      replace hF := fx_eq1 hF rfl rfl c56
      refine q_iconst (pc := 82) hG dX4_readPiece_82 ki_0 ?_
      exact q_zrt hG hE dX4_readPiece_83 (q_r.mono rl_0 (by decide)) ⟨w53, (q_r.mono rl_0 (by decide)), (by rw [tl_0]; exact fx_end hF hF0)⟩
    intro c56
    have g_2 := p53.2.2.2 (q_one p53.2.1 c56)
    replace hF := fx_eq2 hF rfl rfl c56
    refine q_aload_n (pc := 59) hG dX4_readPiece_59 0 rfl ?_
    refine q_iload_n (pc := 60) hG dX4_readPiece_60 1 rfl ?_
    refine q_iconst (pc := 61) hG dX4_readPiece_61 ki_1 ?_
    refine q_iadd (pc := 62) hG dX4_readPiece_62 (fun v62 e62 => ?_)
    replace hF := fx_add hF rfl tl_1 (q_addN (lo := 4) (hi := 4) e62 rA1 rl_1 (by decide)).1
    have r_3 := (q_addN (lo := 4) (hi := 4) e62 rA1 rl_1 (by decide)).2
    refine q_cVi (pc := 63) [.int v62] [] hG (c_X4_readParts_L4 τ s53 a0 v62 w53.1 tA0 r_3 at1 (w53.same tA0 rfl ht) Tt) my_X4_readParts mv_X4_readParts w358 dX4_readPiece_63 tA0 (by decide) rfl rfl (Nat.le_of_ble_eq_true rfl) (by decide) (fun v63 s63 p63 => ?_)
    have w63 := w53.trans p63.1 rfl
    replace hF := fx_C hF p63.2.2
    refine q_if_eq (pc := 66) hG 82 dX4_readPiece_66 rfl ?_ ?_
    · intro c66
      replace hF := fx_eq1 hF rfl rfl c66
      refine q_iconst (pc := 82) hG dX4_readPiece_82 ki_0 ?_
      exact q_zrt hG hE dX4_readPiece_83 (q_r.mono rl_0 (by decide)) ⟨w63, (q_r.mono rl_0 (by decide)), (by rw [tl_0]; exact fx_end hF hF0)⟩
    intro c66
    replace hF := fx_eq2 hF rfl rfl c66
    refine q_aload_n (pc := 69) hG dX4_readPiece_69 0 rfl ?_
    refine q_bipush (pc := 70) hG dX4_readPiece_70 kb_41 ?_
    refine q_cVi (pc := 72) [.int 41] [] hG (c_X4_expect τ s63 a0 41 w63.1 tA0 at1 (w63.same tA0 rfl ht) Tt) my_X4_expect mv_X4_expect w338 dX4_readPiece_72 tA0 (by decide) rfl rfl (Nat.le_of_ble_eq_true rfl) (by decide) (fun v72 s72 p72 => ?_)
    have w72 := w63.trans p72.1 rfl
    have fq72 := p72.2.2
    rewrite [tl_41] at fq72
    replace hF := fx_C hF fq72
    refine q_if_eq (pc := 75) hG 82 dX4_readPiece_75 rfl ?_ ?_
    · intro c75
      replace hF := fx_eq1 hF rfl rfl c75
      refine q_iconst (pc := 82) hG dX4_readPiece_82 ki_0 ?_
      exact q_zrt hG hE dX4_readPiece_83 (q_r.mono rl_0 (by decide)) ⟨w72, (q_r.mono rl_0 (by decide)), (by rw [tl_0]; exact fx_end hF hF0)⟩
    intro c75
    replace hF := fx_eq2 hF rfl rfl c75
    refine q_iconst (pc := 78) hG dX4_readPiece_78 ki_1 ?_
    refine q_goto (pc := 79) 83 hG dX4_readPiece_79 rfl ?_
    exact q_zrt hG hE dX4_readPiece_83 (q_r.mono rl_1 (by decide)) ⟨w72, (q_r.mono rl_1 (by decide)), (by rw [tl_1]; exact fx_end hF hF0)⟩
  intro c6
  replace hF := fx_eq1 hF rfl tl_33 c6
  refine q_aload_n (pc := 9) hG dX4_readPiece_9 0 rfl ?_
  refine q_iload_n (pc := 10) hG dX4_readPiece_10 1 rfl ?_
  refine q_cVi (pc := 11) [.int x1] [] hG (c_X4_mayOpen τ σ a0 x1 hI tA0) my_X4_mayOpen mv_X4_mayOpen w335 dX4_readPiece_11 tA0 (by decide) rfl rfl (Nat.le_of_ble_eq_true rfl) (by decide) (fun v11 s11 p11 => ?_)
  have w11 := hS0.trans p11.1 rfl
  replace hF := fx_C hF p11.2.2.1
  refine q_if_eq (pc := 14) hG 27 dX4_readPiece_14 rfl ?_ ?_
  · intro c14
    replace hF := fx_eq1 hF rfl rfl c14
    refine q_iconst (pc := 27) hG dX4_readPiece_27 ki_0 ?_
    exact q_zrt hG hE dX4_readPiece_28 (q_r.mono rl_0 (by decide)) ⟨w11, (q_r.mono rl_0 (by decide)), (by rw [tl_0]; exact fx_end hF hF0)⟩
  intro c14
  have g_4 := p11.2.2.2 (q_one p11.2.1 c14)
  replace hF := fx_eq2 hF rfl rfl c14
  refine q_aload_n (pc := 17) hG dX4_readPiece_17 0 rfl ?_
  refine q_iload_n (pc := 18) hG dX4_readPiece_18 1 rfl ?_
  refine q_iconst (pc := 19) hG dX4_readPiece_19 ki_1 ?_
  refine q_iadd (pc := 20) hG dX4_readPiece_20 (fun v20 e20 => ?_)
  replace hF := fx_add hF rfl tl_1 (q_addN (lo := 4) (hi := 4) e20 rA1 rl_1 (by decide)).1
  have r_5 := (q_addN (lo := 4) (hi := 4) e20 rA1 rl_1 (by decide)).2
  refine q_cVi (pc := 21) [.int v20] [] hG (c_X4_readPiece_L4 τ s11 a0 v20 w11.1 tA0 r_5 at1 (w11.same tA0 rfl ht) Tt) my_X4_readPiece mv_X4_readPiece w364 dX4_readPiece_21 tA0 (by decide) rfl rfl (Nat.le_of_ble_eq_true rfl) (by decide) (fun v21 s21 p21 => ?_)
  have w21 := w11.trans p21.1 rfl
  replace hF := fx_C hF p21.2.2
  refine q_if_ne (pc := 24) hG 29 dX4_readPiece_24 rfl ?_ ?_
  · intro c24
    replace hF := fx_eq2 hF rfl rfl c24
    refine q_aload_n (pc := 29) hG dX4_readPiece_29 0 rfl ?_
    refine q_getR (pc := 30) (k2 := 3) (n2 := 1) hG fl_X4_31 dX4_readPiece_30 w21.1 tA0 ff_4_4 (fun b30 f30 T30 => ?_)
    replace hF := fx_R hF f30 rfl
    have f_6 := (w21.2 _ _ _ _ tA0 rfl).symm.trans f30
    refine q_bipush (pc := 33) hG dX4_readPiece_33 kb_33 ?_
    refine q_iconst (pc := 35) hG dX4_readPiece_35 ki_0 ?_
    refine q_cVi (pc := 36) [.int 33, .int 0] [] hG (c_X3_add τ s21 b30 33 0 w21.1 T30) my_X3_add mv_X3_add w344 dX4_readPiece_36 T30 (by decide) rfl rfl (Nat.le_of_ble_eq_true rfl) (by decide) (fun v36 s36 p36 => ?_)
    have w36 := w21.trans p36.1 rfl
    have fq36 := p36.2.2
    rewrite [tl_0, tl_33] at fq36
    replace hF := fx_C hF fq36
    refine q_pop (pc := 39) hG dX4_readPiece_39 rfl ?_
    refine q_iconst (pc := 40) hG dX4_readPiece_40 ki_1 ?_
    exact q_zrt hG hE dX4_readPiece_41 (q_r.mono rl_1 (by decide)) ⟨w36, (q_r.mono rl_1 (by decide)), (by rw [tl_1]; exact fx_end hF hF0)⟩
  intro c24
  replace hF := fx_eq1 hF rfl rfl c24
  refine q_iconst (pc := 27) hG dX4_readPiece_27 ki_0 ?_
  exact q_zrt hG hE dX4_readPiece_28 (q_r.mono rl_0 (by decide)) ⟨w21, (q_r.mono rl_0 (by decide)), (by rw [tl_0]; exact fx_end hF hF0)⟩
def md_X4_readPart_L3 : List (Nat × Nat) := [(3, 1), (3, 2), (4, 2), (4, 3), (112, 0), (113, 0)]
set_option maxRecDepth 100000 in
set_option maxHeartbeats 4000000 in
theorem c_X4_readPart_L3 {l : Launch} {D : q_D} (τ : q_T) (σ : q_V) (a0 : Nat) (x1 : Int32) (hI : q_I τ σ) (tA0 : τ a0 = some (4, 1)) (rA1 : q_r x1 3 3) (at1 : Nat) (ht : σ a0 0 = .ref at1) (Tt : τ at1 = some (110, 260)) : q_Ci l D yX4_readPart cX4_readPart 5 (some .boolean) 15 346 τ σ [.ref a0, .int x1] (fun r σ1 => q_S md_X4_readPart_L3 τ σ σ1 ∧ (q_r r 0 1) ∧ ((r.toInt, fx_N σ1) = f_X4_readPart_L3 (fx_N σ) a0 x1.toInt)) := by
  refine q_meti rfl (Nat.le_of_ble_eq_true rfl) (fun X hG hE => ?_)
  show q_O X 0 0 τ σ 0 [(0, .ref a0), (1, .int x1)] []
  have hS0 : q_S md_X4_readPart_L3 τ σ σ := q_S.rf hI
  obtain ⟨Fv, hF⟩ : ∃ z, fx_eq z (f_X4_readPart_L3 (fx_N σ) a0 x1.toInt) := ⟨_, fx_rf⟩
  have hF0 := hF
  unfold f_X4_readPart_L3 at hF
  replace hF := fx_R hF ht rfl
  refine q_aload_n (pc := 0) hG dX4_readPart_0 0 rfl ?_
  refine q_iload_n (pc := 1) hG dX4_readPart_1 1 rfl ?_
  refine q_cVi (pc := 2) [.int x1] [] hG (c_X4_readPiece_L3 τ σ a0 x1 hI tA0 rA1 at1 ht Tt) my_X4_readPiece mv_X4_readPiece w364 dX4_readPart_2 tA0 (by decide) rfl rfl (Nat.le_of_ble_eq_true rfl) (by decide) (fun v2 s2 p2 => ?_)
  have w2 := hS0.trans p2.1 rfl
  replace hF := fx_C hF p2.2.2
  refine q_istore_n (pc := 5) [(2, .int v2), (0, .ref a0), (1, .int x1)] hG dX4_readPart_5 (by decide) rfl ?_
  refine q_iconst (pc := 6) hG dX4_readPart_6 ki_0 ?_
  refine q_istore_n (pc := 7) [(3, .int 0), (2, .int v2), (0, .ref a0), (1, .int x1)] hG dX4_readPart_7 (by decide) rfl ?_
  have J8 : ∀ (n8 : Nat) (p8_2 : Int32) (p8_3 : Int32) (σ8 : q_V), (q_r p8_2 0 1) → (q_r p8_3 0 240) → (q_S md_X4_readPart_L3 τ σ σ8) → (fx_eq Fv (kL_X4_readPart_L3_8 a0 x1.toInt n8 p8_2.toInt p8_3.toInt (fx_N σ8))) → ((240 - p8_3.toInt).toNat < n8) → q_O X 0 0 τ σ8 8 [(0, .ref a0), (1, .int x1), (2, .int p8_2), (3, .int p8_3)] [] := by
    intro n8
    induction n8 with
    | zero => intro p8_2 p8_3 σ8 r8_2 r8_3 hS8 hF hm8; exact absurd hm8 (Nat.not_lt_zero _)
    | succ n8 ih8 =>
      intro p8_2 p8_3 σ8 r8_2 r8_3 hS8 hF hm8
      replace hF := (show fx_eq Fv (kB_X4_readPart_L3_8 (kL_X4_readPart_L3_8 a0 x1.toInt n8) a0 x1.toInt p8_2.toInt p8_3.toInt (fx_N σ8)) from hF)
      unfold kB_X4_readPart_L3_8 at hF
      refine q_iload_n (pc := 8) hG dX4_readPart_8 3 rfl ?_
      refine q_sipush (pc := 9) hG dX4_readPart_9 ks_240 ?_
      refine q_icmp_ge (pc := 12) hG 71 dX4_readPart_12 rfl ?_ ?_
      · intro c12
        replace hF := fx_lt2 hF rfl tl_240 c12
        refine q_iload_n (pc := 71) hG dX4_readPart_71 2 rfl ?_
        exact q_zrt hG hE dX4_readPart_72 r8_2 ⟨hS8, r8_2, (fx_end hF hF0)⟩
      intro c12
      replace hF := fx_lt1 hF rfl tl_240 c12
      refine q_iload_n (pc := 15) hG dX4_readPart_15 2 rfl ?_
      refine q_if_eq (pc := 16) hG 71 dX4_readPart_16 rfl ?_ ?_
      · intro c16
        replace hF := fx_eq1 hF rfl rfl c16
        refine q_iload_n (pc := 71) hG dX4_readPart_71 2 rfl ?_
        have r_1 := q_zeq c16
        exact q_zrt hG hE dX4_readPart_72 (q_r.mono r_1 (by decide)) ⟨hS8, (q_r.mono r_1 (by decide)), (fx_end hF hF0)⟩
      intro c16
      replace hF := fx_eq2 hF rfl rfl c16
      refine q_aload_n (pc := 19) hG dX4_readPart_19 0 rfl ?_
      refine q_pV (pc := 20) [] [] hG (c_X4_peek τ σ8 a0 hS8.1 tA0 at1 (hS8.same tA0 rfl ht) Tt) my_X4_peek mv_X4_peek w316 dX4_readPart_20 tA0 (by decide) rfl rfl (Nat.le_of_ble_eq_true rfl) (by decide) (fun v20 p20 => ?_)
      replace hF := fx_E hF p20.2
      refine q_bipush (pc := 23) hG dX4_readPart_23 kb_38 ?_
      refine q_icmp_ne (pc := 25) hG 71 dX4_readPart_25 rfl ?_ ?_
      · intro c25
        replace hF := fx_eq2 hF rfl tl_38 c25
        refine q_iload_n (pc := 71) hG dX4_readPart_71 2 rfl ?_
        have r_2 := q_neL (c := 1) r8_2 c16 (by decide)
        exact q_zrt hG hE dX4_readPart_72 (q_r.mono r_2 (by decide)) ⟨hS8, (q_r.mono r_2 (by decide)), (fx_end hF hF0)⟩
      intro c25
      replace hF := fx_eq1 hF rfl tl_38 c25
      refine q_aload_n (pc := 28) hG dX4_readPart_28 0 rfl ?_
      refine q_dup (pc := 29) hG dX4_readPart_29 rfl ?_
      refine q_getI (pc := 30) hG fl_X4_22 dX4_readPart_30 hS8.1 tA0 ff_4_2 (fun v30 f30 g30 => ?_)
      replace hF := fx_I hF f30 rfl
      refine q_iconst (pc := 33) hG dX4_readPart_33 ki_1 ?_
      refine q_iadd (pc := 34) hG dX4_readPart_34 (fun v34 e34 => ?_)
      replace hF := fx_B_add hF rfl tl_1 e34
      refine q_putI (pc := 35) hG fl_X4_22 dX4_readPart_35 hS8 tA0 ff_4_2 (q_r_any v34) (by decide) rfl (fun s35 u35 w35 => ?_)
      replace hF := fx_P hF u35 rfl rfl
      have m35 : s35 a0 2 = .int v34 := by rw [u35]; exact q_up_same
      refine q_aload_n (pc := 38) hG dX4_readPart_38 0 rfl ?_
      refine q_getR (pc := 39) (k2 := 3) (n2 := 1) hG fl_X4_31 dX4_readPart_39 w35.1 tA0 ff_4_4 (fun b39 f39 T39 => ?_)
      replace hF := fx_R hF f39 rfl
      have f_3 := (w35.2 _ _ _ _ tA0 rfl).symm.trans f39
      refine q_bipush (pc := 42) hG dX4_readPart_42 kb_38 ?_
      refine q_iconst (pc := 44) hG dX4_readPart_44 ki_0 ?_
      refine q_cVi (pc := 45) [.int 38, .int 0] [] hG (c_X3_add τ s35 b39 38 0 w35.1 T39) my_X3_add mv_X3_add w344 dX4_readPart_45 T39 (by decide) rfl rfl (Nat.le_of_ble_eq_true rfl) (by decide) (fun v45 s45 p45 => ?_)
      have w45 := w35.trans p45.1 rfl
      have fq45 := p45.2.2
      rewrite [tl_0, tl_38] at fq45
      replace hF := fx_C hF fq45
      refine q_istore (pc := 48) [(4, .int v45), (0, .ref a0), (1, .int x1), (2, .int p8_2), (3, .int p8_3)] hG dX4_readPart_48 (by decide) rfl ?_
      refine q_aload_n (pc := 50) hG dX4_readPart_50 1 rfl ?_
      refine q_iload_n (pc := 51) hG dX4_readPart_51 2 rfl ?_
      refine q_cVi (pc := 52) [.int x1] [] hG (c_X4_readPiece_L3 τ s45 a0 x1 w45.1 tA0 rA1 at1 (w45.same tA0 rfl ht) Tt) my_X4_readPiece mv_X4_readPiece w364 dX4_readPart_52 tA0 (by decide) rfl rfl (Nat.le_of_ble_eq_true rfl) (by decide) (fun v52 s52 p52 => ?_)
      have w52 := w45.trans p52.1 rfl
      replace hF := fx_C hF p52.2.2
      refine q_istore_n (pc := 55) [(2, .int v52), (4, .int v45), (0, .ref a0), (1, .int x1), (3, .int p8_3)] hG dX4_readPart_55 (by decide) rfl ?_
      refine q_aload_n (pc := 56) hG dX4_readPart_56 2 rfl ?_
      refine q_getV (pc := 57) (v := .ref b39) hG fl_X4_31 dX4_readPart_57 tA0 (w52.same tA0 rfl f_3) ?_
      refine q_iload (pc := 60) hG dX4_readPart_60 1 rfl ?_
      refine q_cVv (pc := 62) [.int v45] [] hG (c_X3_leadHere τ s52 b39 v45 w52.1 T39) my_X3_leadHere mv_X3_leadHere w367 dX4_readPart_62 T39 (by decide) rfl rfl (Nat.le_of_ble_eq_true rfl) (by decide) (fun s62 p62 => ?_)
      have w62 := w52.trans p62.1 rfl
      replace hF := fx_S hF p62.2
      obtain ⟨v65, e65⟩ : ∃ z : Int32, z = p8_3 + Int32.ofInt 1 := ⟨_, rfl⟩
      have r_4 := q_rlt r8_3 rl_240 c12 239 (by decide)
      have h65 := q_incN (lo := 1) (hi := 240) r_4 (by decide) (by decide) e65
      replace hF := fx_add hF rfl rfl h65.1
      refine q_iinc (pc := 65) [(3, .int v65), (2, .int v52), (4, .int v45), (0, .ref a0), (1, .int x1)] hG dX4_readPart_65 4 rfl e65 (by decide) rfl ?_
      refine q_goto (pc := 68) 8 hG dX4_readPart_68 rfl ?_
      refine q_lv [3, 4, 1, 0] rfl ?_
      exact ih8 v52 v65 s62 p52.2.1 (q_r.mono h65.2 (by decide)) w62 hF (q_measU hm8 (by have o0 := c12; have o1 := h65.1; have o2 := r_4; have o3 := h65.2; have l4 := tl_240; unfold q_r at o2 o3; omega) (h65.2).2)
  refine q_lv [2, 3, 1, 0] rfl ?_
  exact J8 ((240 - (0 : Int32).toInt).toNat + 1) v2 0 s2 p2.2.1 (q_r.mono rl_0 (by decide)) w2 (by rw [tl_0]; exact hF) (Nat.lt_succ_self _)
def md_X4_readParts_L3 : List (Nat × Nat) := [(3, 1), (3, 2), (4, 2), (4, 3), (112, 0), (113, 0)]
set_option maxRecDepth 100000 in
set_option maxHeartbeats 4000000 in
theorem c_X4_readParts_L3 {l : Launch} {D : q_D} (τ : q_T) (σ : q_V) (a0 : Nat) (x1 : Int32) (hI : q_I τ σ) (tA0 : τ a0 = some (4, 1)) (rA1 : q_r x1 3 3) (at1 : Nat) (ht : σ a0 0 = .ref at1) (Tt : τ at1 = some (110, 260)) : q_Ci l D yX4_readParts cX4_readParts 5 (some .boolean) 16 370 τ σ [.ref a0, .int x1] (fun r σ1 => q_S md_X4_readParts_L3 τ σ σ1 ∧ (q_r r 0 1) ∧ ((r.toInt, fx_N σ1) = f_X4_readParts_L3 (fx_N σ) a0 x1.toInt)) := by
  refine q_meti rfl (Nat.le_of_ble_eq_true rfl) (fun X hG hE => ?_)
  show q_O X 0 0 τ σ 0 [(0, .ref a0), (1, .int x1)] []
  have hS0 : q_S md_X4_readParts_L3 τ σ σ := q_S.rf hI
  obtain ⟨Fv, hF⟩ : ∃ z, fx_eq z (f_X4_readParts_L3 (fx_N σ) a0 x1.toInt) := ⟨_, fx_rf⟩
  have hF0 := hF
  unfold f_X4_readParts_L3 at hF
  replace hF := fx_R hF ht rfl
  refine q_aload_n (pc := 0) hG dX4_readParts_0 0 rfl ?_
  refine q_iload_n (pc := 1) hG dX4_readParts_1 1 rfl ?_
  refine q_cVi (pc := 2) [.int x1] [] hG (c_X4_readPart_L3 τ σ a0 x1 hI tA0 rA1 at1 ht Tt) my_X4_readPart mv_X4_readPart w361 dX4_readParts_2 tA0 (by decide) rfl rfl (Nat.le_of_ble_eq_true rfl) (by decide) (fun v2 s2 p2 => ?_)
  have w2 := hS0.trans p2.1 rfl
  replace hF := fx_C hF p2.2.2
  refine q_istore_n (pc := 5) [(2, .int v2), (0, .ref a0), (1, .int x1)] hG dX4_readParts_5 (by decide) rfl ?_
  refine q_iconst (pc := 6) hG dX4_readParts_6 ki_0 ?_
  refine q_istore_n (pc := 7) [(3, .int 0), (2, .int v2), (0, .ref a0), (1, .int x1)] hG dX4_readParts_7 (by decide) rfl ?_
  have J8 : ∀ (n8 : Nat) (p8_2 : Int32) (p8_3 : Int32) (σ8 : q_V), (q_r p8_2 0 1) → (q_r p8_3 0 240) → (q_S md_X4_readParts_L3 τ σ σ8) → (fx_eq Fv (kL_X4_readParts_L3_8 a0 x1.toInt n8 p8_2.toInt p8_3.toInt (fx_N σ8))) → ((240 - p8_3.toInt).toNat < n8) → q_O X 0 0 τ σ8 8 [(0, .ref a0), (1, .int x1), (2, .int p8_2), (3, .int p8_3)] [] := by
    intro n8
    induction n8 with
    | zero => intro p8_2 p8_3 σ8 r8_2 r8_3 hS8 hF hm8; exact absurd hm8 (Nat.not_lt_zero _)
    | succ n8 ih8 =>
      intro p8_2 p8_3 σ8 r8_2 r8_3 hS8 hF hm8
      replace hF := (show fx_eq Fv (kB_X4_readParts_L3_8 (kL_X4_readParts_L3_8 a0 x1.toInt n8) a0 x1.toInt p8_2.toInt p8_3.toInt (fx_N σ8)) from hF)
      unfold kB_X4_readParts_L3_8 at hF
      refine q_iload_n (pc := 8) hG dX4_readParts_8 3 rfl ?_
      refine q_sipush (pc := 9) hG dX4_readParts_9 ks_240 ?_
      refine q_icmp_ge (pc := 12) hG 71 dX4_readParts_12 rfl ?_ ?_
      · intro c12
        replace hF := fx_lt2 hF rfl tl_240 c12
        refine q_iload_n (pc := 71) hG dX4_readParts_71 2 rfl ?_
        exact q_zrt hG hE dX4_readParts_72 r8_2 ⟨hS8, r8_2, (fx_end hF hF0)⟩
      intro c12
      replace hF := fx_lt1 hF rfl tl_240 c12
      refine q_iload_n (pc := 15) hG dX4_readParts_15 2 rfl ?_
      refine q_if_eq (pc := 16) hG 71 dX4_readParts_16 rfl ?_ ?_
      · intro c16
        replace hF := fx_eq1 hF rfl rfl c16
        refine q_iload_n (pc := 71) hG dX4_readParts_71 2 rfl ?_
        have r_1 := q_zeq c16
        exact q_zrt hG hE dX4_readParts_72 (q_r.mono r_1 (by decide)) ⟨hS8, (q_r.mono r_1 (by decide)), (fx_end hF hF0)⟩
      intro c16
      replace hF := fx_eq2 hF rfl rfl c16
      refine q_aload_n (pc := 19) hG dX4_readParts_19 0 rfl ?_
      refine q_pV (pc := 20) [] [] hG (c_X4_peek τ σ8 a0 hS8.1 tA0 at1 (hS8.same tA0 rfl ht) Tt) my_X4_peek mv_X4_peek w316 dX4_readParts_20 tA0 (by decide) rfl rfl (Nat.le_of_ble_eq_true rfl) (by decide) (fun v20 p20 => ?_)
      replace hF := fx_E hF p20.2
      refine q_bipush (pc := 23) hG dX4_readParts_23 kb_124 ?_
      refine q_icmp_ne (pc := 25) hG 71 dX4_readParts_25 rfl ?_ ?_
      · intro c25
        replace hF := fx_eq2 hF rfl tl_124 c25
        refine q_iload_n (pc := 71) hG dX4_readParts_71 2 rfl ?_
        have r_2 := q_neL (c := 1) r8_2 c16 (by decide)
        exact q_zrt hG hE dX4_readParts_72 (q_r.mono r_2 (by decide)) ⟨hS8, (q_r.mono r_2 (by decide)), (fx_end hF hF0)⟩
      intro c25
      replace hF := fx_eq1 hF rfl tl_124 c25
      refine q_aload_n (pc := 28) hG dX4_readParts_28 0 rfl ?_
      refine q_dup (pc := 29) hG dX4_readParts_29 rfl ?_
      refine q_getI (pc := 30) hG fl_X4_22 dX4_readParts_30 hS8.1 tA0 ff_4_2 (fun v30 f30 g30 => ?_)
      replace hF := fx_I hF f30 rfl
      refine q_iconst (pc := 33) hG dX4_readParts_33 ki_1 ?_
      refine q_iadd (pc := 34) hG dX4_readParts_34 (fun v34 e34 => ?_)
      replace hF := fx_B_add hF rfl tl_1 e34
      refine q_putI (pc := 35) hG fl_X4_22 dX4_readParts_35 hS8 tA0 ff_4_2 (q_r_any v34) (by decide) rfl (fun s35 u35 w35 => ?_)
      replace hF := fx_P hF u35 rfl rfl
      have m35 : s35 a0 2 = .int v34 := by rw [u35]; exact q_up_same
      refine q_aload_n (pc := 38) hG dX4_readParts_38 0 rfl ?_
      refine q_getR (pc := 39) (k2 := 3) (n2 := 1) hG fl_X4_31 dX4_readParts_39 w35.1 tA0 ff_4_4 (fun b39 f39 T39 => ?_)
      replace hF := fx_R hF f39 rfl
      have f_3 := (w35.2 _ _ _ _ tA0 rfl).symm.trans f39
      refine q_bipush (pc := 42) hG dX4_readParts_42 kb_124 ?_
      refine q_iconst (pc := 44) hG dX4_readParts_44 ki_0 ?_
      refine q_cVi (pc := 45) [.int 124, .int 0] [] hG (c_X3_add τ s35 b39 124 0 w35.1 T39) my_X3_add mv_X3_add w344 dX4_readParts_45 T39 (by decide) rfl rfl (Nat.le_of_ble_eq_true rfl) (by decide) (fun v45 s45 p45 => ?_)
      have w45 := w35.trans p45.1 rfl
      have fq45 := p45.2.2
      rewrite [tl_0, tl_124] at fq45
      replace hF := fx_C hF fq45
      refine q_istore (pc := 48) [(4, .int v45), (0, .ref a0), (1, .int x1), (2, .int p8_2), (3, .int p8_3)] hG dX4_readParts_48 (by decide) rfl ?_
      refine q_aload_n (pc := 50) hG dX4_readParts_50 1 rfl ?_
      refine q_iload_n (pc := 51) hG dX4_readParts_51 2 rfl ?_
      refine q_cVi (pc := 52) [.int x1] [] hG (c_X4_readPart_L3 τ s45 a0 x1 w45.1 tA0 rA1 at1 (w45.same tA0 rfl ht) Tt) my_X4_readPart mv_X4_readPart w361 dX4_readParts_52 tA0 (by decide) rfl rfl (Nat.le_of_ble_eq_true rfl) (by decide) (fun v52 s52 p52 => ?_)
      have w52 := w45.trans p52.1 rfl
      replace hF := fx_C hF p52.2.2
      refine q_istore_n (pc := 55) [(2, .int v52), (4, .int v45), (0, .ref a0), (1, .int x1), (3, .int p8_3)] hG dX4_readParts_55 (by decide) rfl ?_
      refine q_aload_n (pc := 56) hG dX4_readParts_56 2 rfl ?_
      refine q_getV (pc := 57) (v := .ref b39) hG fl_X4_31 dX4_readParts_57 tA0 (w52.same tA0 rfl f_3) ?_
      refine q_iload (pc := 60) hG dX4_readParts_60 1 rfl ?_
      refine q_cVv (pc := 62) [.int v45] [] hG (c_X3_leadHere τ s52 b39 v45 w52.1 T39) my_X3_leadHere mv_X3_leadHere w367 dX4_readParts_62 T39 (by decide) rfl rfl (Nat.le_of_ble_eq_true rfl) (by decide) (fun s62 p62 => ?_)
      have w62 := w52.trans p62.1 rfl
      replace hF := fx_S hF p62.2
      obtain ⟨v65, e65⟩ : ∃ z : Int32, z = p8_3 + Int32.ofInt 1 := ⟨_, rfl⟩
      have r_4 := q_rlt r8_3 rl_240 c12 239 (by decide)
      have h65 := q_incN (lo := 1) (hi := 240) r_4 (by decide) (by decide) e65
      replace hF := fx_add hF rfl rfl h65.1
      refine q_iinc (pc := 65) [(3, .int v65), (2, .int v52), (4, .int v45), (0, .ref a0), (1, .int x1)] hG dX4_readParts_65 4 rfl e65 (by decide) rfl ?_
      refine q_goto (pc := 68) 8 hG dX4_readParts_68 rfl ?_
      refine q_lv [3, 4, 1, 0] rfl ?_
      exact ih8 v52 v65 s62 p52.2.1 (q_r.mono h65.2 (by decide)) w62 hF (q_measU hm8 (by have o0 := c12; have o1 := h65.1; have o2 := r_4; have o3 := h65.2; have l4 := tl_240; unfold q_r at o2 o3; omega) (h65.2).2)
  refine q_lv [2, 3, 1, 0] rfl ?_
  exact J8 ((240 - (0 : Int32).toInt).toNat + 1) v2 0 s2 p2.2.1 (q_r.mono rl_0 (by decide)) w2 (by rw [tl_0]; exact hF) (Nat.lt_succ_self _)
def md_X4_readPiece_L2 : List (Nat × Nat) := [(3, 1), (3, 2), (4, 2), (4, 3), (112, 0), (113, 0)]
set_option maxRecDepth 100000 in
set_option maxHeartbeats 4000000 in
theorem c_X4_readPiece_L2 {l : Launch} {D : q_D} (τ : q_T) (σ : q_V) (a0 : Nat) (x1 : Int32) (hI : q_I τ σ) (tA0 : τ a0 = some (4, 1)) (rA1 : q_r x1 2 2) (at1 : Nat) (ht : σ a0 0 = .ref at1) (Tt : τ at1 = some (110, 260)) : q_Ci l D yX4_readPiece cX4_readPiece 3 (some .boolean) 17 394 τ σ [.ref a0, .int x1] (fun r σ1 => q_S md_X4_readPiece_L2 τ σ σ1 ∧ (q_r r 0 1) ∧ ((r.toInt, fx_N σ1) = f_X4_readPiece_L2 (fx_N σ) a0 x1.toInt)) := by
  refine q_meti rfl (Nat.le_of_ble_eq_true rfl) (fun X hG hE => ?_)
  show q_O X 0 0 τ σ 0 [(0, .ref a0), (1, .int x1)] []
  have hS0 : q_S md_X4_readPiece_L2 τ σ σ := q_S.rf hI
  obtain ⟨Fv, hF⟩ : ∃ z, fx_eq z (f_X4_readPiece_L2 (fx_N σ) a0 x1.toInt) := ⟨_, fx_rf⟩
  have hF0 := hF
  unfold f_X4_readPiece_L2 at hF
  replace hF := fx_R hF ht rfl
  refine q_aload_n (pc := 0) hG dX4_readPiece_0 0 rfl ?_
  refine q_pV (pc := 1) [] [] hG (c_X4_peek τ σ a0 hI tA0 at1 ht Tt) my_X4_peek mv_X4_peek w316 dX4_readPiece_1 tA0 (by decide) rfl rfl (Nat.le_of_ble_eq_true rfl) (by decide) (fun v1 p1 => ?_)
  replace hF := fx_E hF p1.2
  refine q_bipush (pc := 4) hG dX4_readPiece_4 kb_33 ?_
  refine q_icmp_ne (pc := 6) hG 42 dX4_readPiece_6 rfl ?_ ?_
  · intro c6
    replace hF := fx_eq2 hF rfl tl_33 c6
    refine q_aload_n (pc := 42) hG dX4_readPiece_42 0 rfl ?_
    refine q_pV (pc := 43) [] [] hG (c_X4_peek τ σ a0 hI tA0 at1 ht Tt) my_X4_peek mv_X4_peek w316 dX4_readPiece_43 tA0 (by decide) rfl rfl (Nat.le_of_ble_eq_true rfl) (by decide) (fun v43 p43 => ?_)
    replace hF := fx_E hF p43.2
    refine q_bipush (pc := 46) hG dX4_readPiece_46 kb_40 ?_
    refine q_icmp_ne (pc := 48) hG 84 dX4_readPiece_48 rfl ?_ ?_
    · intro c48
      replace hF := fx_eq2 hF rfl tl_40 c48
      refine q_aload_n (pc := 84) hG dX4_readPiece_84 0 rfl ?_
      refine q_iload_n (pc := 85) hG dX4_readPiece_85 1 rfl ?_
      refine q_cVi (pc := 86) [.int x1] [] hG (c_X4_readSum_L2 τ σ a0 x1 hI tA0 rA1 at1 ht Tt) my_X4_readSum mv_X4_readSum w326 dX4_readPiece_86 tA0 (by decide) rfl rfl (Nat.le_of_ble_eq_true rfl) (by decide) (fun v86 s86 p86 => ?_)
      have w86 := hS0.trans p86.1 rfl
      replace hF := fx_C hF p86.2.2
      refine q_if_ne (pc := 89) hG 94 dX4_readPiece_89 rfl ?_ ?_
      · intro c89
        replace hF := fx_eq2 hF rfl rfl c89
        refine q_aload_n (pc := 94) hG dX4_readPiece_94 0 rfl ?_
        refine q_pV (pc := 95) [] [] hG (c_X4_peek τ s86 a0 w86.1 tA0 at1 (w86.same tA0 rfl ht) Tt) my_X4_peek mv_X4_peek w316 dX4_readPiece_95 tA0 (by decide) rfl rfl (Nat.le_of_ble_eq_true rfl) (by decide) (fun v95 p95 => ?_)
        replace hF := fx_E hF p95.2
        refine q_istore_n (pc := 98) [(2, .int v95), (0, .ref a0), (1, .int x1)] hG dX4_readPiece_98 (by decide) rfl ?_
        refine q_iload_n (pc := 99) hG dX4_readPiece_99 0 rfl ?_
        refine q_bipush (pc := 100) hG dX4_readPiece_100 kb_60 ?_
        have J123 : (fx_eq Fv (kJ_X4_readPiece_L2_123 (fx_N s86) a0 x1.toInt v95.toInt)) → q_O X 0 0 τ s86 123 [(0, .ref a0), (1, .int x1), (2, .int v95)] [] := by
          intro hF
          unfold kJ_X4_readPiece_L2_123 at hF
          refine q_aload_n (pc := 123) hG dX4_readPiece_123 0 rfl ?_
          refine q_dup (pc := 124) hG dX4_readPiece_124 rfl ?_
          refine q_getI (pc := 125) hG fl_X4_22 dX4_readPiece_125 w86.1 tA0 ff_4_2 (fun v125 f125 g125 => ?_)
          replace hF := fx_I hF f125 rfl
          refine q_iconst (pc := 128) hG dX4_readPiece_128 ki_1 ?_
          refine q_iadd (pc := 129) hG dX4_readPiece_129 (fun v129 e129 => ?_)
          replace hF := fx_B_add hF rfl tl_1 e129
          refine q_putI (pc := 130) hG fl_X4_22 dX4_readPiece_130 w86 tA0 ff_4_2 (q_r_any v129) (by decide) rfl (fun s130 u130 w130 => ?_)
          replace hF := fx_P hF u130 rfl rfl
          have m130 : s130 a0 2 = .int v129 := by rw [u130]; exact q_up_same
          refine q_aload_n (pc := 133) hG dX4_readPiece_133 0 rfl ?_
          refine q_iload_n (pc := 134) hG dX4_readPiece_134 1 rfl ?_
          refine q_cVi (pc := 135) [.int x1] [] hG (c_X4_readSum_L2 τ s130 a0 x1 w130.1 tA0 rA1 at1 (w130.same tA0 rfl ht) Tt) my_X4_readSum mv_X4_readSum w326 dX4_readPiece_135 tA0 (by decide) rfl rfl (Nat.le_of_ble_eq_true rfl) (by decide) (fun v135 s135 p135 => ?_)
          have w135 := w130.trans p135.1 rfl
          replace hF := fx_C hF p135.2.2
          refine q_if_ne (pc := 138) hG 143 dX4_readPiece_138 rfl ?_ ?_
          · intro c138
            replace hF := fx_eq2 hF rfl rfl c138
            refine q_aload_n (pc := 143) hG dX4_readPiece_143 0 rfl ?_
            refine q_getR (pc := 144) (k2 := 3) (n2 := 1) hG fl_X4_31 dX4_readPiece_144 w135.1 tA0 ff_4_4 (fun b144 f144 T144 => ?_)
            replace hF := fx_R hF f144 rfl
            have f_1 := (w135.2 _ _ _ _ tA0 rfl).symm.trans f144
            refine q_iload_n (pc := 147) hG dX4_readPiece_147 2 rfl ?_
            refine q_iconst (pc := 148) hG dX4_readPiece_148 ki_0 ?_
            refine q_cVi (pc := 149) [.int v95, .int 0] [] hG (c_X3_add τ s135 b144 v95 0 w135.1 T144) my_X3_add mv_X3_add w344 dX4_readPiece_149 T144 (by decide) rfl rfl (Nat.le_of_ble_eq_true rfl) (by decide) (fun v149 s149 p149 => ?_)
            have w149 := w135.trans p149.1 rfl
            have fq149 := p149.2.2
            rewrite [tl_0] at fq149
            replace hF := fx_C hF fq149
            refine q_pop (pc := 152) hG dX4_readPiece_152 rfl ?_
            refine q_iconst (pc := 153) hG dX4_readPiece_153 ki_1 ?_
            exact q_zrt hG hE dX4_readPiece_154 (q_r.mono rl_1 (by decide)) ⟨w149, (q_r.mono rl_1 (by decide)), (by rw [tl_1]; exact fx_end hF hF0)⟩
          intro c138
          replace hF := fx_eq1 hF rfl rfl c138
          refine q_iconst (pc := 141) hG dX4_readPiece_141 ki_0 ?_
          exact q_zrt hG hE dX4_readPiece_142 (q_r.mono rl_0 (by decide)) ⟨w135, (q_r.mono rl_0 (by decide)), (by rw [tl_0]; exact fx_end hF hF0)⟩
        refine q_icmp_eq (pc := 102) hG 123 dX4_readPiece_102 rfl ?_ ?_
        · intro c102
          replace hF := fx_eq1 hF rfl tl_60 c102
          refine q_lv [1, 2, 0] rfl ?_
          exact J123 hF
        intro c102
        replace hF := fx_eq2 hF rfl tl_60 c102
        refine q_iload_n (pc := 105) hG dX4_readPiece_105 0 rfl ?_
        refine q_bipush (pc := 106) hG dX4_readPiece_106 kb_62 ?_
        refine q_icmp_eq (pc := 108) hG 123 dX4_readPiece_108 rfl ?_ ?_
        · intro c108
          replace hF := fx_eq1 hF rfl tl_62 c108
          refine q_lv [1, 2, 0] rfl ?_
          exact J123 hF
        intro c108
        replace hF := fx_eq2 hF rfl tl_62 c108
        refine q_iload_n (pc := 111) hG dX4_readPiece_111 0 rfl ?_
        refine q_bipush (pc := 112) hG dX4_readPiece_112 kb_61 ?_
        refine q_icmp_eq (pc := 114) hG 123 dX4_readPiece_114 rfl ?_ ?_
        · intro c114
          replace hF := fx_eq1 hF rfl tl_61 c114
          refine q_lv [1, 2, 0] rfl ?_
          exact J123 hF
        intro c114
        replace hF := fx_eq2 hF rfl tl_61 c114
        refine q_aload_n (pc := 117) hG dX4_readPiece_117 1 rfl ?_
        refine q_iconst (pc := 118) hG dX4_readPiece_118 ki_1 ?_
        refine q_cVi (pc := 119) [.int 1] [] hG (c_X4_fail τ s86 a0 1 w86.1 tA0) my_X4_fail mv_X4_fail w319 dX4_readPiece_119 tA0 (by decide) rfl rfl (Nat.le_of_ble_eq_true rfl) (by decide) (fun v119 s119 p119 => ?_)
        have w119 := w86.trans p119.1 rfl
        have fq119 := p119.2.2
        rewrite [tl_1] at fq119
        replace hF := fx_C hF fq119
        exact q_zrt hG hE dX4_readPiece_122 (q_r.mono p119.2.1 (by decide)) ⟨w119, (q_r.mono p119.2.1 (by decide)), (fx_end hF hF0)⟩
      intro c89
      replace hF := fx_eq1 hF rfl rfl c89
      refine q_iconst (pc := 92) hG dX4_readPiece_92 ki_0 ?_
      exact q_zrt hG hE dX4_readPiece_93 (q_r.mono rl_0 (by decide)) ⟨w86, (q_r.mono rl_0 (by decide)), (by rw [tl_0]; exact fx_end hF hF0)⟩
    intro c48
    replace hF := fx_eq1 hF rfl tl_40 c48
    refine q_aload_n (pc := 51) hG dX4_readPiece_51 0 rfl ?_
    refine q_iload_n (pc := 52) hG dX4_readPiece_52 1 rfl ?_
    refine q_cVi (pc := 53) [.int x1] [] hG (c_X4_mayOpen τ σ a0 x1 hI tA0) my_X4_mayOpen mv_X4_mayOpen w335 dX4_readPiece_53 tA0 (by decide) rfl rfl (Nat.le_of_ble_eq_true rfl) (by decide) (fun v53 s53 p53 => ?_)
    have w53 := hS0.trans p53.1 rfl
    replace hF := fx_C hF p53.2.2.1
    refine q_if_eq (pc := 56) hG 82 dX4_readPiece_56 rfl ?_ ?_
    · intro c56
      replace hF := fx_eq1 hF rfl rfl c56
      refine q_iconst (pc := 82) hG dX4_readPiece_82 ki_0 ?_
      exact q_zrt hG hE dX4_readPiece_83 (q_r.mono rl_0 (by decide)) ⟨w53, (q_r.mono rl_0 (by decide)), (by rw [tl_0]; exact fx_end hF hF0)⟩
    intro c56
    have g_2 := p53.2.2.2 (q_one p53.2.1 c56)
    replace hF := fx_eq2 hF rfl rfl c56
    refine q_aload_n (pc := 59) hG dX4_readPiece_59 0 rfl ?_
    refine q_iload_n (pc := 60) hG dX4_readPiece_60 1 rfl ?_
    refine q_iconst (pc := 61) hG dX4_readPiece_61 ki_1 ?_
    refine q_iadd (pc := 62) hG dX4_readPiece_62 (fun v62 e62 => ?_)
    replace hF := fx_add hF rfl tl_1 (q_addN (lo := 3) (hi := 3) e62 rA1 rl_1 (by decide)).1
    have r_3 := (q_addN (lo := 3) (hi := 3) e62 rA1 rl_1 (by decide)).2
    refine q_cVi (pc := 63) [.int v62] [] hG (c_X4_readParts_L3 τ s53 a0 v62 w53.1 tA0 r_3 at1 (w53.same tA0 rfl ht) Tt) my_X4_readParts mv_X4_readParts w358 dX4_readPiece_63 tA0 (by decide) rfl rfl (Nat.le_of_ble_eq_true rfl) (by decide) (fun v63 s63 p63 => ?_)
    have w63 := w53.trans p63.1 rfl
    replace hF := fx_C hF p63.2.2
    refine q_if_eq (pc := 66) hG 82 dX4_readPiece_66 rfl ?_ ?_
    · intro c66
      replace hF := fx_eq1 hF rfl rfl c66
      refine q_iconst (pc := 82) hG dX4_readPiece_82 ki_0 ?_
      exact q_zrt hG hE dX4_readPiece_83 (q_r.mono rl_0 (by decide)) ⟨w63, (q_r.mono rl_0 (by decide)), (by rw [tl_0]; exact fx_end hF hF0)⟩
    intro c66
    replace hF := fx_eq2 hF rfl rfl c66
    refine q_aload_n (pc := 69) hG dX4_readPiece_69 0 rfl ?_
    refine q_bipush (pc := 70) hG dX4_readPiece_70 kb_41 ?_
    refine q_cVi (pc := 72) [.int 41] [] hG (c_X4_expect τ s63 a0 41 w63.1 tA0 at1 (w63.same tA0 rfl ht) Tt) my_X4_expect mv_X4_expect w338 dX4_readPiece_72 tA0 (by decide) rfl rfl (Nat.le_of_ble_eq_true rfl) (by decide) (fun v72 s72 p72 => ?_)
    have w72 := w63.trans p72.1 rfl
    have fq72 := p72.2.2
    rewrite [tl_41] at fq72
    replace hF := fx_C hF fq72
    refine q_if_eq (pc := 75) hG 82 dX4_readPiece_75 rfl ?_ ?_
    · intro c75
      replace hF := fx_eq1 hF rfl rfl c75
      refine q_iconst (pc := 82) hG dX4_readPiece_82 ki_0 ?_
      exact q_zrt hG hE dX4_readPiece_83 (q_r.mono rl_0 (by decide)) ⟨w72, (q_r.mono rl_0 (by decide)), (by rw [tl_0]; exact fx_end hF hF0)⟩
    intro c75
    replace hF := fx_eq2 hF rfl rfl c75
    refine q_iconst (pc := 78) hG dX4_readPiece_78 ki_1 ?_
    refine q_goto (pc := 79) 83 hG dX4_readPiece_79 rfl ?_
    exact q_zrt hG hE dX4_readPiece_83 (q_r.mono rl_1 (by decide)) ⟨w72, (q_r.mono rl_1 (by decide)), (by rw [tl_1]; exact fx_end hF hF0)⟩
  intro c6
  replace hF := fx_eq1 hF rfl tl_33 c6
  refine q_aload_n (pc := 9) hG dX4_readPiece_9 0 rfl ?_
  refine q_iload_n (pc := 10) hG dX4_readPiece_10 1 rfl ?_
  refine q_cVi (pc := 11) [.int x1] [] hG (c_X4_mayOpen τ σ a0 x1 hI tA0) my_X4_mayOpen mv_X4_mayOpen w335 dX4_readPiece_11 tA0 (by decide) rfl rfl (Nat.le_of_ble_eq_true rfl) (by decide) (fun v11 s11 p11 => ?_)
  have w11 := hS0.trans p11.1 rfl
  replace hF := fx_C hF p11.2.2.1
  refine q_if_eq (pc := 14) hG 27 dX4_readPiece_14 rfl ?_ ?_
  · intro c14
    replace hF := fx_eq1 hF rfl rfl c14
    refine q_iconst (pc := 27) hG dX4_readPiece_27 ki_0 ?_
    exact q_zrt hG hE dX4_readPiece_28 (q_r.mono rl_0 (by decide)) ⟨w11, (q_r.mono rl_0 (by decide)), (by rw [tl_0]; exact fx_end hF hF0)⟩
  intro c14
  have g_4 := p11.2.2.2 (q_one p11.2.1 c14)
  replace hF := fx_eq2 hF rfl rfl c14
  refine q_aload_n (pc := 17) hG dX4_readPiece_17 0 rfl ?_
  refine q_iload_n (pc := 18) hG dX4_readPiece_18 1 rfl ?_
  refine q_iconst (pc := 19) hG dX4_readPiece_19 ki_1 ?_
  refine q_iadd (pc := 20) hG dX4_readPiece_20 (fun v20 e20 => ?_)
  replace hF := fx_add hF rfl tl_1 (q_addN (lo := 3) (hi := 3) e20 rA1 rl_1 (by decide)).1
  have r_5 := (q_addN (lo := 3) (hi := 3) e20 rA1 rl_1 (by decide)).2
  refine q_cVi (pc := 21) [.int v20] [] hG (c_X4_readPiece_L3 τ s11 a0 v20 w11.1 tA0 r_5 at1 (w11.same tA0 rfl ht) Tt) my_X4_readPiece mv_X4_readPiece w364 dX4_readPiece_21 tA0 (by decide) rfl rfl (Nat.le_of_ble_eq_true rfl) (by decide) (fun v21 s21 p21 => ?_)
  have w21 := w11.trans p21.1 rfl
  replace hF := fx_C hF p21.2.2
  refine q_if_ne (pc := 24) hG 29 dX4_readPiece_24 rfl ?_ ?_
  · intro c24
    replace hF := fx_eq2 hF rfl rfl c24
    refine q_aload_n (pc := 29) hG dX4_readPiece_29 0 rfl ?_
    refine q_getR (pc := 30) (k2 := 3) (n2 := 1) hG fl_X4_31 dX4_readPiece_30 w21.1 tA0 ff_4_4 (fun b30 f30 T30 => ?_)
    replace hF := fx_R hF f30 rfl
    have f_6 := (w21.2 _ _ _ _ tA0 rfl).symm.trans f30
    refine q_bipush (pc := 33) hG dX4_readPiece_33 kb_33 ?_
    refine q_iconst (pc := 35) hG dX4_readPiece_35 ki_0 ?_
    refine q_cVi (pc := 36) [.int 33, .int 0] [] hG (c_X3_add τ s21 b30 33 0 w21.1 T30) my_X3_add mv_X3_add w344 dX4_readPiece_36 T30 (by decide) rfl rfl (Nat.le_of_ble_eq_true rfl) (by decide) (fun v36 s36 p36 => ?_)
    have w36 := w21.trans p36.1 rfl
    have fq36 := p36.2.2
    rewrite [tl_0, tl_33] at fq36
    replace hF := fx_C hF fq36
    refine q_pop (pc := 39) hG dX4_readPiece_39 rfl ?_
    refine q_iconst (pc := 40) hG dX4_readPiece_40 ki_1 ?_
    exact q_zrt hG hE dX4_readPiece_41 (q_r.mono rl_1 (by decide)) ⟨w36, (q_r.mono rl_1 (by decide)), (by rw [tl_1]; exact fx_end hF hF0)⟩
  intro c24
  replace hF := fx_eq1 hF rfl rfl c24
  refine q_iconst (pc := 27) hG dX4_readPiece_27 ki_0 ?_
  exact q_zrt hG hE dX4_readPiece_28 (q_r.mono rl_0 (by decide)) ⟨w21, (q_r.mono rl_0 (by decide)), (by rw [tl_0]; exact fx_end hF hF0)⟩
def md_X4_readPart_L2 : List (Nat × Nat) := [(3, 1), (3, 2), (4, 2), (4, 3), (112, 0), (113, 0)]
set_option maxRecDepth 100000 in
set_option maxHeartbeats 4000000 in
theorem c_X4_readPart_L2 {l : Launch} {D : q_D} (τ : q_T) (σ : q_V) (a0 : Nat) (x1 : Int32) (hI : q_I τ σ) (tA0 : τ a0 = some (4, 1)) (rA1 : q_r x1 2 2) (at1 : Nat) (ht : σ a0 0 = .ref at1) (Tt : τ at1 = some (110, 260)) : q_Ci l D yX4_readPart cX4_readPart 5 (some .boolean) 18 416 τ σ [.ref a0, .int x1] (fun r σ1 => q_S md_X4_readPart_L2 τ σ σ1 ∧ (q_r r 0 1) ∧ ((r.toInt, fx_N σ1) = f_X4_readPart_L2 (fx_N σ) a0 x1.toInt)) := by
  refine q_meti rfl (Nat.le_of_ble_eq_true rfl) (fun X hG hE => ?_)
  show q_O X 0 0 τ σ 0 [(0, .ref a0), (1, .int x1)] []
  have hS0 : q_S md_X4_readPart_L2 τ σ σ := q_S.rf hI
  obtain ⟨Fv, hF⟩ : ∃ z, fx_eq z (f_X4_readPart_L2 (fx_N σ) a0 x1.toInt) := ⟨_, fx_rf⟩
  have hF0 := hF
  unfold f_X4_readPart_L2 at hF
  replace hF := fx_R hF ht rfl
  refine q_aload_n (pc := 0) hG dX4_readPart_0 0 rfl ?_
  refine q_iload_n (pc := 1) hG dX4_readPart_1 1 rfl ?_
  refine q_cVi (pc := 2) [.int x1] [] hG (c_X4_readPiece_L2 τ σ a0 x1 hI tA0 rA1 at1 ht Tt) my_X4_readPiece mv_X4_readPiece w364 dX4_readPart_2 tA0 (by decide) rfl rfl (Nat.le_of_ble_eq_true rfl) (by decide) (fun v2 s2 p2 => ?_)
  have w2 := hS0.trans p2.1 rfl
  replace hF := fx_C hF p2.2.2
  refine q_istore_n (pc := 5) [(2, .int v2), (0, .ref a0), (1, .int x1)] hG dX4_readPart_5 (by decide) rfl ?_
  refine q_iconst (pc := 6) hG dX4_readPart_6 ki_0 ?_
  refine q_istore_n (pc := 7) [(3, .int 0), (2, .int v2), (0, .ref a0), (1, .int x1)] hG dX4_readPart_7 (by decide) rfl ?_
  have J8 : ∀ (n8 : Nat) (p8_2 : Int32) (p8_3 : Int32) (σ8 : q_V), (q_r p8_2 0 1) → (q_r p8_3 0 240) → (q_S md_X4_readPart_L2 τ σ σ8) → (fx_eq Fv (kL_X4_readPart_L2_8 a0 x1.toInt n8 p8_2.toInt p8_3.toInt (fx_N σ8))) → ((240 - p8_3.toInt).toNat < n8) → q_O X 0 0 τ σ8 8 [(0, .ref a0), (1, .int x1), (2, .int p8_2), (3, .int p8_3)] [] := by
    intro n8
    induction n8 with
    | zero => intro p8_2 p8_3 σ8 r8_2 r8_3 hS8 hF hm8; exact absurd hm8 (Nat.not_lt_zero _)
    | succ n8 ih8 =>
      intro p8_2 p8_3 σ8 r8_2 r8_3 hS8 hF hm8
      replace hF := (show fx_eq Fv (kB_X4_readPart_L2_8 (kL_X4_readPart_L2_8 a0 x1.toInt n8) a0 x1.toInt p8_2.toInt p8_3.toInt (fx_N σ8)) from hF)
      unfold kB_X4_readPart_L2_8 at hF
      refine q_iload_n (pc := 8) hG dX4_readPart_8 3 rfl ?_
      refine q_sipush (pc := 9) hG dX4_readPart_9 ks_240 ?_
      refine q_icmp_ge (pc := 12) hG 71 dX4_readPart_12 rfl ?_ ?_
      · intro c12
        replace hF := fx_lt2 hF rfl tl_240 c12
        refine q_iload_n (pc := 71) hG dX4_readPart_71 2 rfl ?_
        exact q_zrt hG hE dX4_readPart_72 r8_2 ⟨hS8, r8_2, (fx_end hF hF0)⟩
      intro c12
      replace hF := fx_lt1 hF rfl tl_240 c12
      refine q_iload_n (pc := 15) hG dX4_readPart_15 2 rfl ?_
      refine q_if_eq (pc := 16) hG 71 dX4_readPart_16 rfl ?_ ?_
      · intro c16
        replace hF := fx_eq1 hF rfl rfl c16
        refine q_iload_n (pc := 71) hG dX4_readPart_71 2 rfl ?_
        have r_1 := q_zeq c16
        exact q_zrt hG hE dX4_readPart_72 (q_r.mono r_1 (by decide)) ⟨hS8, (q_r.mono r_1 (by decide)), (fx_end hF hF0)⟩
      intro c16
      replace hF := fx_eq2 hF rfl rfl c16
      refine q_aload_n (pc := 19) hG dX4_readPart_19 0 rfl ?_
      refine q_pV (pc := 20) [] [] hG (c_X4_peek τ σ8 a0 hS8.1 tA0 at1 (hS8.same tA0 rfl ht) Tt) my_X4_peek mv_X4_peek w316 dX4_readPart_20 tA0 (by decide) rfl rfl (Nat.le_of_ble_eq_true rfl) (by decide) (fun v20 p20 => ?_)
      replace hF := fx_E hF p20.2
      refine q_bipush (pc := 23) hG dX4_readPart_23 kb_38 ?_
      refine q_icmp_ne (pc := 25) hG 71 dX4_readPart_25 rfl ?_ ?_
      · intro c25
        replace hF := fx_eq2 hF rfl tl_38 c25
        refine q_iload_n (pc := 71) hG dX4_readPart_71 2 rfl ?_
        have r_2 := q_neL (c := 1) r8_2 c16 (by decide)
        exact q_zrt hG hE dX4_readPart_72 (q_r.mono r_2 (by decide)) ⟨hS8, (q_r.mono r_2 (by decide)), (fx_end hF hF0)⟩
      intro c25
      replace hF := fx_eq1 hF rfl tl_38 c25
      refine q_aload_n (pc := 28) hG dX4_readPart_28 0 rfl ?_
      refine q_dup (pc := 29) hG dX4_readPart_29 rfl ?_
      refine q_getI (pc := 30) hG fl_X4_22 dX4_readPart_30 hS8.1 tA0 ff_4_2 (fun v30 f30 g30 => ?_)
      replace hF := fx_I hF f30 rfl
      refine q_iconst (pc := 33) hG dX4_readPart_33 ki_1 ?_
      refine q_iadd (pc := 34) hG dX4_readPart_34 (fun v34 e34 => ?_)
      replace hF := fx_B_add hF rfl tl_1 e34
      refine q_putI (pc := 35) hG fl_X4_22 dX4_readPart_35 hS8 tA0 ff_4_2 (q_r_any v34) (by decide) rfl (fun s35 u35 w35 => ?_)
      replace hF := fx_P hF u35 rfl rfl
      have m35 : s35 a0 2 = .int v34 := by rw [u35]; exact q_up_same
      refine q_aload_n (pc := 38) hG dX4_readPart_38 0 rfl ?_
      refine q_getR (pc := 39) (k2 := 3) (n2 := 1) hG fl_X4_31 dX4_readPart_39 w35.1 tA0 ff_4_4 (fun b39 f39 T39 => ?_)
      replace hF := fx_R hF f39 rfl
      have f_3 := (w35.2 _ _ _ _ tA0 rfl).symm.trans f39
      refine q_bipush (pc := 42) hG dX4_readPart_42 kb_38 ?_
      refine q_iconst (pc := 44) hG dX4_readPart_44 ki_0 ?_
      refine q_cVi (pc := 45) [.int 38, .int 0] [] hG (c_X3_add τ s35 b39 38 0 w35.1 T39) my_X3_add mv_X3_add w344 dX4_readPart_45 T39 (by decide) rfl rfl (Nat.le_of_ble_eq_true rfl) (by decide) (fun v45 s45 p45 => ?_)
      have w45 := w35.trans p45.1 rfl
      have fq45 := p45.2.2
      rewrite [tl_0, tl_38] at fq45
      replace hF := fx_C hF fq45
      refine q_istore (pc := 48) [(4, .int v45), (0, .ref a0), (1, .int x1), (2, .int p8_2), (3, .int p8_3)] hG dX4_readPart_48 (by decide) rfl ?_
      refine q_aload_n (pc := 50) hG dX4_readPart_50 1 rfl ?_
      refine q_iload_n (pc := 51) hG dX4_readPart_51 2 rfl ?_
      refine q_cVi (pc := 52) [.int x1] [] hG (c_X4_readPiece_L2 τ s45 a0 x1 w45.1 tA0 rA1 at1 (w45.same tA0 rfl ht) Tt) my_X4_readPiece mv_X4_readPiece w364 dX4_readPart_52 tA0 (by decide) rfl rfl (Nat.le_of_ble_eq_true rfl) (by decide) (fun v52 s52 p52 => ?_)
      have w52 := w45.trans p52.1 rfl
      replace hF := fx_C hF p52.2.2
      refine q_istore_n (pc := 55) [(2, .int v52), (4, .int v45), (0, .ref a0), (1, .int x1), (3, .int p8_3)] hG dX4_readPart_55 (by decide) rfl ?_
      refine q_aload_n (pc := 56) hG dX4_readPart_56 2 rfl ?_
      refine q_getV (pc := 57) (v := .ref b39) hG fl_X4_31 dX4_readPart_57 tA0 (w52.same tA0 rfl f_3) ?_
      refine q_iload (pc := 60) hG dX4_readPart_60 1 rfl ?_
      refine q_cVv (pc := 62) [.int v45] [] hG (c_X3_leadHere τ s52 b39 v45 w52.1 T39) my_X3_leadHere mv_X3_leadHere w367 dX4_readPart_62 T39 (by decide) rfl rfl (Nat.le_of_ble_eq_true rfl) (by decide) (fun s62 p62 => ?_)
      have w62 := w52.trans p62.1 rfl
      replace hF := fx_S hF p62.2
      obtain ⟨v65, e65⟩ : ∃ z : Int32, z = p8_3 + Int32.ofInt 1 := ⟨_, rfl⟩
      have r_4 := q_rlt r8_3 rl_240 c12 239 (by decide)
      have h65 := q_incN (lo := 1) (hi := 240) r_4 (by decide) (by decide) e65
      replace hF := fx_add hF rfl rfl h65.1
      refine q_iinc (pc := 65) [(3, .int v65), (2, .int v52), (4, .int v45), (0, .ref a0), (1, .int x1)] hG dX4_readPart_65 4 rfl e65 (by decide) rfl ?_
      refine q_goto (pc := 68) 8 hG dX4_readPart_68 rfl ?_
      refine q_lv [3, 4, 1, 0] rfl ?_
      exact ih8 v52 v65 s62 p52.2.1 (q_r.mono h65.2 (by decide)) w62 hF (q_measU hm8 (by have o0 := c12; have o1 := h65.1; have o2 := r_4; have o3 := h65.2; have l4 := tl_240; unfold q_r at o2 o3; omega) (h65.2).2)
  refine q_lv [2, 3, 1, 0] rfl ?_
  exact J8 ((240 - (0 : Int32).toInt).toNat + 1) v2 0 s2 p2.2.1 (q_r.mono rl_0 (by decide)) w2 (by rw [tl_0]; exact hF) (Nat.lt_succ_self _)
def md_X4_readParts_L2 : List (Nat × Nat) := [(3, 1), (3, 2), (4, 2), (4, 3), (112, 0), (113, 0)]
set_option maxRecDepth 100000 in
set_option maxHeartbeats 4000000 in
theorem c_X4_readParts_L2 {l : Launch} {D : q_D} (τ : q_T) (σ : q_V) (a0 : Nat) (x1 : Int32) (hI : q_I τ σ) (tA0 : τ a0 = some (4, 1)) (rA1 : q_r x1 2 2) (at1 : Nat) (ht : σ a0 0 = .ref at1) (Tt : τ at1 = some (110, 260)) : q_Ci l D yX4_readParts cX4_readParts 5 (some .boolean) 19 440 τ σ [.ref a0, .int x1] (fun r σ1 => q_S md_X4_readParts_L2 τ σ σ1 ∧ (q_r r 0 1) ∧ ((r.toInt, fx_N σ1) = f_X4_readParts_L2 (fx_N σ) a0 x1.toInt)) := by
  refine q_meti rfl (Nat.le_of_ble_eq_true rfl) (fun X hG hE => ?_)
  show q_O X 0 0 τ σ 0 [(0, .ref a0), (1, .int x1)] []
  have hS0 : q_S md_X4_readParts_L2 τ σ σ := q_S.rf hI
  obtain ⟨Fv, hF⟩ : ∃ z, fx_eq z (f_X4_readParts_L2 (fx_N σ) a0 x1.toInt) := ⟨_, fx_rf⟩
  have hF0 := hF
  unfold f_X4_readParts_L2 at hF
  replace hF := fx_R hF ht rfl
  refine q_aload_n (pc := 0) hG dX4_readParts_0 0 rfl ?_
  refine q_iload_n (pc := 1) hG dX4_readParts_1 1 rfl ?_
  refine q_cVi (pc := 2) [.int x1] [] hG (c_X4_readPart_L2 τ σ a0 x1 hI tA0 rA1 at1 ht Tt) my_X4_readPart mv_X4_readPart w361 dX4_readParts_2 tA0 (by decide) rfl rfl (Nat.le_of_ble_eq_true rfl) (by decide) (fun v2 s2 p2 => ?_)
  have w2 := hS0.trans p2.1 rfl
  replace hF := fx_C hF p2.2.2
  refine q_istore_n (pc := 5) [(2, .int v2), (0, .ref a0), (1, .int x1)] hG dX4_readParts_5 (by decide) rfl ?_
  refine q_iconst (pc := 6) hG dX4_readParts_6 ki_0 ?_
  refine q_istore_n (pc := 7) [(3, .int 0), (2, .int v2), (0, .ref a0), (1, .int x1)] hG dX4_readParts_7 (by decide) rfl ?_
  have J8 : ∀ (n8 : Nat) (p8_2 : Int32) (p8_3 : Int32) (σ8 : q_V), (q_r p8_2 0 1) → (q_r p8_3 0 240) → (q_S md_X4_readParts_L2 τ σ σ8) → (fx_eq Fv (kL_X4_readParts_L2_8 a0 x1.toInt n8 p8_2.toInt p8_3.toInt (fx_N σ8))) → ((240 - p8_3.toInt).toNat < n8) → q_O X 0 0 τ σ8 8 [(0, .ref a0), (1, .int x1), (2, .int p8_2), (3, .int p8_3)] [] := by
    intro n8
    induction n8 with
    | zero => intro p8_2 p8_3 σ8 r8_2 r8_3 hS8 hF hm8; exact absurd hm8 (Nat.not_lt_zero _)
    | succ n8 ih8 =>
      intro p8_2 p8_3 σ8 r8_2 r8_3 hS8 hF hm8
      replace hF := (show fx_eq Fv (kB_X4_readParts_L2_8 (kL_X4_readParts_L2_8 a0 x1.toInt n8) a0 x1.toInt p8_2.toInt p8_3.toInt (fx_N σ8)) from hF)
      unfold kB_X4_readParts_L2_8 at hF
      refine q_iload_n (pc := 8) hG dX4_readParts_8 3 rfl ?_
      refine q_sipush (pc := 9) hG dX4_readParts_9 ks_240 ?_
      refine q_icmp_ge (pc := 12) hG 71 dX4_readParts_12 rfl ?_ ?_
      · intro c12
        replace hF := fx_lt2 hF rfl tl_240 c12
        refine q_iload_n (pc := 71) hG dX4_readParts_71 2 rfl ?_
        exact q_zrt hG hE dX4_readParts_72 r8_2 ⟨hS8, r8_2, (fx_end hF hF0)⟩
      intro c12
      replace hF := fx_lt1 hF rfl tl_240 c12
      refine q_iload_n (pc := 15) hG dX4_readParts_15 2 rfl ?_
      refine q_if_eq (pc := 16) hG 71 dX4_readParts_16 rfl ?_ ?_
      · intro c16
        replace hF := fx_eq1 hF rfl rfl c16
        refine q_iload_n (pc := 71) hG dX4_readParts_71 2 rfl ?_
        have r_1 := q_zeq c16
        exact q_zrt hG hE dX4_readParts_72 (q_r.mono r_1 (by decide)) ⟨hS8, (q_r.mono r_1 (by decide)), (fx_end hF hF0)⟩
      intro c16
      replace hF := fx_eq2 hF rfl rfl c16
      refine q_aload_n (pc := 19) hG dX4_readParts_19 0 rfl ?_
      refine q_pV (pc := 20) [] [] hG (c_X4_peek τ σ8 a0 hS8.1 tA0 at1 (hS8.same tA0 rfl ht) Tt) my_X4_peek mv_X4_peek w316 dX4_readParts_20 tA0 (by decide) rfl rfl (Nat.le_of_ble_eq_true rfl) (by decide) (fun v20 p20 => ?_)
      replace hF := fx_E hF p20.2
      refine q_bipush (pc := 23) hG dX4_readParts_23 kb_124 ?_
      refine q_icmp_ne (pc := 25) hG 71 dX4_readParts_25 rfl ?_ ?_
      · intro c25
        replace hF := fx_eq2 hF rfl tl_124 c25
        refine q_iload_n (pc := 71) hG dX4_readParts_71 2 rfl ?_
        have r_2 := q_neL (c := 1) r8_2 c16 (by decide)
        exact q_zrt hG hE dX4_readParts_72 (q_r.mono r_2 (by decide)) ⟨hS8, (q_r.mono r_2 (by decide)), (fx_end hF hF0)⟩
      intro c25
      replace hF := fx_eq1 hF rfl tl_124 c25
      refine q_aload_n (pc := 28) hG dX4_readParts_28 0 rfl ?_
      refine q_dup (pc := 29) hG dX4_readParts_29 rfl ?_
      refine q_getI (pc := 30) hG fl_X4_22 dX4_readParts_30 hS8.1 tA0 ff_4_2 (fun v30 f30 g30 => ?_)
      replace hF := fx_I hF f30 rfl
      refine q_iconst (pc := 33) hG dX4_readParts_33 ki_1 ?_
      refine q_iadd (pc := 34) hG dX4_readParts_34 (fun v34 e34 => ?_)
      replace hF := fx_B_add hF rfl tl_1 e34
      refine q_putI (pc := 35) hG fl_X4_22 dX4_readParts_35 hS8 tA0 ff_4_2 (q_r_any v34) (by decide) rfl (fun s35 u35 w35 => ?_)
      replace hF := fx_P hF u35 rfl rfl
      have m35 : s35 a0 2 = .int v34 := by rw [u35]; exact q_up_same
      refine q_aload_n (pc := 38) hG dX4_readParts_38 0 rfl ?_
      refine q_getR (pc := 39) (k2 := 3) (n2 := 1) hG fl_X4_31 dX4_readParts_39 w35.1 tA0 ff_4_4 (fun b39 f39 T39 => ?_)
      replace hF := fx_R hF f39 rfl
      have f_3 := (w35.2 _ _ _ _ tA0 rfl).symm.trans f39
      refine q_bipush (pc := 42) hG dX4_readParts_42 kb_124 ?_
      refine q_iconst (pc := 44) hG dX4_readParts_44 ki_0 ?_
      refine q_cVi (pc := 45) [.int 124, .int 0] [] hG (c_X3_add τ s35 b39 124 0 w35.1 T39) my_X3_add mv_X3_add w344 dX4_readParts_45 T39 (by decide) rfl rfl (Nat.le_of_ble_eq_true rfl) (by decide) (fun v45 s45 p45 => ?_)
      have w45 := w35.trans p45.1 rfl
      have fq45 := p45.2.2
      rewrite [tl_0, tl_124] at fq45
      replace hF := fx_C hF fq45
      refine q_istore (pc := 48) [(4, .int v45), (0, .ref a0), (1, .int x1), (2, .int p8_2), (3, .int p8_3)] hG dX4_readParts_48 (by decide) rfl ?_
      refine q_aload_n (pc := 50) hG dX4_readParts_50 1 rfl ?_
      refine q_iload_n (pc := 51) hG dX4_readParts_51 2 rfl ?_
      refine q_cVi (pc := 52) [.int x1] [] hG (c_X4_readPart_L2 τ s45 a0 x1 w45.1 tA0 rA1 at1 (w45.same tA0 rfl ht) Tt) my_X4_readPart mv_X4_readPart w361 dX4_readParts_52 tA0 (by decide) rfl rfl (Nat.le_of_ble_eq_true rfl) (by decide) (fun v52 s52 p52 => ?_)
      have w52 := w45.trans p52.1 rfl
      replace hF := fx_C hF p52.2.2
      refine q_istore_n (pc := 55) [(2, .int v52), (4, .int v45), (0, .ref a0), (1, .int x1), (3, .int p8_3)] hG dX4_readParts_55 (by decide) rfl ?_
      refine q_aload_n (pc := 56) hG dX4_readParts_56 2 rfl ?_
      refine q_getV (pc := 57) (v := .ref b39) hG fl_X4_31 dX4_readParts_57 tA0 (w52.same tA0 rfl f_3) ?_
      refine q_iload (pc := 60) hG dX4_readParts_60 1 rfl ?_
      refine q_cVv (pc := 62) [.int v45] [] hG (c_X3_leadHere τ s52 b39 v45 w52.1 T39) my_X3_leadHere mv_X3_leadHere w367 dX4_readParts_62 T39 (by decide) rfl rfl (Nat.le_of_ble_eq_true rfl) (by decide) (fun s62 p62 => ?_)
      have w62 := w52.trans p62.1 rfl
      replace hF := fx_S hF p62.2
      obtain ⟨v65, e65⟩ : ∃ z : Int32, z = p8_3 + Int32.ofInt 1 := ⟨_, rfl⟩
      have r_4 := q_rlt r8_3 rl_240 c12 239 (by decide)
      have h65 := q_incN (lo := 1) (hi := 240) r_4 (by decide) (by decide) e65
      replace hF := fx_add hF rfl rfl h65.1
      refine q_iinc (pc := 65) [(3, .int v65), (2, .int v52), (4, .int v45), (0, .ref a0), (1, .int x1)] hG dX4_readParts_65 4 rfl e65 (by decide) rfl ?_
      refine q_goto (pc := 68) 8 hG dX4_readParts_68 rfl ?_
      refine q_lv [3, 4, 1, 0] rfl ?_
      exact ih8 v52 v65 s62 p52.2.1 (q_r.mono h65.2 (by decide)) w62 hF (q_measU hm8 (by have o0 := c12; have o1 := h65.1; have o2 := r_4; have o3 := h65.2; have l4 := tl_240; unfold q_r at o2 o3; omega) (h65.2).2)
  refine q_lv [2, 3, 1, 0] rfl ?_
  exact J8 ((240 - (0 : Int32).toInt).toNat + 1) v2 0 s2 p2.2.1 (q_r.mono rl_0 (by decide)) w2 (by rw [tl_0]; exact hF) (Nat.lt_succ_self _)
def md_X4_readPiece_L1 : List (Nat × Nat) := [(3, 1), (3, 2), (4, 2), (4, 3), (112, 0), (113, 0)]
set_option maxRecDepth 100000 in
set_option maxHeartbeats 4000000 in
theorem c_X4_readPiece_L1 {l : Launch} {D : q_D} (τ : q_T) (σ : q_V) (a0 : Nat) (x1 : Int32) (hI : q_I τ σ) (tA0 : τ a0 = some (4, 1)) (rA1 : q_r x1 1 1) (at1 : Nat) (ht : σ a0 0 = .ref at1) (Tt : τ at1 = some (110, 260)) : q_Ci l D yX4_readPiece cX4_readPiece 3 (some .boolean) 20 464 τ σ [.ref a0, .int x1] (fun r σ1 => q_S md_X4_readPiece_L1 τ σ σ1 ∧ (q_r r 0 1) ∧ ((r.toInt, fx_N σ1) = f_X4_readPiece_L1 (fx_N σ) a0 x1.toInt)) := by
  refine q_meti rfl (Nat.le_of_ble_eq_true rfl) (fun X hG hE => ?_)
  show q_O X 0 0 τ σ 0 [(0, .ref a0), (1, .int x1)] []
  have hS0 : q_S md_X4_readPiece_L1 τ σ σ := q_S.rf hI
  obtain ⟨Fv, hF⟩ : ∃ z, fx_eq z (f_X4_readPiece_L1 (fx_N σ) a0 x1.toInt) := ⟨_, fx_rf⟩
  have hF0 := hF
  unfold f_X4_readPiece_L1 at hF
  replace hF := fx_R hF ht rfl
  refine q_aload_n (pc := 0) hG dX4_readPiece_0 0 rfl ?_
  refine q_pV (pc := 1) [] [] hG (c_X4_peek τ σ a0 hI tA0 at1 ht Tt) my_X4_peek mv_X4_peek w316 dX4_readPiece_1 tA0 (by decide) rfl rfl (Nat.le_of_ble_eq_true rfl) (by decide) (fun v1 p1 => ?_)
  replace hF := fx_E hF p1.2
  refine q_bipush (pc := 4) hG dX4_readPiece_4 kb_33 ?_
  refine q_icmp_ne (pc := 6) hG 42 dX4_readPiece_6 rfl ?_ ?_
  · intro c6
    replace hF := fx_eq2 hF rfl tl_33 c6
    refine q_aload_n (pc := 42) hG dX4_readPiece_42 0 rfl ?_
    refine q_pV (pc := 43) [] [] hG (c_X4_peek τ σ a0 hI tA0 at1 ht Tt) my_X4_peek mv_X4_peek w316 dX4_readPiece_43 tA0 (by decide) rfl rfl (Nat.le_of_ble_eq_true rfl) (by decide) (fun v43 p43 => ?_)
    replace hF := fx_E hF p43.2
    refine q_bipush (pc := 46) hG dX4_readPiece_46 kb_40 ?_
    refine q_icmp_ne (pc := 48) hG 84 dX4_readPiece_48 rfl ?_ ?_
    · intro c48
      replace hF := fx_eq2 hF rfl tl_40 c48
      refine q_aload_n (pc := 84) hG dX4_readPiece_84 0 rfl ?_
      refine q_iload_n (pc := 85) hG dX4_readPiece_85 1 rfl ?_
      refine q_cVi (pc := 86) [.int x1] [] hG (c_X4_readSum_L1 τ σ a0 x1 hI tA0 rA1 at1 ht Tt) my_X4_readSum mv_X4_readSum w326 dX4_readPiece_86 tA0 (by decide) rfl rfl (Nat.le_of_ble_eq_true rfl) (by decide) (fun v86 s86 p86 => ?_)
      have w86 := hS0.trans p86.1 rfl
      replace hF := fx_C hF p86.2.2
      refine q_if_ne (pc := 89) hG 94 dX4_readPiece_89 rfl ?_ ?_
      · intro c89
        replace hF := fx_eq2 hF rfl rfl c89
        refine q_aload_n (pc := 94) hG dX4_readPiece_94 0 rfl ?_
        refine q_pV (pc := 95) [] [] hG (c_X4_peek τ s86 a0 w86.1 tA0 at1 (w86.same tA0 rfl ht) Tt) my_X4_peek mv_X4_peek w316 dX4_readPiece_95 tA0 (by decide) rfl rfl (Nat.le_of_ble_eq_true rfl) (by decide) (fun v95 p95 => ?_)
        replace hF := fx_E hF p95.2
        refine q_istore_n (pc := 98) [(2, .int v95), (0, .ref a0), (1, .int x1)] hG dX4_readPiece_98 (by decide) rfl ?_
        refine q_iload_n (pc := 99) hG dX4_readPiece_99 0 rfl ?_
        refine q_bipush (pc := 100) hG dX4_readPiece_100 kb_60 ?_
        have J123 : (fx_eq Fv (kJ_X4_readPiece_L1_123 (fx_N s86) a0 x1.toInt v95.toInt)) → q_O X 0 0 τ s86 123 [(0, .ref a0), (1, .int x1), (2, .int v95)] [] := by
          intro hF
          unfold kJ_X4_readPiece_L1_123 at hF
          refine q_aload_n (pc := 123) hG dX4_readPiece_123 0 rfl ?_
          refine q_dup (pc := 124) hG dX4_readPiece_124 rfl ?_
          refine q_getI (pc := 125) hG fl_X4_22 dX4_readPiece_125 w86.1 tA0 ff_4_2 (fun v125 f125 g125 => ?_)
          replace hF := fx_I hF f125 rfl
          refine q_iconst (pc := 128) hG dX4_readPiece_128 ki_1 ?_
          refine q_iadd (pc := 129) hG dX4_readPiece_129 (fun v129 e129 => ?_)
          replace hF := fx_B_add hF rfl tl_1 e129
          refine q_putI (pc := 130) hG fl_X4_22 dX4_readPiece_130 w86 tA0 ff_4_2 (q_r_any v129) (by decide) rfl (fun s130 u130 w130 => ?_)
          replace hF := fx_P hF u130 rfl rfl
          have m130 : s130 a0 2 = .int v129 := by rw [u130]; exact q_up_same
          refine q_aload_n (pc := 133) hG dX4_readPiece_133 0 rfl ?_
          refine q_iload_n (pc := 134) hG dX4_readPiece_134 1 rfl ?_
          refine q_cVi (pc := 135) [.int x1] [] hG (c_X4_readSum_L1 τ s130 a0 x1 w130.1 tA0 rA1 at1 (w130.same tA0 rfl ht) Tt) my_X4_readSum mv_X4_readSum w326 dX4_readPiece_135 tA0 (by decide) rfl rfl (Nat.le_of_ble_eq_true rfl) (by decide) (fun v135 s135 p135 => ?_)
          have w135 := w130.trans p135.1 rfl
          replace hF := fx_C hF p135.2.2
          refine q_if_ne (pc := 138) hG 143 dX4_readPiece_138 rfl ?_ ?_
          · intro c138
            replace hF := fx_eq2 hF rfl rfl c138
            refine q_aload_n (pc := 143) hG dX4_readPiece_143 0 rfl ?_
            refine q_getR (pc := 144) (k2 := 3) (n2 := 1) hG fl_X4_31 dX4_readPiece_144 w135.1 tA0 ff_4_4 (fun b144 f144 T144 => ?_)
            replace hF := fx_R hF f144 rfl
            have f_1 := (w135.2 _ _ _ _ tA0 rfl).symm.trans f144
            refine q_iload_n (pc := 147) hG dX4_readPiece_147 2 rfl ?_
            refine q_iconst (pc := 148) hG dX4_readPiece_148 ki_0 ?_
            refine q_cVi (pc := 149) [.int v95, .int 0] [] hG (c_X3_add τ s135 b144 v95 0 w135.1 T144) my_X3_add mv_X3_add w344 dX4_readPiece_149 T144 (by decide) rfl rfl (Nat.le_of_ble_eq_true rfl) (by decide) (fun v149 s149 p149 => ?_)
            have w149 := w135.trans p149.1 rfl
            have fq149 := p149.2.2
            rewrite [tl_0] at fq149
            replace hF := fx_C hF fq149
            refine q_pop (pc := 152) hG dX4_readPiece_152 rfl ?_
            refine q_iconst (pc := 153) hG dX4_readPiece_153 ki_1 ?_
            exact q_zrt hG hE dX4_readPiece_154 (q_r.mono rl_1 (by decide)) ⟨w149, (q_r.mono rl_1 (by decide)), (by rw [tl_1]; exact fx_end hF hF0)⟩
          intro c138
          replace hF := fx_eq1 hF rfl rfl c138
          refine q_iconst (pc := 141) hG dX4_readPiece_141 ki_0 ?_
          exact q_zrt hG hE dX4_readPiece_142 (q_r.mono rl_0 (by decide)) ⟨w135, (q_r.mono rl_0 (by decide)), (by rw [tl_0]; exact fx_end hF hF0)⟩
        refine q_icmp_eq (pc := 102) hG 123 dX4_readPiece_102 rfl ?_ ?_
        · intro c102
          replace hF := fx_eq1 hF rfl tl_60 c102
          refine q_lv [1, 2, 0] rfl ?_
          exact J123 hF
        intro c102
        replace hF := fx_eq2 hF rfl tl_60 c102
        refine q_iload_n (pc := 105) hG dX4_readPiece_105 0 rfl ?_
        refine q_bipush (pc := 106) hG dX4_readPiece_106 kb_62 ?_
        refine q_icmp_eq (pc := 108) hG 123 dX4_readPiece_108 rfl ?_ ?_
        · intro c108
          replace hF := fx_eq1 hF rfl tl_62 c108
          refine q_lv [1, 2, 0] rfl ?_
          exact J123 hF
        intro c108
        replace hF := fx_eq2 hF rfl tl_62 c108
        refine q_iload_n (pc := 111) hG dX4_readPiece_111 0 rfl ?_
        refine q_bipush (pc := 112) hG dX4_readPiece_112 kb_61 ?_
        refine q_icmp_eq (pc := 114) hG 123 dX4_readPiece_114 rfl ?_ ?_
        · intro c114
          replace hF := fx_eq1 hF rfl tl_61 c114
          refine q_lv [1, 2, 0] rfl ?_
          exact J123 hF
        intro c114
        replace hF := fx_eq2 hF rfl tl_61 c114
        refine q_aload_n (pc := 117) hG dX4_readPiece_117 1 rfl ?_
        refine q_iconst (pc := 118) hG dX4_readPiece_118 ki_1 ?_
        refine q_cVi (pc := 119) [.int 1] [] hG (c_X4_fail τ s86 a0 1 w86.1 tA0) my_X4_fail mv_X4_fail w319 dX4_readPiece_119 tA0 (by decide) rfl rfl (Nat.le_of_ble_eq_true rfl) (by decide) (fun v119 s119 p119 => ?_)
        have w119 := w86.trans p119.1 rfl
        have fq119 := p119.2.2
        rewrite [tl_1] at fq119
        replace hF := fx_C hF fq119
        exact q_zrt hG hE dX4_readPiece_122 (q_r.mono p119.2.1 (by decide)) ⟨w119, (q_r.mono p119.2.1 (by decide)), (fx_end hF hF0)⟩
      intro c89
      replace hF := fx_eq1 hF rfl rfl c89
      refine q_iconst (pc := 92) hG dX4_readPiece_92 ki_0 ?_
      exact q_zrt hG hE dX4_readPiece_93 (q_r.mono rl_0 (by decide)) ⟨w86, (q_r.mono rl_0 (by decide)), (by rw [tl_0]; exact fx_end hF hF0)⟩
    intro c48
    replace hF := fx_eq1 hF rfl tl_40 c48
    refine q_aload_n (pc := 51) hG dX4_readPiece_51 0 rfl ?_
    refine q_iload_n (pc := 52) hG dX4_readPiece_52 1 rfl ?_
    refine q_cVi (pc := 53) [.int x1] [] hG (c_X4_mayOpen τ σ a0 x1 hI tA0) my_X4_mayOpen mv_X4_mayOpen w335 dX4_readPiece_53 tA0 (by decide) rfl rfl (Nat.le_of_ble_eq_true rfl) (by decide) (fun v53 s53 p53 => ?_)
    have w53 := hS0.trans p53.1 rfl
    replace hF := fx_C hF p53.2.2.1
    refine q_if_eq (pc := 56) hG 82 dX4_readPiece_56 rfl ?_ ?_
    · intro c56
      replace hF := fx_eq1 hF rfl rfl c56
      refine q_iconst (pc := 82) hG dX4_readPiece_82 ki_0 ?_
      exact q_zrt hG hE dX4_readPiece_83 (q_r.mono rl_0 (by decide)) ⟨w53, (q_r.mono rl_0 (by decide)), (by rw [tl_0]; exact fx_end hF hF0)⟩
    intro c56
    have g_2 := p53.2.2.2 (q_one p53.2.1 c56)
    replace hF := fx_eq2 hF rfl rfl c56
    refine q_aload_n (pc := 59) hG dX4_readPiece_59 0 rfl ?_
    refine q_iload_n (pc := 60) hG dX4_readPiece_60 1 rfl ?_
    refine q_iconst (pc := 61) hG dX4_readPiece_61 ki_1 ?_
    refine q_iadd (pc := 62) hG dX4_readPiece_62 (fun v62 e62 => ?_)
    replace hF := fx_add hF rfl tl_1 (q_addN (lo := 2) (hi := 2) e62 rA1 rl_1 (by decide)).1
    have r_3 := (q_addN (lo := 2) (hi := 2) e62 rA1 rl_1 (by decide)).2
    refine q_cVi (pc := 63) [.int v62] [] hG (c_X4_readParts_L2 τ s53 a0 v62 w53.1 tA0 r_3 at1 (w53.same tA0 rfl ht) Tt) my_X4_readParts mv_X4_readParts w358 dX4_readPiece_63 tA0 (by decide) rfl rfl (Nat.le_of_ble_eq_true rfl) (by decide) (fun v63 s63 p63 => ?_)
    have w63 := w53.trans p63.1 rfl
    replace hF := fx_C hF p63.2.2
    refine q_if_eq (pc := 66) hG 82 dX4_readPiece_66 rfl ?_ ?_
    · intro c66
      replace hF := fx_eq1 hF rfl rfl c66
      refine q_iconst (pc := 82) hG dX4_readPiece_82 ki_0 ?_
      exact q_zrt hG hE dX4_readPiece_83 (q_r.mono rl_0 (by decide)) ⟨w63, (q_r.mono rl_0 (by decide)), (by rw [tl_0]; exact fx_end hF hF0)⟩
    intro c66
    replace hF := fx_eq2 hF rfl rfl c66
    refine q_aload_n (pc := 69) hG dX4_readPiece_69 0 rfl ?_
    refine q_bipush (pc := 70) hG dX4_readPiece_70 kb_41 ?_
    refine q_cVi (pc := 72) [.int 41] [] hG (c_X4_expect τ s63 a0 41 w63.1 tA0 at1 (w63.same tA0 rfl ht) Tt) my_X4_expect mv_X4_expect w338 dX4_readPiece_72 tA0 (by decide) rfl rfl (Nat.le_of_ble_eq_true rfl) (by decide) (fun v72 s72 p72 => ?_)
    have w72 := w63.trans p72.1 rfl
    have fq72 := p72.2.2
    rewrite [tl_41] at fq72
    replace hF := fx_C hF fq72
    refine q_if_eq (pc := 75) hG 82 dX4_readPiece_75 rfl ?_ ?_
    · intro c75
      replace hF := fx_eq1 hF rfl rfl c75
      refine q_iconst (pc := 82) hG dX4_readPiece_82 ki_0 ?_
      exact q_zrt hG hE dX4_readPiece_83 (q_r.mono rl_0 (by decide)) ⟨w72, (q_r.mono rl_0 (by decide)), (by rw [tl_0]; exact fx_end hF hF0)⟩
    intro c75
    replace hF := fx_eq2 hF rfl rfl c75
    refine q_iconst (pc := 78) hG dX4_readPiece_78 ki_1 ?_
    refine q_goto (pc := 79) 83 hG dX4_readPiece_79 rfl ?_
    exact q_zrt hG hE dX4_readPiece_83 (q_r.mono rl_1 (by decide)) ⟨w72, (q_r.mono rl_1 (by decide)), (by rw [tl_1]; exact fx_end hF hF0)⟩
  intro c6
  replace hF := fx_eq1 hF rfl tl_33 c6
  refine q_aload_n (pc := 9) hG dX4_readPiece_9 0 rfl ?_
  refine q_iload_n (pc := 10) hG dX4_readPiece_10 1 rfl ?_
  refine q_cVi (pc := 11) [.int x1] [] hG (c_X4_mayOpen τ σ a0 x1 hI tA0) my_X4_mayOpen mv_X4_mayOpen w335 dX4_readPiece_11 tA0 (by decide) rfl rfl (Nat.le_of_ble_eq_true rfl) (by decide) (fun v11 s11 p11 => ?_)
  have w11 := hS0.trans p11.1 rfl
  replace hF := fx_C hF p11.2.2.1
  refine q_if_eq (pc := 14) hG 27 dX4_readPiece_14 rfl ?_ ?_
  · intro c14
    replace hF := fx_eq1 hF rfl rfl c14
    refine q_iconst (pc := 27) hG dX4_readPiece_27 ki_0 ?_
    exact q_zrt hG hE dX4_readPiece_28 (q_r.mono rl_0 (by decide)) ⟨w11, (q_r.mono rl_0 (by decide)), (by rw [tl_0]; exact fx_end hF hF0)⟩
  intro c14
  have g_4 := p11.2.2.2 (q_one p11.2.1 c14)
  replace hF := fx_eq2 hF rfl rfl c14
  refine q_aload_n (pc := 17) hG dX4_readPiece_17 0 rfl ?_
  refine q_iload_n (pc := 18) hG dX4_readPiece_18 1 rfl ?_
  refine q_iconst (pc := 19) hG dX4_readPiece_19 ki_1 ?_
  refine q_iadd (pc := 20) hG dX4_readPiece_20 (fun v20 e20 => ?_)
  replace hF := fx_add hF rfl tl_1 (q_addN (lo := 2) (hi := 2) e20 rA1 rl_1 (by decide)).1
  have r_5 := (q_addN (lo := 2) (hi := 2) e20 rA1 rl_1 (by decide)).2
  refine q_cVi (pc := 21) [.int v20] [] hG (c_X4_readPiece_L2 τ s11 a0 v20 w11.1 tA0 r_5 at1 (w11.same tA0 rfl ht) Tt) my_X4_readPiece mv_X4_readPiece w364 dX4_readPiece_21 tA0 (by decide) rfl rfl (Nat.le_of_ble_eq_true rfl) (by decide) (fun v21 s21 p21 => ?_)
  have w21 := w11.trans p21.1 rfl
  replace hF := fx_C hF p21.2.2
  refine q_if_ne (pc := 24) hG 29 dX4_readPiece_24 rfl ?_ ?_
  · intro c24
    replace hF := fx_eq2 hF rfl rfl c24
    refine q_aload_n (pc := 29) hG dX4_readPiece_29 0 rfl ?_
    refine q_getR (pc := 30) (k2 := 3) (n2 := 1) hG fl_X4_31 dX4_readPiece_30 w21.1 tA0 ff_4_4 (fun b30 f30 T30 => ?_)
    replace hF := fx_R hF f30 rfl
    have f_6 := (w21.2 _ _ _ _ tA0 rfl).symm.trans f30
    refine q_bipush (pc := 33) hG dX4_readPiece_33 kb_33 ?_
    refine q_iconst (pc := 35) hG dX4_readPiece_35 ki_0 ?_
    refine q_cVi (pc := 36) [.int 33, .int 0] [] hG (c_X3_add τ s21 b30 33 0 w21.1 T30) my_X3_add mv_X3_add w344 dX4_readPiece_36 T30 (by decide) rfl rfl (Nat.le_of_ble_eq_true rfl) (by decide) (fun v36 s36 p36 => ?_)
    have w36 := w21.trans p36.1 rfl
    have fq36 := p36.2.2
    rewrite [tl_0, tl_33] at fq36
    replace hF := fx_C hF fq36
    refine q_pop (pc := 39) hG dX4_readPiece_39 rfl ?_
    refine q_iconst (pc := 40) hG dX4_readPiece_40 ki_1 ?_
    exact q_zrt hG hE dX4_readPiece_41 (q_r.mono rl_1 (by decide)) ⟨w36, (q_r.mono rl_1 (by decide)), (by rw [tl_1]; exact fx_end hF hF0)⟩
  intro c24
  replace hF := fx_eq1 hF rfl rfl c24
  refine q_iconst (pc := 27) hG dX4_readPiece_27 ki_0 ?_
  exact q_zrt hG hE dX4_readPiece_28 (q_r.mono rl_0 (by decide)) ⟨w21, (q_r.mono rl_0 (by decide)), (by rw [tl_0]; exact fx_end hF hF0)⟩
def md_X4_readPart_L1 : List (Nat × Nat) := [(3, 1), (3, 2), (4, 2), (4, 3), (112, 0), (113, 0)]
set_option maxRecDepth 100000 in
set_option maxHeartbeats 4000000 in
theorem c_X4_readPart_L1 {l : Launch} {D : q_D} (τ : q_T) (σ : q_V) (a0 : Nat) (x1 : Int32) (hI : q_I τ σ) (tA0 : τ a0 = some (4, 1)) (rA1 : q_r x1 1 1) (at1 : Nat) (ht : σ a0 0 = .ref at1) (Tt : τ at1 = some (110, 260)) : q_Ci l D yX4_readPart cX4_readPart 5 (some .boolean) 21 486 τ σ [.ref a0, .int x1] (fun r σ1 => q_S md_X4_readPart_L1 τ σ σ1 ∧ (q_r r 0 1) ∧ ((r.toInt, fx_N σ1) = f_X4_readPart_L1 (fx_N σ) a0 x1.toInt)) := by
  refine q_meti rfl (Nat.le_of_ble_eq_true rfl) (fun X hG hE => ?_)
  show q_O X 0 0 τ σ 0 [(0, .ref a0), (1, .int x1)] []
  have hS0 : q_S md_X4_readPart_L1 τ σ σ := q_S.rf hI
  obtain ⟨Fv, hF⟩ : ∃ z, fx_eq z (f_X4_readPart_L1 (fx_N σ) a0 x1.toInt) := ⟨_, fx_rf⟩
  have hF0 := hF
  unfold f_X4_readPart_L1 at hF
  replace hF := fx_R hF ht rfl
  refine q_aload_n (pc := 0) hG dX4_readPart_0 0 rfl ?_
  refine q_iload_n (pc := 1) hG dX4_readPart_1 1 rfl ?_
  refine q_cVi (pc := 2) [.int x1] [] hG (c_X4_readPiece_L1 τ σ a0 x1 hI tA0 rA1 at1 ht Tt) my_X4_readPiece mv_X4_readPiece w364 dX4_readPart_2 tA0 (by decide) rfl rfl (Nat.le_of_ble_eq_true rfl) (by decide) (fun v2 s2 p2 => ?_)
  have w2 := hS0.trans p2.1 rfl
  replace hF := fx_C hF p2.2.2
  refine q_istore_n (pc := 5) [(2, .int v2), (0, .ref a0), (1, .int x1)] hG dX4_readPart_5 (by decide) rfl ?_
  refine q_iconst (pc := 6) hG dX4_readPart_6 ki_0 ?_
  refine q_istore_n (pc := 7) [(3, .int 0), (2, .int v2), (0, .ref a0), (1, .int x1)] hG dX4_readPart_7 (by decide) rfl ?_
  have J8 : ∀ (n8 : Nat) (p8_2 : Int32) (p8_3 : Int32) (σ8 : q_V), (q_r p8_2 0 1) → (q_r p8_3 0 240) → (q_S md_X4_readPart_L1 τ σ σ8) → (fx_eq Fv (kL_X4_readPart_L1_8 a0 x1.toInt n8 p8_2.toInt p8_3.toInt (fx_N σ8))) → ((240 - p8_3.toInt).toNat < n8) → q_O X 0 0 τ σ8 8 [(0, .ref a0), (1, .int x1), (2, .int p8_2), (3, .int p8_3)] [] := by
    intro n8
    induction n8 with
    | zero => intro p8_2 p8_3 σ8 r8_2 r8_3 hS8 hF hm8; exact absurd hm8 (Nat.not_lt_zero _)
    | succ n8 ih8 =>
      intro p8_2 p8_3 σ8 r8_2 r8_3 hS8 hF hm8
      replace hF := (show fx_eq Fv (kB_X4_readPart_L1_8 (kL_X4_readPart_L1_8 a0 x1.toInt n8) a0 x1.toInt p8_2.toInt p8_3.toInt (fx_N σ8)) from hF)
      unfold kB_X4_readPart_L1_8 at hF
      refine q_iload_n (pc := 8) hG dX4_readPart_8 3 rfl ?_
      refine q_sipush (pc := 9) hG dX4_readPart_9 ks_240 ?_
      refine q_icmp_ge (pc := 12) hG 71 dX4_readPart_12 rfl ?_ ?_
      · intro c12
        replace hF := fx_lt2 hF rfl tl_240 c12
        refine q_iload_n (pc := 71) hG dX4_readPart_71 2 rfl ?_
        exact q_zrt hG hE dX4_readPart_72 r8_2 ⟨hS8, r8_2, (fx_end hF hF0)⟩
      intro c12
      replace hF := fx_lt1 hF rfl tl_240 c12
      refine q_iload_n (pc := 15) hG dX4_readPart_15 2 rfl ?_
      refine q_if_eq (pc := 16) hG 71 dX4_readPart_16 rfl ?_ ?_
      · intro c16
        replace hF := fx_eq1 hF rfl rfl c16
        refine q_iload_n (pc := 71) hG dX4_readPart_71 2 rfl ?_
        have r_1 := q_zeq c16
        exact q_zrt hG hE dX4_readPart_72 (q_r.mono r_1 (by decide)) ⟨hS8, (q_r.mono r_1 (by decide)), (fx_end hF hF0)⟩
      intro c16
      replace hF := fx_eq2 hF rfl rfl c16
      refine q_aload_n (pc := 19) hG dX4_readPart_19 0 rfl ?_
      refine q_pV (pc := 20) [] [] hG (c_X4_peek τ σ8 a0 hS8.1 tA0 at1 (hS8.same tA0 rfl ht) Tt) my_X4_peek mv_X4_peek w316 dX4_readPart_20 tA0 (by decide) rfl rfl (Nat.le_of_ble_eq_true rfl) (by decide) (fun v20 p20 => ?_)
      replace hF := fx_E hF p20.2
      refine q_bipush (pc := 23) hG dX4_readPart_23 kb_38 ?_
      refine q_icmp_ne (pc := 25) hG 71 dX4_readPart_25 rfl ?_ ?_
      · intro c25
        replace hF := fx_eq2 hF rfl tl_38 c25
        refine q_iload_n (pc := 71) hG dX4_readPart_71 2 rfl ?_
        have r_2 := q_neL (c := 1) r8_2 c16 (by decide)
        exact q_zrt hG hE dX4_readPart_72 (q_r.mono r_2 (by decide)) ⟨hS8, (q_r.mono r_2 (by decide)), (fx_end hF hF0)⟩
      intro c25
      replace hF := fx_eq1 hF rfl tl_38 c25
      refine q_aload_n (pc := 28) hG dX4_readPart_28 0 rfl ?_
      refine q_dup (pc := 29) hG dX4_readPart_29 rfl ?_
      refine q_getI (pc := 30) hG fl_X4_22 dX4_readPart_30 hS8.1 tA0 ff_4_2 (fun v30 f30 g30 => ?_)
      replace hF := fx_I hF f30 rfl
      refine q_iconst (pc := 33) hG dX4_readPart_33 ki_1 ?_
      refine q_iadd (pc := 34) hG dX4_readPart_34 (fun v34 e34 => ?_)
      replace hF := fx_B_add hF rfl tl_1 e34
      refine q_putI (pc := 35) hG fl_X4_22 dX4_readPart_35 hS8 tA0 ff_4_2 (q_r_any v34) (by decide) rfl (fun s35 u35 w35 => ?_)
      replace hF := fx_P hF u35 rfl rfl
      have m35 : s35 a0 2 = .int v34 := by rw [u35]; exact q_up_same
      refine q_aload_n (pc := 38) hG dX4_readPart_38 0 rfl ?_
      refine q_getR (pc := 39) (k2 := 3) (n2 := 1) hG fl_X4_31 dX4_readPart_39 w35.1 tA0 ff_4_4 (fun b39 f39 T39 => ?_)
      replace hF := fx_R hF f39 rfl
      have f_3 := (w35.2 _ _ _ _ tA0 rfl).symm.trans f39
      refine q_bipush (pc := 42) hG dX4_readPart_42 kb_38 ?_
      refine q_iconst (pc := 44) hG dX4_readPart_44 ki_0 ?_
      refine q_cVi (pc := 45) [.int 38, .int 0] [] hG (c_X3_add τ s35 b39 38 0 w35.1 T39) my_X3_add mv_X3_add w344 dX4_readPart_45 T39 (by decide) rfl rfl (Nat.le_of_ble_eq_true rfl) (by decide) (fun v45 s45 p45 => ?_)
      have w45 := w35.trans p45.1 rfl
      have fq45 := p45.2.2
      rewrite [tl_0, tl_38] at fq45
      replace hF := fx_C hF fq45
      refine q_istore (pc := 48) [(4, .int v45), (0, .ref a0), (1, .int x1), (2, .int p8_2), (3, .int p8_3)] hG dX4_readPart_48 (by decide) rfl ?_
      refine q_aload_n (pc := 50) hG dX4_readPart_50 1 rfl ?_
      refine q_iload_n (pc := 51) hG dX4_readPart_51 2 rfl ?_
      refine q_cVi (pc := 52) [.int x1] [] hG (c_X4_readPiece_L1 τ s45 a0 x1 w45.1 tA0 rA1 at1 (w45.same tA0 rfl ht) Tt) my_X4_readPiece mv_X4_readPiece w364 dX4_readPart_52 tA0 (by decide) rfl rfl (Nat.le_of_ble_eq_true rfl) (by decide) (fun v52 s52 p52 => ?_)
      have w52 := w45.trans p52.1 rfl
      replace hF := fx_C hF p52.2.2
      refine q_istore_n (pc := 55) [(2, .int v52), (4, .int v45), (0, .ref a0), (1, .int x1), (3, .int p8_3)] hG dX4_readPart_55 (by decide) rfl ?_
      refine q_aload_n (pc := 56) hG dX4_readPart_56 2 rfl ?_
      refine q_getV (pc := 57) (v := .ref b39) hG fl_X4_31 dX4_readPart_57 tA0 (w52.same tA0 rfl f_3) ?_
      refine q_iload (pc := 60) hG dX4_readPart_60 1 rfl ?_
      refine q_cVv (pc := 62) [.int v45] [] hG (c_X3_leadHere τ s52 b39 v45 w52.1 T39) my_X3_leadHere mv_X3_leadHere w367 dX4_readPart_62 T39 (by decide) rfl rfl (Nat.le_of_ble_eq_true rfl) (by decide) (fun s62 p62 => ?_)
      have w62 := w52.trans p62.1 rfl
      replace hF := fx_S hF p62.2
      obtain ⟨v65, e65⟩ : ∃ z : Int32, z = p8_3 + Int32.ofInt 1 := ⟨_, rfl⟩
      have r_4 := q_rlt r8_3 rl_240 c12 239 (by decide)
      have h65 := q_incN (lo := 1) (hi := 240) r_4 (by decide) (by decide) e65
      replace hF := fx_add hF rfl rfl h65.1
      refine q_iinc (pc := 65) [(3, .int v65), (2, .int v52), (4, .int v45), (0, .ref a0), (1, .int x1)] hG dX4_readPart_65 4 rfl e65 (by decide) rfl ?_
      refine q_goto (pc := 68) 8 hG dX4_readPart_68 rfl ?_
      refine q_lv [3, 4, 1, 0] rfl ?_
      exact ih8 v52 v65 s62 p52.2.1 (q_r.mono h65.2 (by decide)) w62 hF (q_measU hm8 (by have o0 := c12; have o1 := h65.1; have o2 := r_4; have o3 := h65.2; have l4 := tl_240; unfold q_r at o2 o3; omega) (h65.2).2)
  refine q_lv [2, 3, 1, 0] rfl ?_
  exact J8 ((240 - (0 : Int32).toInt).toNat + 1) v2 0 s2 p2.2.1 (q_r.mono rl_0 (by decide)) w2 (by rw [tl_0]; exact hF) (Nat.lt_succ_self _)
def md_X4_readParts_L1 : List (Nat × Nat) := [(3, 1), (3, 2), (4, 2), (4, 3), (112, 0), (113, 0)]
set_option maxRecDepth 100000 in
set_option maxHeartbeats 4000000 in
theorem c_X4_readParts_L1 {l : Launch} {D : q_D} (τ : q_T) (σ : q_V) (a0 : Nat) (x1 : Int32) (hI : q_I τ σ) (tA0 : τ a0 = some (4, 1)) (rA1 : q_r x1 1 1) (at1 : Nat) (ht : σ a0 0 = .ref at1) (Tt : τ at1 = some (110, 260)) : q_Ci l D yX4_readParts cX4_readParts 5 (some .boolean) 22 510 τ σ [.ref a0, .int x1] (fun r σ1 => q_S md_X4_readParts_L1 τ σ σ1 ∧ (q_r r 0 1) ∧ ((r.toInt, fx_N σ1) = f_X4_readParts_L1 (fx_N σ) a0 x1.toInt)) := by
  refine q_meti rfl (Nat.le_of_ble_eq_true rfl) (fun X hG hE => ?_)
  show q_O X 0 0 τ σ 0 [(0, .ref a0), (1, .int x1)] []
  have hS0 : q_S md_X4_readParts_L1 τ σ σ := q_S.rf hI
  obtain ⟨Fv, hF⟩ : ∃ z, fx_eq z (f_X4_readParts_L1 (fx_N σ) a0 x1.toInt) := ⟨_, fx_rf⟩
  have hF0 := hF
  unfold f_X4_readParts_L1 at hF
  replace hF := fx_R hF ht rfl
  refine q_aload_n (pc := 0) hG dX4_readParts_0 0 rfl ?_
  refine q_iload_n (pc := 1) hG dX4_readParts_1 1 rfl ?_
  refine q_cVi (pc := 2) [.int x1] [] hG (c_X4_readPart_L1 τ σ a0 x1 hI tA0 rA1 at1 ht Tt) my_X4_readPart mv_X4_readPart w361 dX4_readParts_2 tA0 (by decide) rfl rfl (Nat.le_of_ble_eq_true rfl) (by decide) (fun v2 s2 p2 => ?_)
  have w2 := hS0.trans p2.1 rfl
  replace hF := fx_C hF p2.2.2
  refine q_istore_n (pc := 5) [(2, .int v2), (0, .ref a0), (1, .int x1)] hG dX4_readParts_5 (by decide) rfl ?_
  refine q_iconst (pc := 6) hG dX4_readParts_6 ki_0 ?_
  refine q_istore_n (pc := 7) [(3, .int 0), (2, .int v2), (0, .ref a0), (1, .int x1)] hG dX4_readParts_7 (by decide) rfl ?_
  have J8 : ∀ (n8 : Nat) (p8_2 : Int32) (p8_3 : Int32) (σ8 : q_V), (q_r p8_2 0 1) → (q_r p8_3 0 240) → (q_S md_X4_readParts_L1 τ σ σ8) → (fx_eq Fv (kL_X4_readParts_L1_8 a0 x1.toInt n8 p8_2.toInt p8_3.toInt (fx_N σ8))) → ((240 - p8_3.toInt).toNat < n8) → q_O X 0 0 τ σ8 8 [(0, .ref a0), (1, .int x1), (2, .int p8_2), (3, .int p8_3)] [] := by
    intro n8
    induction n8 with
    | zero => intro p8_2 p8_3 σ8 r8_2 r8_3 hS8 hF hm8; exact absurd hm8 (Nat.not_lt_zero _)
    | succ n8 ih8 =>
      intro p8_2 p8_3 σ8 r8_2 r8_3 hS8 hF hm8
      replace hF := (show fx_eq Fv (kB_X4_readParts_L1_8 (kL_X4_readParts_L1_8 a0 x1.toInt n8) a0 x1.toInt p8_2.toInt p8_3.toInt (fx_N σ8)) from hF)
      unfold kB_X4_readParts_L1_8 at hF
      refine q_iload_n (pc := 8) hG dX4_readParts_8 3 rfl ?_
      refine q_sipush (pc := 9) hG dX4_readParts_9 ks_240 ?_
      refine q_icmp_ge (pc := 12) hG 71 dX4_readParts_12 rfl ?_ ?_
      · intro c12
        replace hF := fx_lt2 hF rfl tl_240 c12
        refine q_iload_n (pc := 71) hG dX4_readParts_71 2 rfl ?_
        exact q_zrt hG hE dX4_readParts_72 r8_2 ⟨hS8, r8_2, (fx_end hF hF0)⟩
      intro c12
      replace hF := fx_lt1 hF rfl tl_240 c12
      refine q_iload_n (pc := 15) hG dX4_readParts_15 2 rfl ?_
      refine q_if_eq (pc := 16) hG 71 dX4_readParts_16 rfl ?_ ?_
      · intro c16
        replace hF := fx_eq1 hF rfl rfl c16
        refine q_iload_n (pc := 71) hG dX4_readParts_71 2 rfl ?_
        have r_1 := q_zeq c16
        exact q_zrt hG hE dX4_readParts_72 (q_r.mono r_1 (by decide)) ⟨hS8, (q_r.mono r_1 (by decide)), (fx_end hF hF0)⟩
      intro c16
      replace hF := fx_eq2 hF rfl rfl c16
      refine q_aload_n (pc := 19) hG dX4_readParts_19 0 rfl ?_
      refine q_pV (pc := 20) [] [] hG (c_X4_peek τ σ8 a0 hS8.1 tA0 at1 (hS8.same tA0 rfl ht) Tt) my_X4_peek mv_X4_peek w316 dX4_readParts_20 tA0 (by decide) rfl rfl (Nat.le_of_ble_eq_true rfl) (by decide) (fun v20 p20 => ?_)
      replace hF := fx_E hF p20.2
      refine q_bipush (pc := 23) hG dX4_readParts_23 kb_124 ?_
      refine q_icmp_ne (pc := 25) hG 71 dX4_readParts_25 rfl ?_ ?_
      · intro c25
        replace hF := fx_eq2 hF rfl tl_124 c25
        refine q_iload_n (pc := 71) hG dX4_readParts_71 2 rfl ?_
        have r_2 := q_neL (c := 1) r8_2 c16 (by decide)
        exact q_zrt hG hE dX4_readParts_72 (q_r.mono r_2 (by decide)) ⟨hS8, (q_r.mono r_2 (by decide)), (fx_end hF hF0)⟩
      intro c25
      replace hF := fx_eq1 hF rfl tl_124 c25
      refine q_aload_n (pc := 28) hG dX4_readParts_28 0 rfl ?_
      refine q_dup (pc := 29) hG dX4_readParts_29 rfl ?_
      refine q_getI (pc := 30) hG fl_X4_22 dX4_readParts_30 hS8.1 tA0 ff_4_2 (fun v30 f30 g30 => ?_)
      replace hF := fx_I hF f30 rfl
      refine q_iconst (pc := 33) hG dX4_readParts_33 ki_1 ?_
      refine q_iadd (pc := 34) hG dX4_readParts_34 (fun v34 e34 => ?_)
      replace hF := fx_B_add hF rfl tl_1 e34
      refine q_putI (pc := 35) hG fl_X4_22 dX4_readParts_35 hS8 tA0 ff_4_2 (q_r_any v34) (by decide) rfl (fun s35 u35 w35 => ?_)
      replace hF := fx_P hF u35 rfl rfl
      have m35 : s35 a0 2 = .int v34 := by rw [u35]; exact q_up_same
      refine q_aload_n (pc := 38) hG dX4_readParts_38 0 rfl ?_
      refine q_getR (pc := 39) (k2 := 3) (n2 := 1) hG fl_X4_31 dX4_readParts_39 w35.1 tA0 ff_4_4 (fun b39 f39 T39 => ?_)
      replace hF := fx_R hF f39 rfl
      have f_3 := (w35.2 _ _ _ _ tA0 rfl).symm.trans f39
      refine q_bipush (pc := 42) hG dX4_readParts_42 kb_124 ?_
      refine q_iconst (pc := 44) hG dX4_readParts_44 ki_0 ?_
      refine q_cVi (pc := 45) [.int 124, .int 0] [] hG (c_X3_add τ s35 b39 124 0 w35.1 T39) my_X3_add mv_X3_add w344 dX4_readParts_45 T39 (by decide) rfl rfl (Nat.le_of_ble_eq_true rfl) (by decide) (fun v45 s45 p45 => ?_)
      have w45 := w35.trans p45.1 rfl
      have fq45 := p45.2.2
      rewrite [tl_0, tl_124] at fq45
      replace hF := fx_C hF fq45
      refine q_istore (pc := 48) [(4, .int v45), (0, .ref a0), (1, .int x1), (2, .int p8_2), (3, .int p8_3)] hG dX4_readParts_48 (by decide) rfl ?_
      refine q_aload_n (pc := 50) hG dX4_readParts_50 1 rfl ?_
      refine q_iload_n (pc := 51) hG dX4_readParts_51 2 rfl ?_
      refine q_cVi (pc := 52) [.int x1] [] hG (c_X4_readPart_L1 τ s45 a0 x1 w45.1 tA0 rA1 at1 (w45.same tA0 rfl ht) Tt) my_X4_readPart mv_X4_readPart w361 dX4_readParts_52 tA0 (by decide) rfl rfl (Nat.le_of_ble_eq_true rfl) (by decide) (fun v52 s52 p52 => ?_)
      have w52 := w45.trans p52.1 rfl
      replace hF := fx_C hF p52.2.2
      refine q_istore_n (pc := 55) [(2, .int v52), (4, .int v45), (0, .ref a0), (1, .int x1), (3, .int p8_3)] hG dX4_readParts_55 (by decide) rfl ?_
      refine q_aload_n (pc := 56) hG dX4_readParts_56 2 rfl ?_
      refine q_getV (pc := 57) (v := .ref b39) hG fl_X4_31 dX4_readParts_57 tA0 (w52.same tA0 rfl f_3) ?_
      refine q_iload (pc := 60) hG dX4_readParts_60 1 rfl ?_
      refine q_cVv (pc := 62) [.int v45] [] hG (c_X3_leadHere τ s52 b39 v45 w52.1 T39) my_X3_leadHere mv_X3_leadHere w367 dX4_readParts_62 T39 (by decide) rfl rfl (Nat.le_of_ble_eq_true rfl) (by decide) (fun s62 p62 => ?_)
      have w62 := w52.trans p62.1 rfl
      replace hF := fx_S hF p62.2
      obtain ⟨v65, e65⟩ : ∃ z : Int32, z = p8_3 + Int32.ofInt 1 := ⟨_, rfl⟩
      have r_4 := q_rlt r8_3 rl_240 c12 239 (by decide)
      have h65 := q_incN (lo := 1) (hi := 240) r_4 (by decide) (by decide) e65
      replace hF := fx_add hF rfl rfl h65.1
      refine q_iinc (pc := 65) [(3, .int v65), (2, .int v52), (4, .int v45), (0, .ref a0), (1, .int x1)] hG dX4_readParts_65 4 rfl e65 (by decide) rfl ?_
      refine q_goto (pc := 68) 8 hG dX4_readParts_68 rfl ?_
      refine q_lv [3, 4, 1, 0] rfl ?_
      exact ih8 v52 v65 s62 p52.2.1 (q_r.mono h65.2 (by decide)) w62 hF (q_measU hm8 (by have o0 := c12; have o1 := h65.1; have o2 := r_4; have o3 := h65.2; have l4 := tl_240; unfold q_r at o2 o3; omega) (h65.2).2)
  refine q_lv [2, 3, 1, 0] rfl ?_
  exact J8 ((240 - (0 : Int32).toInt).toNat + 1) v2 0 s2 p2.2.1 (q_r.mono rl_0 (by decide)) w2 (by rw [tl_0]; exact hF) (Nat.lt_succ_self _)
theorem dX4_readClause_0 : decode cX4_readClause 0 = .ok (.aload_n 0, 1) := by decide +kernel
theorem dX4_readClause_1 : decode cX4_readClause 1 = .ok (.invokevirtual 51, 3) := by decide +kernel
theorem dX4_readClause_4 : decode cX4_readClause 4 = .ok (.istore_n 2, 1) := by decide +kernel
theorem dX4_readClause_5 : decode cX4_readClause 5 = .ok (.iload_n 2, 1) := by decide +kernel
theorem dX4_readClause_6 : decode cX4_readClause 6 = .ok (.bipush 112, 2) := by decide +kernel
theorem dX4_readClause_8 : decode cX4_readClause 8 = .ok (.if_icmp .eq 33, 3) := by decide +kernel
theorem dX4_readClause_11 : decode cX4_readClause 11 = .ok (.iload_n 2, 1) := by decide +kernel
theorem dX4_readClause_12 : decode cX4_readClause 12 = .ok (.bipush 100, 2) := by decide +kernel
theorem dX4_readClause_14 : decode cX4_readClause 14 = .ok (.if_icmp .eq 27, 3) := by decide +kernel
theorem dX4_readClause_17 : decode cX4_readClause 17 = .ok (.iload_n 2, 1) := by decide +kernel
theorem dX4_readClause_18 : decode cX4_readClause 18 = .ok (.bipush 115, 2) := by decide +kernel
theorem dX4_readClause_20 : decode cX4_readClause 20 = .ok (.if_icmp .eq 21, 3) := by decide +kernel
theorem dX4_readClause_23 : decode cX4_readClause 23 = .ok (.iload_n 2, 1) := by decide +kernel
theorem dX4_readClause_24 : decode cX4_readClause 24 = .ok (.bipush 111, 2) := by decide +kernel
theorem dX4_readClause_26 : decode cX4_readClause 26 = .ok (.if_icmp .eq 15, 3) := by decide +kernel
theorem dX4_readClause_29 : decode cX4_readClause 29 = .ok (.iload_n 2, 1) := by decide +kernel
theorem dX4_readClause_30 : decode cX4_readClause 30 = .ok (.bipush 108, 2) := by decide +kernel
theorem dX4_readClause_32 : decode cX4_readClause 32 = .ok (.if_icmp .eq 9, 3) := by decide +kernel
theorem dX4_readClause_35 : decode cX4_readClause 35 = .ok (.aload_n 0, 1) := by decide +kernel
theorem dX4_readClause_36 : decode cX4_readClause 36 = .ok (.iconst 1, 1) := by decide +kernel
theorem dX4_readClause_37 : decode cX4_readClause 37 = .ok (.invokevirtual 55, 3) := by decide +kernel
theorem dX4_readClause_40 : decode cX4_readClause 40 = .ok (.ireturn, 1) := by decide +kernel
theorem dX4_readClause_41 : decode cX4_readClause 41 = .ok (.iload_n 1, 1) := by decide +kernel
theorem dX4_readClause_42 : decode cX4_readClause 42 = .ok (.bipush 16, 2) := by decide +kernel
theorem dX4_readClause_44 : decode cX4_readClause 44 = .ok (.if_icmp .lt 9, 3) := by decide +kernel
theorem dX4_readClause_47 : decode cX4_readClause 47 = .ok (.aload_n 0, 1) := by decide +kernel
theorem dX4_readClause_48 : decode cX4_readClause 48 = .ok (.iconst 4, 1) := by decide +kernel
theorem dX4_readClause_49 : decode cX4_readClause 49 = .ok (.invokevirtual 55, 3) := by decide +kernel
theorem dX4_readClause_52 : decode cX4_readClause 52 = .ok (.ireturn, 1) := by decide +kernel
theorem dX4_readClause_53 : decode cX4_readClause 53 = .ok (.aload_n 0, 1) := by decide +kernel
theorem dX4_readClause_54 : decode cX4_readClause 54 = .ok (.dup, 1) := by decide +kernel
theorem dX4_readClause_55 : decode cX4_readClause 55 = .ok (.getfield 22, 3) := by decide +kernel
theorem dX4_readClause_58 : decode cX4_readClause 58 = .ok (.iconst 1, 1) := by decide +kernel
theorem dX4_readClause_59 : decode cX4_readClause 59 = .ok (.iadd, 1) := by decide +kernel
theorem dX4_readClause_60 : decode cX4_readClause 60 = .ok (.putfield 22, 3) := by decide +kernel
theorem dX4_readClause_63 : decode cX4_readClause 63 = .ok (.aload_n 0, 1) := by decide +kernel
theorem dX4_readClause_64 : decode cX4_readClause 64 = .ok (.getfield 31, 3) := by decide +kernel
theorem dX4_readClause_67 : decode cX4_readClause 67 = .ok (.iload_n 2, 1) := by decide +kernel
theorem dX4_readClause_68 : decode cX4_readClause 68 = .ok (.invokevirtual 58, 3) := by decide +kernel
theorem dX4_readClause_71 : decode cX4_readClause 71 = .ok (.aload_n 0, 1) := by decide +kernel
theorem dX4_readClause_72 : decode cX4_readClause 72 = .ok (.iconst 0, 1) := by decide +kernel
theorem dX4_readClause_73 : decode cX4_readClause 73 = .ok (.invokevirtual 62, 3) := by decide +kernel
theorem dX4_readClause_76 : decode cX4_readClause 76 = .ok (.ifCond .eq 12, 3) := by decide +kernel
theorem dX4_readClause_79 : decode cX4_readClause 79 = .ok (.aload_n 0, 1) := by decide +kernel
theorem dX4_readClause_80 : decode cX4_readClause 80 = .ok (.bipush 40, 2) := by decide +kernel
theorem dX4_readClause_82 : decode cX4_readClause 82 = .ok (.invokevirtual 48, 3) := by decide +kernel
theorem dX4_readClause_85 : decode cX4_readClause 85 = .ok (.ifCond .ne 5, 3) := by decide +kernel
theorem dX4_readClause_88 : decode cX4_readClause 88 = .ok (.iconst 0, 1) := by decide +kernel
theorem dX4_readClause_89 : decode cX4_readClause 89 = .ok (.ireturn, 1) := by decide +kernel
theorem dX4_readClause_90 : decode cX4_readClause 90 = .ok (.aload_n 0, 1) := by decide +kernel
theorem dX4_readClause_91 : decode cX4_readClause 91 = .ok (.getfield 31, 3) := by decide +kernel
theorem dX4_readClause_94 : decode cX4_readClause 94 = .ok (.bipush 59, 2) := by decide +kernel
theorem dX4_readClause_96 : decode cX4_readClause 96 = .ok (.iconst 0, 1) := by decide +kernel
theorem dX4_readClause_97 : decode cX4_readClause 97 = .ok (.invokevirtual 65, 3) := by decide +kernel
theorem dX4_readClause_100 : decode cX4_readClause 100 = .ok (.pop, 1) := by decide +kernel
theorem dX4_readClause_101 : decode cX4_readClause 101 = .ok (.aload_n 0, 1) := by decide +kernel
theorem dX4_readClause_102 : decode cX4_readClause 102 = .ok (.getfield 31, 3) := by decide +kernel
theorem dX4_readClause_105 : decode cX4_readClause 105 = .ok (.invokevirtual 68, 3) := by decide +kernel
theorem dX4_readClause_108 : decode cX4_readClause 108 = .ok (.aload_n 0, 1) := by decide +kernel
theorem dX4_readClause_109 : decode cX4_readClause 109 = .ok (.iconst 1, 1) := by decide +kernel
theorem dX4_readClause_110 : decode cX4_readClause 110 = .ok (.invokevirtual 71, 3) := by decide +kernel
theorem dX4_readClause_113 : decode cX4_readClause 113 = .ok (.ifCond .eq 12, 3) := by decide +kernel
theorem dX4_readClause_116 : decode cX4_readClause 116 = .ok (.aload_n 0, 1) := by decide +kernel
theorem dX4_readClause_117 : decode cX4_readClause 117 = .ok (.bipush 41, 2) := by decide +kernel
theorem dX4_readClause_119 : decode cX4_readClause 119 = .ok (.invokevirtual 48, 3) := by decide +kernel
theorem dX4_readClause_122 : decode cX4_readClause 122 = .ok (.ifCond .ne 5, 3) := by decide +kernel
theorem dX4_readClause_125 : decode cX4_readClause 125 = .ok (.iconst 0, 1) := by decide +kernel
theorem dX4_readClause_126 : decode cX4_readClause 126 = .ok (.ireturn, 1) := by decide +kernel
theorem dX4_readClause_127 : decode cX4_readClause 127 = .ok (.aload_n 0, 1) := by decide +kernel
theorem dX4_readClause_128 : decode cX4_readClause 128 = .ok (.getfield 31, 3) := by decide +kernel
theorem dX4_readClause_131 : decode cX4_readClause 131 = .ok (.bipush 59, 2) := by decide +kernel
theorem dX4_readClause_133 : decode cX4_readClause 133 = .ok (.iconst 0, 1) := by decide +kernel
theorem dX4_readClause_134 : decode cX4_readClause 134 = .ok (.invokevirtual 65, 3) := by decide +kernel
theorem dX4_readClause_137 : decode cX4_readClause 137 = .ok (.pop, 1) := by decide +kernel
theorem dX4_readClause_138 : decode cX4_readClause 138 = .ok (.iconst 1, 1) := by decide +kernel
theorem dX4_readClause_139 : decode cX4_readClause 139 = .ok (.ireturn, 1) := by decide +kernel
def md_X4_readClause : List (Nat × Nat) := [(3, 0), (3, 1), (3, 2), (4, 2), (4, 3), (112, 0), (113, 0), (114, 0), (115, 0), (116, 0)]
set_option maxRecDepth 100000 in
set_option maxHeartbeats 4000000 in
theorem c_X4_readClause {l : Launch} {D : q_D} (τ : q_T) (σ : q_V) (a0 : Nat) (x1 : Int32) (hI : q_I τ σ) (tA0 : τ a0 = some (4, 1)) (at1 : Nat) (ht : σ a0 0 = .ref at1) (Tt : τ at1 = some (110, 260)) : q_Ci l D yX4_readClause cX4_readClause 3 (some .boolean) 23 534 τ σ [.ref a0, .int x1] (fun r σ1 => q_S md_X4_readClause τ σ σ1 ∧ (q_r r 0 1) ∧ ((r.toInt, fx_N σ1) = f_X4_readClause (fx_N σ) a0 x1.toInt)) := by
  refine q_meti rfl (Nat.le_of_ble_eq_true rfl) (fun X hG hE => ?_)
  show q_O X 0 0 τ σ 0 [(0, .ref a0), (1, .int x1)] []
  have hS0 : q_S md_X4_readClause τ σ σ := q_S.rf hI
  obtain ⟨Fv, hF⟩ : ∃ z, fx_eq z (f_X4_readClause (fx_N σ) a0 x1.toInt) := ⟨_, fx_rf⟩
  have hF0 := hF
  unfold f_X4_readClause at hF
  replace hF := fx_R hF ht rfl
  refine q_aload_n (pc := 0) hG dX4_readClause_0 0 rfl ?_
  refine q_pV (pc := 1) [] [] hG (c_X4_peek τ σ a0 hI tA0 at1 ht Tt) my_X4_peek mv_X4_peek w316 dX4_readClause_1 tA0 (by decide) rfl rfl (Nat.le_of_ble_eq_true rfl) (by decide) (fun v1 p1 => ?_)
  replace hF := fx_E hF p1.2
  refine q_istore_n (pc := 4) [(2, .int v1), (0, .ref a0), (1, .int x1)] hG dX4_readClause_4 (by decide) rfl ?_
  refine q_iload_n (pc := 5) hG dX4_readClause_5 0 rfl ?_
  refine q_bipush (pc := 6) hG dX4_readClause_6 kb_112 ?_
  have J41 : (fx_eq Fv (kJ_X4_readClause_41 x1.toInt (fx_N σ) a0 v1.toInt)) → q_O X 0 0 τ σ 41 [(0, .ref a0), (1, .int x1), (2, .int v1)] [] := by
    intro hF
    unfold kJ_X4_readClause_41 at hF
    refine q_iload_n (pc := 41) hG dX4_readClause_41 1 rfl ?_
    refine q_bipush (pc := 42) hG dX4_readClause_42 kb_16 ?_
    refine q_icmp_lt (pc := 44) hG 53 dX4_readClause_44 rfl ?_ ?_
    · intro c44
      replace hF := fx_lt1 hF rfl tl_16 c44
      refine q_aload_n (pc := 53) hG dX4_readClause_53 0 rfl ?_
      refine q_dup (pc := 54) hG dX4_readClause_54 rfl ?_
      refine q_getI (pc := 55) hG fl_X4_22 dX4_readClause_55 hI tA0 ff_4_2 (fun v55 f55 g55 => ?_)
      replace hF := fx_I hF f55 rfl
      refine q_iconst (pc := 58) hG dX4_readClause_58 ki_1 ?_
      refine q_iadd (pc := 59) hG dX4_readClause_59 (fun v59 e59 => ?_)
      replace hF := fx_B_add hF rfl tl_1 e59
      refine q_putI (pc := 60) hG fl_X4_22 dX4_readClause_60 hS0 tA0 ff_4_2 (q_r_any v59) (by decide) rfl (fun s60 u60 w60 => ?_)
      replace hF := fx_P hF u60 rfl rfl
      have m60 : s60 a0 2 = .int v59 := by rw [u60]; exact q_up_same
      refine q_aload_n (pc := 63) hG dX4_readClause_63 0 rfl ?_
      refine q_getR (pc := 64) (k2 := 3) (n2 := 1) hG fl_X4_31 dX4_readClause_64 w60.1 tA0 ff_4_4 (fun b64 f64 T64 => ?_)
      replace hF := fx_R hF f64 rfl
      have f_1 := (w60.2 _ _ _ _ tA0 rfl).symm.trans f64
      refine q_iload_n (pc := 67) hG dX4_readClause_67 2 rfl ?_
      refine q_cVv (pc := 68) [.int v1] [] hG (c_X3_beginClause τ s60 b64 v1 w60.1 T64) my_X3_beginClause mv_X3_beginClause w322 dX4_readClause_68 T64 (by decide) rfl rfl (Nat.le_of_ble_eq_true rfl) (by decide) (fun s68 p68 => ?_)
      have w68 := w60.trans p68.1 rfl
      replace hF := fx_S hF p68.2
      refine q_aload_n (pc := 71) hG dX4_readClause_71 0 rfl ?_
      refine q_iconst (pc := 72) hG dX4_readClause_72 ki_0 ?_
      refine q_cVi (pc := 73) [.int 0] [] hG (c_X4_readSum_L0 τ s68 a0 0 w68.1 tA0 rl_0 at1 (w68.same tA0 rfl ht) Tt) my_X4_readSum mv_X4_readSum w326 dX4_readClause_73 tA0 (by decide) rfl rfl (Nat.le_of_ble_eq_true rfl) (by decide) (fun v73 s73 p73 => ?_)
      have w73 := w68.trans p73.1 rfl
      have fq73 := p73.2.2
      rewrite [tl_0] at fq73
      replace hF := fx_C hF fq73
      refine q_if_eq (pc := 76) hG 88 dX4_readClause_76 rfl ?_ ?_
      · intro c76
        replace hF := fx_eq1 hF rfl rfl c76
        refine q_iconst (pc := 88) hG dX4_readClause_88 ki_0 ?_
        exact q_zrt hG hE dX4_readClause_89 (q_r.mono rl_0 (by decide)) ⟨w73, (q_r.mono rl_0 (by decide)), (by rw [tl_0]; exact fx_end hF hF0)⟩
      intro c76
      replace hF := fx_eq2 hF rfl rfl c76
      refine q_aload_n (pc := 79) hG dX4_readClause_79 0 rfl ?_
      refine q_bipush (pc := 80) hG dX4_readClause_80 kb_40 ?_
      refine q_cVi (pc := 82) [.int 40] [] hG (c_X4_expect τ s73 a0 40 w73.1 tA0 at1 (w73.same tA0 rfl ht) Tt) my_X4_expect mv_X4_expect w338 dX4_readClause_82 tA0 (by decide) rfl rfl (Nat.le_of_ble_eq_true rfl) (by decide) (fun v82 s82 p82 => ?_)
      have w82 := w73.trans p82.1 rfl
      have fq82 := p82.2.2
      rewrite [tl_40] at fq82
      replace hF := fx_C hF fq82
      refine q_if_ne (pc := 85) hG 90 dX4_readClause_85 rfl ?_ ?_
      · intro c85
        replace hF := fx_eq2 hF rfl rfl c85
        refine q_aload_n (pc := 90) hG dX4_readClause_90 0 rfl ?_
        refine q_getV (pc := 91) (v := .ref b64) hG fl_X4_31 dX4_readClause_91 tA0 (w82.same tA0 rfl f_1) ?_
        refine q_bipush (pc := 94) hG dX4_readClause_94 kb_59 ?_
        refine q_iconst (pc := 96) hG dX4_readClause_96 ki_0 ?_
        refine q_cVi (pc := 97) [.int 59, .int 0] [] hG (c_X3_add τ s82 b64 59 0 w82.1 T64) my_X3_add mv_X3_add w344 dX4_readClause_97 T64 (by decide) rfl rfl (Nat.le_of_ble_eq_true rfl) (by decide) (fun v97 s97 p97 => ?_)
        have w97 := w82.trans p97.1 rfl
        have fq97 := p97.2.2
        rewrite [tl_0, tl_59] at fq97
        replace hF := fx_C hF fq97
        refine q_pop (pc := 100) hG dX4_readClause_100 rfl ?_
        refine q_aload_n (pc := 101) hG dX4_readClause_101 0 rfl ?_
        refine q_getV (pc := 102) (v := .ref b64) hG fl_X4_31 dX4_readClause_102 tA0 (w97.same tA0 rfl f_1) ?_
        refine q_cVv (pc := 105) [] [] hG (c_X3_beginCondition τ s97 b64 w97.1 T64) my_X3_beginCondition mv_X3_beginCondition w354 dX4_readClause_105 T64 (by decide) rfl rfl (Nat.le_of_ble_eq_true rfl) (by decide) (fun s105 p105 => ?_)
        have w105 := w97.trans p105.1 rfl
        replace hF := fx_S hF p105.2
        refine q_aload_n (pc := 108) hG dX4_readClause_108 0 rfl ?_
        refine q_iconst (pc := 109) hG dX4_readClause_109 ki_1 ?_
        refine q_cVi (pc := 110) [.int 1] [] hG (c_X4_readParts_L1 τ s105 a0 1 w105.1 tA0 rl_1 at1 (w105.same tA0 rfl ht) Tt) my_X4_readParts mv_X4_readParts w358 dX4_readClause_110 tA0 (by decide) rfl rfl (Nat.le_of_ble_eq_true rfl) (by decide) (fun v110 s110 p110 => ?_)
        have w110 := w105.trans p110.1 rfl
        have fq110 := p110.2.2
        rewrite [tl_1] at fq110
        replace hF := fx_C hF fq110
        refine q_if_eq (pc := 113) hG 125 dX4_readClause_113 rfl ?_ ?_
        · intro c113
          replace hF := fx_eq1 hF rfl rfl c113
          refine q_iconst (pc := 125) hG dX4_readClause_125 ki_0 ?_
          exact q_zrt hG hE dX4_readClause_126 (q_r.mono rl_0 (by decide)) ⟨w110, (q_r.mono rl_0 (by decide)), (by rw [tl_0]; exact fx_end hF hF0)⟩
        intro c113
        replace hF := fx_eq2 hF rfl rfl c113
        refine q_aload_n (pc := 116) hG dX4_readClause_116 0 rfl ?_
        refine q_bipush (pc := 117) hG dX4_readClause_117 kb_41 ?_
        refine q_cVi (pc := 119) [.int 41] [] hG (c_X4_expect τ s110 a0 41 w110.1 tA0 at1 (w110.same tA0 rfl ht) Tt) my_X4_expect mv_X4_expect w338 dX4_readClause_119 tA0 (by decide) rfl rfl (Nat.le_of_ble_eq_true rfl) (by decide) (fun v119 s119 p119 => ?_)
        have w119 := w110.trans p119.1 rfl
        have fq119 := p119.2.2
        rewrite [tl_41] at fq119
        replace hF := fx_C hF fq119
        refine q_if_ne (pc := 122) hG 127 dX4_readClause_122 rfl ?_ ?_
        · intro c122
          replace hF := fx_eq2 hF rfl rfl c122
          refine q_aload_n (pc := 127) hG dX4_readClause_127 0 rfl ?_
          refine q_getV (pc := 128) (v := .ref b64) hG fl_X4_31 dX4_readClause_128 tA0 (w119.same tA0 rfl f_1) ?_
          refine q_bipush (pc := 131) hG dX4_readClause_131 kb_59 ?_
          refine q_iconst (pc := 133) hG dX4_readClause_133 ki_0 ?_
          refine q_cVi (pc := 134) [.int 59, .int 0] [] hG (c_X3_add τ s119 b64 59 0 w119.1 T64) my_X3_add mv_X3_add w344 dX4_readClause_134 T64 (by decide) rfl rfl (Nat.le_of_ble_eq_true rfl) (by decide) (fun v134 s134 p134 => ?_)
          have w134 := w119.trans p134.1 rfl
          have fq134 := p134.2.2
          rewrite [tl_0, tl_59] at fq134
          replace hF := fx_C hF fq134
          refine q_pop (pc := 137) hG dX4_readClause_137 rfl ?_
          refine q_iconst (pc := 138) hG dX4_readClause_138 ki_1 ?_
          exact q_zrt hG hE dX4_readClause_139 (q_r.mono rl_1 (by decide)) ⟨w134, (q_r.mono rl_1 (by decide)), (by rw [tl_1]; exact fx_end hF hF0)⟩
        intro c122
        replace hF := fx_eq1 hF rfl rfl c122
        refine q_iconst (pc := 125) hG dX4_readClause_125 ki_0 ?_
        exact q_zrt hG hE dX4_readClause_126 (q_r.mono rl_0 (by decide)) ⟨w119, (q_r.mono rl_0 (by decide)), (by rw [tl_0]; exact fx_end hF hF0)⟩
      intro c85
      replace hF := fx_eq1 hF rfl rfl c85
      refine q_iconst (pc := 88) hG dX4_readClause_88 ki_0 ?_
      exact q_zrt hG hE dX4_readClause_89 (q_r.mono rl_0 (by decide)) ⟨w82, (q_r.mono rl_0 (by decide)), (by rw [tl_0]; exact fx_end hF hF0)⟩
    intro c44
    replace hF := fx_lt2 hF rfl tl_16 c44
    refine q_aload_n (pc := 47) hG dX4_readClause_47 0 rfl ?_
    refine q_iconst (pc := 48) hG dX4_readClause_48 ki_4 ?_
    refine q_cVi (pc := 49) [.int 4] [] hG (c_X4_fail τ σ a0 4 hI tA0) my_X4_fail mv_X4_fail w319 dX4_readClause_49 tA0 (by decide) rfl rfl (Nat.le_of_ble_eq_true rfl) (by decide) (fun v49 s49 p49 => ?_)
    have w49 := hS0.trans p49.1 rfl
    have fq49 := p49.2.2
    rewrite [tl_4] at fq49
    replace hF := fx_C hF fq49
    exact q_zrt hG hE dX4_readClause_52 (q_r.mono p49.2.1 (by decide)) ⟨w49, (q_r.mono p49.2.1 (by decide)), (fx_end hF hF0)⟩
  refine q_icmp_eq (pc := 8) hG 41 dX4_readClause_8 rfl ?_ ?_
  · intro c8
    replace hF := fx_eq1 hF rfl tl_112 c8
    refine q_lv [1, 2, 0] rfl ?_
    exact J41 hF
  intro c8
  replace hF := fx_eq2 hF rfl tl_112 c8
  refine q_iload_n (pc := 11) hG dX4_readClause_11 0 rfl ?_
  refine q_bipush (pc := 12) hG dX4_readClause_12 kb_100 ?_
  refine q_icmp_eq (pc := 14) hG 41 dX4_readClause_14 rfl ?_ ?_
  · intro c14
    replace hF := fx_eq1 hF rfl tl_100 c14
    refine q_lv [1, 2, 0] rfl ?_
    exact J41 hF
  intro c14
  replace hF := fx_eq2 hF rfl tl_100 c14
  refine q_iload_n (pc := 17) hG dX4_readClause_17 0 rfl ?_
  refine q_bipush (pc := 18) hG dX4_readClause_18 kb_115 ?_
  refine q_icmp_eq (pc := 20) hG 41 dX4_readClause_20 rfl ?_ ?_
  · intro c20
    replace hF := fx_eq1 hF rfl tl_115 c20
    refine q_lv [1, 2, 0] rfl ?_
    exact J41 hF
  intro c20
  replace hF := fx_eq2 hF rfl tl_115 c20
  refine q_iload_n (pc := 23) hG dX4_readClause_23 0 rfl ?_
  refine q_bipush (pc := 24) hG dX4_readClause_24 kb_111 ?_
  refine q_icmp_eq (pc := 26) hG 41 dX4_readClause_26 rfl ?_ ?_
  · intro c26
    replace hF := fx_eq1 hF rfl tl_111 c26
    refine q_lv [1, 2, 0] rfl ?_
    exact J41 hF
  intro c26
  replace hF := fx_eq2 hF rfl tl_111 c26
  refine q_iload_n (pc := 29) hG dX4_readClause_29 0 rfl ?_
  refine q_bipush (pc := 30) hG dX4_readClause_30 kb_108 ?_
  refine q_icmp_eq (pc := 32) hG 41 dX4_readClause_32 rfl ?_ ?_
  · intro c32
    replace hF := fx_eq1 hF rfl tl_108 c32
    refine q_lv [1, 2, 0] rfl ?_
    exact J41 hF
  intro c32
  replace hF := fx_eq2 hF rfl tl_108 c32
  refine q_aload_n (pc := 35) hG dX4_readClause_35 1 rfl ?_
  refine q_iconst (pc := 36) hG dX4_readClause_36 ki_1 ?_
  refine q_cVi (pc := 37) [.int 1] [] hG (c_X4_fail τ σ a0 1 hI tA0) my_X4_fail mv_X4_fail w319 dX4_readClause_37 tA0 (by decide) rfl rfl (Nat.le_of_ble_eq_true rfl) (by decide) (fun v37 s37 p37 => ?_)
  have w37 := hS0.trans p37.1 rfl
  have fq37 := p37.2.2
  rewrite [tl_1] at fq37
  replace hF := fx_C hF fq37
  exact q_zrt hG hE dX4_readClause_40 (q_r.mono p37.2.1 (by decide)) ⟨w37, (q_r.mono p37.2.1 (by decide)), (fx_end hF hF0)⟩
theorem dX4_read_0 : decode cX4_read 0 = .ok (.aload_n 0, 1) := by decide +kernel
theorem dX4_read_1 : decode cX4_read 1 = .ok (.aload_n 1, 1) := by decide +kernel
theorem dX4_read_2 : decode cX4_read 2 = .ok (.putfield 13, 3) := by decide +kernel
theorem dX4_read_5 : decode cX4_read 5 = .ok (.aload_n 0, 1) := by decide +kernel
theorem dX4_read_6 : decode cX4_read 6 = .ok (.iload_n 2, 1) := by decide +kernel
theorem dX4_read_7 : decode cX4_read 7 = .ok (.aload_n 1, 1) := by decide +kernel
theorem dX4_read_8 : decode cX4_read 8 = .ok (.arraylength, 1) := by decide +kernel
theorem dX4_read_9 : decode cX4_read 9 = .ok (.invokestatic 35, 3) := by decide +kernel
theorem dX4_read_12 : decode cX4_read 12 = .ok (.putfield 18, 3) := by decide +kernel
theorem dX4_read_15 : decode cX4_read 15 = .ok (.aload_n 0, 1) := by decide +kernel
theorem dX4_read_16 : decode cX4_read 16 = .ok (.iconst 0, 1) := by decide +kernel
theorem dX4_read_17 : decode cX4_read 17 = .ok (.putfield 22, 3) := by decide +kernel
theorem dX4_read_20 : decode cX4_read 20 = .ok (.aload_n 0, 1) := by decide +kernel
theorem dX4_read_21 : decode cX4_read 21 = .ok (.iconst 0, 1) := by decide +kernel
theorem dX4_read_22 : decode cX4_read 22 = .ok (.putfield 25, 3) := by decide +kernel
theorem dX4_read_25 : decode cX4_read 25 = .ok (.aload_n 0, 1) := by decide +kernel
theorem dX4_read_26 : decode cX4_read 26 = .ok (.getfield 31, 3) := by decide +kernel
theorem dX4_read_29 : decode cX4_read 29 = .ok (.invokevirtual 41, 3) := by decide +kernel
theorem dX4_read_32 : decode cX4_read 32 = .ok (.iconst 0, 1) := by decide +kernel
theorem dX4_read_33 : decode cX4_read 33 = .ok (.istore_n 3, 1) := by decide +kernel
theorem dX4_read_34 : decode cX4_read 34 = .ok (.iload_n 3, 1) := by decide +kernel
theorem dX4_read_35 : decode cX4_read 35 = .ok (.bipush 16, 2) := by decide +kernel
theorem dX4_read_37 : decode cX4_read 37 = .ok (.if_icmp .gt 40, 3) := by decide +kernel
theorem dX4_read_40 : decode cX4_read 40 = .ok (.aload_n 0, 1) := by decide +kernel
theorem dX4_read_41 : decode cX4_read 41 = .ok (.iload_n 3, 1) := by decide +kernel
theorem dX4_read_42 : decode cX4_read 42 = .ok (.invokevirtual 44, 3) := by decide +kernel
theorem dX4_read_45 : decode cX4_read 45 = .ok (.ifCond .eq 32, 3) := by decide +kernel
theorem dX4_read_48 : decode cX4_read 48 = .ok (.aload_n 0, 1) := by decide +kernel
theorem dX4_read_49 : decode cX4_read 49 = .ok (.getfield 22, 3) := by decide +kernel
theorem dX4_read_52 : decode cX4_read 52 = .ok (.aload_n 0, 1) := by decide +kernel
theorem dX4_read_53 : decode cX4_read 53 = .ok (.getfield 18, 3) := by decide +kernel
theorem dX4_read_56 : decode cX4_read 56 = .ok (.if_icmp .ge 21, 3) := by decide +kernel
theorem dX4_read_59 : decode cX4_read 59 = .ok (.aload_n 0, 1) := by decide +kernel
theorem dX4_read_60 : decode cX4_read 60 = .ok (.bipush 59, 2) := by decide +kernel
theorem dX4_read_62 : decode cX4_read 62 = .ok (.invokevirtual 48, 3) := by decide +kernel
theorem dX4_read_65 : decode cX4_read 65 = .ok (.ifCond .ne 6, 3) := by decide +kernel
theorem dX4_read_68 : decode cX4_read 68 = .ok (.goto 9, 3) := by decide +kernel
theorem dX4_read_71 : decode cX4_read 71 = .ok (.iinc 3 1, 3) := by decide +kernel
theorem dX4_read_74 : decode cX4_read 74 = .ok (.goto (-40), 3) := by decide +kernel
theorem dX4_read_77 : decode cX4_read 77 = .ok (.aload_n 0, 1) := by decide +kernel
theorem dX4_read_78 : decode cX4_read 78 = .ok (.getfield 25, 3) := by decide +kernel
theorem dX4_read_81 : decode cX4_read 81 = .ok (.ireturn, 1) := by decide +kernel
def md_X4_read : List (Nat × Nat) := [(3, 0), (3, 1), (3, 2), (4, 0), (4, 1), (4, 2), (4, 3), (112, 0), (113, 0), (114, 0), (115, 0), (116, 0)]
set_option maxRecDepth 100000 in
set_option maxHeartbeats 4000000 in
theorem c_X4_read {l : Launch} {D : q_D} (τ : q_T) (σ : q_V) (a0 : Nat) (a1 : Nat) (x2 : Int32) (hI : q_I τ σ) (tA0 : τ a0 = some (4, 1)) (tA1 : τ a1 = some (110, 260)) (rA2 : q_r x2 1 240) : q_Ci l D yX4_read cX4_read 4 (some .int) 24 556 τ σ [.ref a0, .ref a1, .int x2] (fun r σ1 => q_S md_X4_read τ σ σ1 ∧ (q_r r (-2147483648) 2147483647) ∧ ((r.toInt, fx_N σ1) = f_X4_read (fx_N σ) a0 a1 x2.toInt)) := by
  refine q_meti rfl (Nat.le_of_ble_eq_true rfl) (fun X hG hE => ?_)
  show q_O X 0 0 τ σ 0 [(0, .ref a0), (1, .ref a1), (2, .int x2)] []
  have hS0 : q_S md_X4_read τ σ σ := q_S.rf hI
  obtain ⟨Fv, hF⟩ : ∃ z, fx_eq z (f_X4_read (fx_N σ) a0 a1 x2.toInt) := ⟨_, fx_rf⟩
  have hF0 := hF
  unfold f_X4_read at hF
  refine q_aload_n (pc := 0) hG dX4_read_0 0 rfl ?_
  refine q_aload_n (pc := 1) hG dX4_read_1 1 rfl ?_
  refine q_putR (pc := 2) hG fl_X4_13 dX4_read_2 hS0 tA0 (q_va ff_4_0) rfl rfl rfl (fun s2 u2 w2 => ?_)
  replace hF := fx_PR hF u2 rfl
  have m2 : s2 a0 0 = .ref a1 := by rw [u2]; exact q_up_same
  refine q_aload_n (pc := 5) hG dX4_read_5 0 rfl ?_
  refine q_iload_n (pc := 6) hG dX4_read_6 2 rfl ?_
  refine q_aload_n (pc := 7) hG dX4_read_7 1 rfl ?_
  refine q_alen (pc := 8) (v := 260) hG dX4_read_8 tA1 (by decide) (by decide) ?_
  refine q_pS (pc := 9) [.int x2, .int 260] [.ref a0] hG (c_J9_min_7cf53 τ s2 x2 260 w2.1) my_J9_min_7cf53 w250 w308 dX4_read_9 rfl rfl (Nat.le_of_ble_eq_true rfl) (by decide) (fun v9 p9 => ?_)
  have fq9 := p9.2.1
  rewrite [tl_260] at fq9
  replace hF := fx_E hF fq9
  have r_1 := q_minN (lo := 1) (hi := 240) p9.2.2 rA2 rl_260 (by decide)
  refine q_putI (pc := 12) hG fl_X4_18 dX4_read_12 w2 tA0 ff_4_1 r_1 (by decide) rfl (fun s12 u12 w12 => ?_)
  replace hF := fx_P hF u12 rfl rfl
  have m12 : s12 a0 1 = .int v9 := by rw [u12]; exact q_up_same
  refine q_aload_n (pc := 15) hG dX4_read_15 0 rfl ?_
  refine q_iconst (pc := 16) hG dX4_read_16 ki_0 ?_
  refine q_putI (pc := 17) hG fl_X4_22 dX4_read_17 w12 tA0 ff_4_2 rl_0 (by decide) rfl (fun s17 u17 w17 => ?_)
  replace hF := fx_P hF u17 rfl tl_0
  have m17 : s17 a0 2 = .int 0 := by rw [u17]; exact q_up_same
  refine q_aload_n (pc := 20) hG dX4_read_20 0 rfl ?_
  refine q_iconst (pc := 21) hG dX4_read_21 ki_0 ?_
  refine q_putI (pc := 22) hG fl_X4_25 dX4_read_22 w17 tA0 ff_4_3 rl_0 (by decide) rfl (fun s22 u22 w22 => ?_)
  replace hF := fx_P hF u22 rfl tl_0
  have m22 : s22 a0 3 = .int 0 := by rw [u22]; exact q_up_same
  refine q_aload_n (pc := 25) hG dX4_read_25 0 rfl ?_
  refine q_getR (pc := 26) (k2 := 3) (n2 := 1) hG fl_X4_31 dX4_read_26 w22.1 tA0 ff_4_4 (fun b26 f26 T26 => ?_)
  replace hF := fx_R hF f26 rfl
  have f_2 := (w22.2 _ _ _ _ tA0 rfl).symm.trans f26
  refine q_cVv (pc := 29) [] [] hG (c_X3_clear τ s22 b26 w22.1 T26) my_X3_clear mv_X3_clear w309 dX4_read_29 T26 (by decide) rfl rfl (Nat.le_of_ble_eq_true rfl) (by decide) (fun s29 p29 => ?_)
  have w29 := w22.trans p29.1 rfl
  replace hF := fx_S hF p29.2
  refine q_iconst (pc := 32) hG dX4_read_32 ki_0 ?_
  refine q_istore_n (pc := 33) [(3, .int 0), (0, .ref a0), (1, .ref a1), (2, .int x2)] hG dX4_read_33 (by decide) rfl ?_
  have J34 : ∀ (n34 : Nat) (p34_3 : Int32) (σ34 : q_V), (q_r p34_3 0 17) → (q_S md_X4_read τ σ σ34) → (σ34 a0 0 = .ref a1) → (fx_eq Fv (kL_X4_read_34 a0 n34 p34_3.toInt (fx_N σ34))) → ((17 - p34_3.toInt).toNat < n34) → q_O X 0 0 τ σ34 34 [(0, .ref a0), (3, .int p34_3)] [] := by
    intro n34
    induction n34 with
    | zero => intro p34_3 σ34 r34_3 hS34 it34 hF hm34; exact absurd hm34 (Nat.not_lt_zero _)
    | succ n34 ih34 =>
      intro p34_3 σ34 r34_3 hS34 it34 hF hm34
      replace hF := (show fx_eq Fv (kB_X4_read_34 (kL_X4_read_34 a0 n34) a0 p34_3.toInt (fx_N σ34)) from hF)
      unfold kB_X4_read_34 at hF
      refine q_iload_n (pc := 34) hG dX4_read_34 1 rfl ?_
      refine q_bipush (pc := 35) hG dX4_read_35 kb_16 ?_
      refine q_icmp_gt (pc := 37) hG 77 dX4_read_37 rfl ?_ ?_
      · intro c37
        replace hF := fx_lt1 hF tl_16 rfl c37
        refine q_aload_n (pc := 77) hG dX4_read_77 0 rfl ?_
        refine q_getI (pc := 78) hG fl_X4_25 dX4_read_78 hS34.1 tA0 ff_4_3 (fun v78 f78 g78 => ?_)
        replace hF := fx_I hF f78 rfl
        exact q_irt hG hE dX4_read_81 ⟨hS34, g78, (fx_end hF hF0)⟩
      intro c37
      replace hF := fx_lt2 hF tl_16 rfl c37
      refine q_aload_n (pc := 40) hG dX4_read_40 0 rfl ?_
      refine q_iload_n (pc := 41) hG dX4_read_41 1 rfl ?_
      refine q_cVi (pc := 42) [.int p34_3] [] hG (c_X4_readClause τ σ34 a0 p34_3 hS34.1 tA0 a1 it34 tA1) my_X4_readClause mv_X4_readClause w313 dX4_read_42 tA0 (by decide) rfl rfl (Nat.le_of_ble_eq_true rfl) (by decide) (fun v42 s42 p42 => ?_)
      have w42 := hS34.trans p42.1 rfl
      replace hF := fx_C hF p42.2.2
      refine q_if_eq (pc := 45) hG 77 dX4_read_45 rfl ?_ ?_
      · intro c45
        replace hF := fx_eq1 hF rfl rfl c45
        refine q_aload_n (pc := 77) hG dX4_read_77 0 rfl ?_
        refine q_getI (pc := 78) hG fl_X4_25 dX4_read_78 w42.1 tA0 ff_4_3 (fun v78 f78 g78 => ?_)
        replace hF := fx_I hF f78 rfl
        exact q_irt hG hE dX4_read_81 ⟨w42, g78, (fx_end hF hF0)⟩
      intro c45
      replace hF := fx_eq2 hF rfl rfl c45
      refine q_aload_n (pc := 48) hG dX4_read_48 0 rfl ?_
      refine q_getI (pc := 49) hG fl_X4_22 dX4_read_49 w42.1 tA0 ff_4_2 (fun v49 f49 g49 => ?_)
      replace hF := fx_I hF f49 rfl
      refine q_aload_n (pc := 52) hG dX4_read_52 0 rfl ?_
      refine q_getI (pc := 53) hG fl_X4_18 dX4_read_53 w42.1 tA0 ff_4_1 (fun v53 f53 g53 => ?_)
      replace hF := fx_I hF f53 rfl
      refine q_icmp_ge (pc := 56) hG 77 dX4_read_56 rfl ?_ ?_
      · intro c56
        replace hF := fx_lt2 hF rfl rfl c56
        refine q_aload_n (pc := 77) hG dX4_read_77 0 rfl ?_
        refine q_getI (pc := 78) hG fl_X4_25 dX4_read_78 w42.1 tA0 ff_4_3 (fun v78 f78 g78 => ?_)
        replace hF := fx_I hF f78 rfl
        exact q_irt hG hE dX4_read_81 ⟨w42, g78, (fx_end hF hF0)⟩
      intro c56
      replace hF := fx_lt1 hF rfl rfl c56
      refine q_aload_n (pc := 59) hG dX4_read_59 0 rfl ?_
      refine q_bipush (pc := 60) hG dX4_read_60 kb_59 ?_
      refine q_cVi (pc := 62) [.int 59] [] hG (c_X4_expect τ s42 a0 59 w42.1 tA0 a1 (p42.1.same tA0 rfl it34) tA1) my_X4_expect mv_X4_expect w338 dX4_read_62 tA0 (by decide) rfl rfl (Nat.le_of_ble_eq_true rfl) (by decide) (fun v62 s62 p62 => ?_)
      have w62 := w42.trans p62.1 rfl
      have fq62 := p62.2.2
      rewrite [tl_59] at fq62
      replace hF := fx_C hF fq62
      refine q_if_ne (pc := 65) hG 71 dX4_read_65 rfl ?_ ?_
      · intro c65
        replace hF := fx_eq2 hF rfl rfl c65
        obtain ⟨v71, e71⟩ : ∃ z : Int32, z = p34_3 + Int32.ofInt 1 := ⟨_, rfl⟩
        have r_3 := q_rle r34_3 rl_16 c37
        have h71 := q_incN (lo := 1) (hi := 17) r_3 (by decide) (by decide) e71
        replace hF := fx_add hF rfl rfl h71.1
        refine q_iinc (pc := 71) [(3, .int v71), (0, .ref a0)] hG dX4_read_71 1 rfl e71 (by decide) rfl ?_
        refine q_goto (pc := 74) 34 hG dX4_read_74 rfl ?_
        refine q_lv [1, 0] rfl ?_
        exact ih34 v71 s62 (q_r.mono h71.2 (by decide)) w62 (p62.1.same tA0 rfl (p42.1.same tA0 rfl it34)) hF (q_measU hm34 (by have o0 := c37; have o1 := h71.1; have o2 := r_3; have o3 := h71.2; have l4 := tl_16; unfold q_r at o2 o3; omega) (h71.2).2)
      intro c65
      replace hF := fx_eq1 hF rfl rfl c65
      refine q_goto (pc := 68) 77 hG dX4_read_68 rfl ?_
      refine q_aload_n (pc := 77) hG dX4_read_77 0 rfl ?_
      refine q_getI (pc := 78) hG fl_X4_25 dX4_read_78 w62.1 tA0 ff_4_3 (fun v78 f78 g78 => ?_)
      replace hF := fx_I hF f78 rfl
      exact q_irt hG hE dX4_read_81 ⟨w62, g78, (fx_end hF hF0)⟩
  refine q_lv [1, 0] rfl ?_
  exact J34 ((17 - (0 : Int32).toInt).toNat + 1) 0 s29 (q_r.mono rl_0 (by decide)) w29 (p29.1.same tA0 rfl (by rw [u22]; exact (q_up_else (Or.inr (by decide))).trans (by rw [u17]; exact (q_up_else (Or.inr (by decide))).trans (by rw [u12]; exact (q_up_else (Or.inr (by decide))).trans m2)))) (by rw [tl_0]; exact hF) (Nat.lt_succ_self _)
