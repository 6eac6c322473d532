/-! laid by wip/p2/build.py -/
theorem dX11_isIn_0 : decode cX11_isIn 0 = .ok (.iload_n 0, 1) := by decide +kernel
theorem dX11_isIn_1 : decode cX11_isIn 1 = .ok (.iload_n 1, 1) := by decide +kernel
theorem dX11_isIn_2 : decode cX11_isIn 2 = .ok (.if_icmp .lt 12, 3) := by decide +kernel
theorem dX11_isIn_5 : decode cX11_isIn 5 = .ok (.iload_n 0, 1) := by decide +kernel
theorem dX11_isIn_6 : decode cX11_isIn 6 = .ok (.iload_n 2, 1) := by decide +kernel
theorem dX11_isIn_7 : decode cX11_isIn 7 = .ok (.if_icmp .gt 7, 3) := by decide +kernel
theorem dX11_isIn_10 : decode cX11_isIn 10 = .ok (.iconst 1, 1) := by decide +kernel
theorem dX11_isIn_11 : decode cX11_isIn 11 = .ok (.goto 4, 3) := by decide +kernel
theorem dX11_isIn_14 : decode cX11_isIn 14 = .ok (.iconst 0, 1) := by decide +kernel
theorem dX11_isIn_15 : decode cX11_isIn 15 = .ok (.ireturn, 1) := by decide +kernel
set_option maxRecDepth 100000 in
set_option maxHeartbeats 4000000 in
theorem c_X11_isIn {l : Launch} {D : q_D} (τ : q_T) (σ : q_V) (x0 : Int32) (x1 : Int32) (x2 : Int32) (hI : q_I τ σ) : q_Cp l D yX11_isIn cX11_isIn 3 (some .boolean) 0 0 τ σ [.int x0, .int x1, .int x2] (fun r => (q_r r 0 1) ∧ (r.toInt = f_X11_isIn (fx_N σ) x0.toInt x1.toInt x2.toInt) ∧ (r.toInt = 1 ↔ (x1.toInt ≤ x0.toInt ∧ x0.toInt ≤ x2.toInt))) := by
  refine q_meti rfl (Nat.le_of_ble_eq_true rfl) (fun X hG hE => ?_)
  show q_O X 0 0 τ σ 0 [(0, .int x0), (1, .int x1), (2, .int x2)] []
  obtain ⟨Fv, hF⟩ : ∃ z, fx_eq z (f_X11_isIn (fx_N σ) x0.toInt x1.toInt x2.toInt) := ⟨_, fx_rf⟩
  have hF0 := hF
  unfold f_X11_isIn at hF
  refine q_iload_n (pc := 0) hG dX11_isIn_0 0 rfl ?_
  refine q_iload_n (pc := 1) hG dX11_isIn_1 1 rfl ?_
  refine q_icmp_lt (pc := 2) hG 14 dX11_isIn_2 rfl ?_ ?_
  · intro c2
    replace hF := fx_lt1 hF rfl rfl c2
    refine q_iconst (pc := 14) hG dX11_isIn_14 ki_0 ?_
    have r_1 := q_rlt (q_r_any x0) (q_r_any x1) c2 2147483646 (by decide)
    have r_2 := q_rgt (q_r_any x1) (q_r_any x0) c2 (-2147483647) (by decide)
    exact q_zrt hG hE dX11_isIn_15 (q_r.mono rl_0 (by decide)) ⟨rfl, (q_r.mono rl_0 (by decide)), (by rw [tl_0]; exact fx_end hF hF0), (by have o0 := c2; have o1 := r_1; have o2 := r_2; have l3 := tl_0; unfold q_r at o1 o2; omega)⟩
  intro c2
  replace hF := fx_lt2 hF rfl rfl c2
  refine q_iload_n (pc := 5) hG dX11_isIn_5 0 rfl ?_
  refine q_iload_n (pc := 6) hG dX11_isIn_6 2 rfl ?_
  refine q_icmp_gt (pc := 7) hG 14 dX11_isIn_7 rfl ?_ ?_
  · intro c7
    replace hF := fx_lt1 hF rfl rfl c7
    refine q_iconst (pc := 14) hG dX11_isIn_14 ki_0 ?_
    have r_3 := q_rgt (q_r_any x0) (q_r_any x2) c7 (-2147483647) (by decide)
    have r_4 := q_rlt (q_r_any x2) (q_r_any x0) c7 2147483646 (by decide)
    exact q_zrt hG hE dX11_isIn_15 (q_r.mono rl_0 (by decide)) ⟨rfl, (q_r.mono rl_0 (by decide)), (by rw [tl_0]; exact fx_end hF hF0), (by have o0 := c2; have o1 := c7; have o2 := r_3; have o3 := r_4; have l4 := tl_0; unfold q_r at o2 o3; omega)⟩
  intro c7
  replace hF := fx_lt2 hF rfl rfl c7
  refine q_iconst (pc := 10) hG dX11_isIn_10 ki_1 ?_
  refine q_goto (pc := 11) 15 hG dX11_isIn_11 rfl ?_
  exact q_zrt hG hE dX11_isIn_15 (q_r.mono rl_1 (by decide)) ⟨rfl, (q_r.mono rl_1 (by decide)), (by rw [tl_1]; exact fx_end hF hF0), (by have o0 := c2; have o1 := c7; have l2 := tl_1; omega)⟩
theorem dX11_isOffset_0 : decode cX11_isOffset 0 = .ok (.iload_n 0, 1) := by decide +kernel
theorem dX11_isOffset_1 : decode cX11_isOffset 1 = .ok (.bipush (-99), 2) := by decide +kernel
theorem dX11_isOffset_3 : decode cX11_isOffset 3 = .ok (.bipush 99, 2) := by decide +kernel
theorem dX11_isOffset_5 : decode cX11_isOffset 5 = .ok (.invokestatic 90, 3) := by decide +kernel
theorem dX11_isOffset_8 : decode cX11_isOffset 8 = .ok (.ireturn, 1) := by decide +kernel
set_option maxRecDepth 100000 in
set_option maxHeartbeats 4000000 in
theorem c_X11_isOffset {l : Launch} {D : q_D} (τ : q_T) (σ : q_V) (x0 : Int32) (hI : q_I τ σ) : q_Cp l D yX11_isOffset cX11_isOffset 1 (some .boolean) 1 22 τ σ [.int x0] (fun r => (q_r r 0 1) ∧ (r.toInt = 1 ↔ (-99 ≤ x0.toInt ∧ x0.toInt ≤ 99))) := by
  refine q_meti rfl (Nat.le_of_ble_eq_true rfl) (fun X hG hE => ?_)
  show q_O X 0 0 τ σ 0 [(0, .int x0)] []
  refine q_iload_n (pc := 0) hG dX11_isOffset_0 0 rfl ?_
  refine q_bipush (pc := 1) hG dX11_isOffset_1 kb_m99 ?_
  refine q_bipush (pc := 3) hG dX11_isOffset_3 kb_99 ?_
  refine q_pS (pc := 5) [.int x0, .int (-99), .int 99] [] hG (c_X11_isIn τ σ x0 (-99) 99 hI) my_X11_isIn w238 w237 dX11_isOffset_5 rfl rfl (Nat.le_of_ble_eq_true rfl) (by decide) (fun v5 p5 => ?_)
  exact q_zrt hG hE dX11_isOffset_8 p5.1 ⟨rfl, p5.1, (by have q := p5.2.2; rewrite [tl_m99, tl_99] at q; exact q)⟩
theorem dX11_isEye_0 : decode cX11_isEye 0 = .ok (.iload_n 0, 1) := by decide +kernel
theorem dX11_isEye_1 : decode cX11_isEye 1 = .ok (.iconst 1, 1) := by decide +kernel
theorem dX11_isEye_2 : decode cX11_isEye 2 = .ok (.bipush 9, 2) := by decide +kernel
theorem dX11_isEye_4 : decode cX11_isEye 4 = .ok (.invokestatic 90, 3) := by decide +kernel
theorem dX11_isEye_7 : decode cX11_isEye 7 = .ok (.ireturn, 1) := by decide +kernel
set_option maxRecDepth 100000 in
set_option maxHeartbeats 4000000 in
theorem c_X11_isEye {l : Launch} {D : q_D} (τ : q_T) (σ : q_V) (x0 : Int32) (hI : q_I τ σ) : q_Cp l D yX11_isEye cX11_isEye 1 (some .boolean) 1 22 τ σ [.int x0] (fun r => (q_r r 0 1) ∧ (r.toInt = 1 ↔ (1 ≤ x0.toInt ∧ x0.toInt ≤ 9))) := by
  refine q_meti rfl (Nat.le_of_ble_eq_true rfl) (fun X hG hE => ?_)
  show q_O X 0 0 τ σ 0 [(0, .int x0)] []
  refine q_iload_n (pc := 0) hG dX11_isEye_0 0 rfl ?_
  refine q_iconst (pc := 1) hG dX11_isEye_1 ki_1 ?_
  refine q_bipush (pc := 2) hG dX11_isEye_2 kb_9 ?_
  refine q_pS (pc := 4) [.int x0, .int 1, .int 9] [] hG (c_X11_isIn τ σ x0 1 9 hI) my_X11_isIn w238 w237 dX11_isEye_4 rfl rfl (Nat.le_of_ble_eq_true rfl) (by decide) (fun v4 p4 => ?_)
  exact q_zrt hG hE dX11_isEye_7 p4.1 ⟨rfl, p4.1, (by have q := p4.2.2; rewrite [tl_1, tl_9] at q; exact q)⟩
theorem dX11_shifted_0 : decode cX11_shifted 0 = .ok (.iload_n 0, 1) := by decide +kernel
theorem dX11_shifted_1 : decode cX11_shifted 1 = .ok (.bipush (-100), 2) := by decide +kernel
theorem dX11_shifted_3 : decode cX11_shifted 3 = .ok (.if_icmp .ne 8, 3) := by decide +kernel
theorem dX11_shifted_6 : decode cX11_shifted 6 = .ok (.bipush (-2), 2) := by decide +kernel
theorem dX11_shifted_8 : decode cX11_shifted 8 = .ok (.goto 7, 3) := by decide +kernel
theorem dX11_shifted_11 : decode cX11_shifted 11 = .ok (.iload_n 0, 1) := by decide +kernel
theorem dX11_shifted_12 : decode cX11_shifted 12 = .ok (.bipush 100, 2) := by decide +kernel
theorem dX11_shifted_14 : decode cX11_shifted 14 = .ok (.iadd, 1) := by decide +kernel
theorem dX11_shifted_15 : decode cX11_shifted 15 = .ok (.ireturn, 1) := by decide +kernel
set_option maxRecDepth 100000 in
set_option maxHeartbeats 4000000 in
theorem c_X11_shifted {l : Launch} {D : q_D} (τ : q_T) (σ : q_V) (x0 : Int32) (hI : q_I τ σ) : q_Cp l D yX11_shifted cX11_shifted 1 (some .int) 0 0 τ σ [.int x0] (fun r => (q_r r (-2147483648) 2147483647) ∧ (r.toInt = f_X11_shifted (fx_N σ) x0.toInt)) := by
  refine q_meti rfl (Nat.le_of_ble_eq_true rfl) (fun X hG hE => ?_)
  show q_O X 0 0 τ σ 0 [(0, .int x0)] []
  obtain ⟨Fv, hF⟩ : ∃ z, fx_eq z (f_X11_shifted (fx_N σ) x0.toInt) := ⟨_, fx_rf⟩
  have hF0 := hF
  unfold f_X11_shifted at hF
  refine q_iload_n (pc := 0) hG dX11_shifted_0 0 rfl ?_
  refine q_bipush (pc := 1) hG dX11_shifted_1 kb_m100 ?_
  refine q_icmp_ne (pc := 3) hG 11 dX11_shifted_3 rfl ?_ ?_
  · intro c3
    replace hF := fx_eq2 hF rfl tl_m100 c3
    refine q_iload_n (pc := 11) hG dX11_shifted_11 0 rfl ?_
    refine q_bipush (pc := 12) hG dX11_shifted_12 kb_100 ?_
    refine q_iadd (pc := 14) hG dX11_shifted_14 (fun v14 e14 => ?_)
    replace hF := fx_B_add hF rfl tl_100 e14
    exact q_irt hG hE dX11_shifted_15 ⟨rfl, (q_r_any v14), (fx_end hF hF0)⟩
  intro c3
  replace hF := fx_eq1 hF rfl tl_m100 c3
  refine q_bipush (pc := 6) hG dX11_shifted_6 kb_m2 ?_
  refine q_goto (pc := 8) 15 hG dX11_shifted_8 rfl ?_
  exact q_irt hG hE dX11_shifted_15 ⟨rfl, (q_r.mono rl_m2 (by decide)), (by rw [tl_m2]; exact fx_end hF hF0)⟩
theorem dJ9_max_7cf53_0 : decode cJ9_max_7cf53 0 = .ok (.iload_n 0, 1) := by decide +kernel
theorem dJ9_max_7cf53_1 : decode cJ9_max_7cf53 1 = .ok (.iload_n 1, 1) := by decide +kernel
theorem dJ9_max_7cf53_2 : decode cJ9_max_7cf53 2 = .ok (.if_icmp .lt 7, 3) := by decide +kernel
theorem dJ9_max_7cf53_5 : decode cJ9_max_7cf53 5 = .ok (.iload_n 0, 1) := by decide +kernel
theorem dJ9_max_7cf53_6 : decode cJ9_max_7cf53 6 = .ok (.goto 4, 3) := by decide +kernel
theorem dJ9_max_7cf53_9 : decode cJ9_max_7cf53 9 = .ok (.iload_n 1, 1) := by decide +kernel
theorem dJ9_max_7cf53_10 : decode cJ9_max_7cf53 10 = .ok (.ireturn, 1) := by decide +kernel
set_option maxRecDepth 100000 in
set_option maxHeartbeats 4000000 in
theorem c_J9_max_7cf53 {l : Launch} {D : q_D} (τ : q_T) (σ : q_V) (x0 : Int32) (x1 : Int32) (hI : q_I τ σ) : q_Cp l D yJ9_max_7cf53 cJ9_max_7cf53 2 (some .int) 0 0 τ σ [.int x0, .int x1] (fun r => (q_r r (-2147483648) 2147483647) ∧ (r.toInt = f_J9_max_7cf53 (fx_N σ) x0.toInt x1.toInt) ∧ ((x0.toInt ≤ r.toInt ∧ x1.toInt ≤ r.toInt) ∧ (r.toInt = x0.toInt ∨ r.toInt = x1.toInt))) := by
  refine q_meti (by decide +kernel) (Nat.le_of_ble_eq_true rfl) (fun X hG hE => ?_)
  show q_O X 0 0 τ σ 0 [(0, .int x0), (1, .int x1)] []
  obtain ⟨Fv, hF⟩ : ∃ z, fx_eq z (f_J9_max_7cf53 (fx_N σ) x0.toInt x1.toInt) := ⟨_, fx_rf⟩
  have hF0 := hF
  unfold f_J9_max_7cf53 at hF
  refine q_iload_n (pc := 0) hG dJ9_max_7cf53_0 0 rfl ?_
  refine q_iload_n (pc := 1) hG dJ9_max_7cf53_1 1 rfl ?_
  refine q_icmp_lt (pc := 2) hG 9 dJ9_max_7cf53_2 rfl ?_ ?_
  · intro c2
    replace hF := fx_lt1 hF rfl rfl c2
    refine q_iload_n (pc := 9) hG dJ9_max_7cf53_9 1 rfl ?_
    have r_1 := q_rgt (q_r_any x1) (q_r_any x0) c2 (-2147483647) (by decide)
    have r_2 := q_rlt (q_r_any x0) (q_r_any x1) c2 2147483646 (by decide)
    exact q_irt hG hE dJ9_max_7cf53_10 ⟨rfl, (q_r.mono r_1 (by decide)), (fx_end hF hF0), (by have o0 := c2; have o1 := r_2; have o2 := r_1; unfold q_r at o1 o2; omega)⟩
  intro c2
  replace hF := fx_lt2 hF rfl rfl c2
  refine q_iload_n (pc := 5) hG dJ9_max_7cf53_5 0 rfl ?_
  refine q_goto (pc := 6) 10 hG dJ9_max_7cf53_6 rfl ?_
  exact q_irt hG hE dJ9_max_7cf53_10 ⟨rfl, (q_r_any x0), (fx_end hF hF0), (by have o0 := c2; omega)⟩
theorem dJ9_min_7cf53_0 : decode cJ9_min_7cf53 0 = .ok (.iload_n 0, 1) := by decide +kernel
theorem dJ9_min_7cf53_1 : decode cJ9_min_7cf53 1 = .ok (.iload_n 1, 1) := by decide +kernel
theorem dJ9_min_7cf53_2 : decode cJ9_min_7cf53 2 = .ok (.if_icmp .gt 7, 3) := by decide +kernel
theorem dJ9_min_7cf53_5 : decode cJ9_min_7cf53 5 = .ok (.iload_n 0, 1) := by decide +kernel
theorem dJ9_min_7cf53_6 : decode cJ9_min_7cf53 6 = .ok (.goto 4, 3) := by decide +kernel
theorem dJ9_min_7cf53_9 : decode cJ9_min_7cf53 9 = .ok (.iload_n 1, 1) := by decide +kernel
theorem dJ9_min_7cf53_10 : decode cJ9_min_7cf53 10 = .ok (.ireturn, 1) := by decide +kernel
set_option maxRecDepth 100000 in
set_option maxHeartbeats 4000000 in
theorem c_J9_min_7cf53 {l : Launch} {D : q_D} (τ : q_T) (σ : q_V) (x0 : Int32) (x1 : Int32) (hI : q_I τ σ) : q_Cp l D yJ9_min_7cf53 cJ9_min_7cf53 2 (some .int) 0 0 τ σ [.int x0, .int x1] (fun r => (q_r r (-2147483648) 2147483647) ∧ (r.toInt = f_J9_min_7cf53 (fx_N σ) x0.toInt x1.toInt) ∧ ((r.toInt ≤ x0.toInt ∧ r.toInt ≤ x1.toInt) ∧ (r.toInt = x0.toInt ∨ r.toInt = x1.toInt))) := by
  refine q_meti (by decide +kernel) (Nat.le_of_ble_eq_true rfl) (fun X hG hE => ?_)
  show q_O X 0 0 τ σ 0 [(0, .int x0), (1, .int x1)] []
  obtain ⟨Fv, hF⟩ : ∃ z, fx_eq z (f_J9_min_7cf53 (fx_N σ) x0.toInt x1.toInt) := ⟨_, fx_rf⟩
  have hF0 := hF
  unfold f_J9_min_7cf53 at hF
  refine q_iload_n (pc := 0) hG dJ9_min_7cf53_0 0 rfl ?_
  refine q_iload_n (pc := 1) hG dJ9_min_7cf53_1 1 rfl ?_
  refine q_icmp_gt (pc := 2) hG 9 dJ9_min_7cf53_2 rfl ?_ ?_
  · intro c2
    replace hF := fx_lt1 hF rfl rfl c2
    refine q_iload_n (pc := 9) hG dJ9_min_7cf53_9 1 rfl ?_
    have r_1 := q_rlt (q_r_any x1) (q_r_any x0) c2 2147483646 (by decide)
    have r_2 := q_rgt (q_r_any x0) (q_r_any x1) c2 (-2147483647) (by decide)
    exact q_irt hG hE dJ9_min_7cf53_10 ⟨rfl, (q_r.mono r_1 (by decide)), (fx_end hF hF0), (by have o0 := c2; have o1 := r_2; have o2 := r_1; unfold q_r at o1 o2; omega)⟩
  intro c2
  replace hF := fx_lt2 hF rfl rfl c2
  refine q_iload_n (pc := 5) hG dJ9_min_7cf53_5 0 rfl ?_
  refine q_goto (pc := 6) 10 hG dJ9_min_7cf53_6 rfl ?_
  exact q_irt hG hE dJ9_min_7cf53_10 ⟨rfl, (q_r_any x0), (fx_end hF hF0), (by have o0 := c2; omega)⟩
theorem dJ9_abs_0f7a4_0 : decode cJ9_abs_0f7a4 0 = .ok (.iload_n 0, 1) := by decide +kernel
theorem dJ9_abs_0f7a4_1 : decode cJ9_abs_0f7a4 1 = .ok (.ifCond .ge 8, 3) := by decide +kernel
theorem dJ9_abs_0f7a4_4 : decode cJ9_abs_0f7a4 4 = .ok (.iload_n 0, 1) := by decide +kernel
theorem dJ9_abs_0f7a4_5 : decode cJ9_abs_0f7a4 5 = .ok (.ineg, 1) := by decide +kernel
theorem dJ9_abs_0f7a4_6 : decode cJ9_abs_0f7a4 6 = .ok (.goto 4, 3) := by decide +kernel
theorem dJ9_abs_0f7a4_9 : decode cJ9_abs_0f7a4 9 = .ok (.iload_n 0, 1) := by decide +kernel
theorem dJ9_abs_0f7a4_10 : decode cJ9_abs_0f7a4 10 = .ok (.ireturn, 1) := by decide +kernel
set_option maxRecDepth 100000 in
set_option maxHeartbeats 4000000 in
theorem c_J9_abs_0f7a4 {l : Launch} {D : q_D} (τ : q_T) (σ : q_V) (x0 : Int32) (hI : q_I τ σ) : q_Cp l D yJ9_abs_0f7a4 cJ9_abs_0f7a4 1 (some .int) 0 0 τ σ [.int x0] (fun r => (q_r r (-2147483648) 2147483647) ∧ (r.toInt = f_J9_abs_0f7a4 (fx_N σ) x0.toInt) ∧ (-2147483648 < x0.toInt → (r.toInt = x0.toInt ∨ r.toInt = -x0.toInt) ∧ 0 ≤ r.toInt)) := by
  refine q_meti (by decide +kernel) (Nat.le_of_ble_eq_true rfl) (fun X hG hE => ?_)
  show q_O X 0 0 τ σ 0 [(0, .int x0)] []
  obtain ⟨Fv, hF⟩ : ∃ z, fx_eq z (f_J9_abs_0f7a4 (fx_N σ) x0.toInt) := ⟨_, fx_rf⟩
  have hF0 := hF
  unfold f_J9_abs_0f7a4 at hF
  refine q_iload_n (pc := 0) hG dJ9_abs_0f7a4_0 0 rfl ?_
  refine q_if_ge (pc := 1) hG 9 dJ9_abs_0f7a4_1 rfl ?_ ?_
  · intro c1
    replace hF := fx_lt2 hF rfl rfl c1
    refine q_iload_n (pc := 9) hG dJ9_abs_0f7a4_9 0 rfl ?_
    have r_1 := q_zge (q_r_any x0) c1
    exact q_irt hG hE dJ9_abs_0f7a4_10 ⟨rfl, (q_r.mono r_1 (by decide)), (fx_end hF hF0), (fun _ => (by have o0 := c1; have o1 := r_1; unfold q_r at o1; omega))⟩
  intro c1
  replace hF := fx_lt1 hF rfl rfl c1
  refine q_iload_n (pc := 4) hG dJ9_abs_0f7a4_4 0 rfl ?_
  refine q_ineg (pc := 5) hG dJ9_abs_0f7a4_5 (fun v5 e5 => ?_)
  replace hF := fx_B_neg hF rfl e5
  refine q_goto (pc := 6) 10 hG dJ9_abs_0f7a4_6 rfl ?_
  exact q_irt hG hE dJ9_abs_0f7a4_10 ⟨rfl, (q_r_any v5), (fx_end hF hF0), (fun q => by have q2 := q_negN (lo := -2147483647) (hi := 2147483647) e5 (show q_r x0 (-2147483647) 2147483647 from ⟨by omega, (q_r_any x0).2⟩) (by decide); omega)⟩
theorem dX11_heldIn_0 : decode cX11_heldIn 0 = .ok (.iload_n 1, 1) := by decide +kernel
theorem dX11_heldIn_1 : decode cX11_heldIn 1 = .ok (.iload_n 2, 1) := by decide +kernel
theorem dX11_heldIn_2 : decode cX11_heldIn 2 = .ok (.iload_n 0, 1) := by decide +kernel
theorem dX11_heldIn_3 : decode cX11_heldIn 3 = .ok (.invokestatic 337, 3) := by decide +kernel
theorem dX11_heldIn_6 : decode cX11_heldIn 6 = .ok (.invokestatic 241, 3) := by decide +kernel
theorem dX11_heldIn_9 : decode cX11_heldIn 9 = .ok (.ireturn, 1) := by decide +kernel
set_option maxRecDepth 100000 in
set_option maxHeartbeats 4000000 in
theorem c_X11_heldIn {l : Launch} {D : q_D} (τ : q_T) (σ : q_V) (x0 : Int32) (x1 : Int32) (x2 : Int32) (hI : q_I τ σ) : q_Cp l D yX11_heldIn cX11_heldIn 3 (some .int) 1 21 τ σ [.int x0, .int x1, .int x2] (fun r => (q_r r (-2147483648) 2147483647) ∧ (r.toInt = f_X11_heldIn (fx_N σ) x0.toInt x1.toInt x2.toInt) ∧ ((x1.toInt ≤ r.toInt ∧ (r.toInt = x1.toInt ∨ ((r.toInt = x0.toInt ∨ r.toInt = x2.toInt) ∧ r.toInt ≤ x2.toInt ∧ r.toInt ≤ x0.toInt))) ∧ (x0.toInt ≤ r.toInt ∨ x2.toInt ≤ r.toInt))) := by
  refine q_meti rfl (Nat.le_of_ble_eq_true rfl) (fun X hG hE => ?_)
  show q_O X 0 0 τ σ 0 [(0, .int x0), (1, .int x1), (2, .int x2)] []
  obtain ⟨Fv, hF⟩ : ∃ z, fx_eq z (f_X11_heldIn (fx_N σ) x0.toInt x1.toInt x2.toInt) := ⟨_, fx_rf⟩
  have hF0 := hF
  unfold f_X11_heldIn at hF
  refine q_iload_n (pc := 0) hG dX11_heldIn_0 1 rfl ?_
  refine q_iload_n (pc := 1) hG dX11_heldIn_1 2 rfl ?_
  refine q_iload_n (pc := 2) hG dX11_heldIn_2 0 rfl ?_
  refine q_pS (pc := 3) [.int x2, .int x0] [.int x1] hG (c_J9_min_7cf53 τ σ x2 x0 hI) my_J9_min_7cf53 w250 w462 dX11_heldIn_3 rfl rfl (Nat.le_of_ble_eq_true rfl) (by decide) (fun v3 p3 => ?_)
  replace hF := fx_E hF p3.2.1
  refine q_pS (pc := 6) [.int x1, .int v3] [] hG (c_J9_max_7cf53 τ σ x1 v3 hI) my_J9_max_7cf53 w262 w463 dX11_heldIn_6 rfl rfl (Nat.le_of_ble_eq_true rfl) (by decide) (fun v6 p6 => ?_)
  replace hF := fx_E hF p6.2.1
  have r_1 := q_minN (lo := (-2147483648)) (hi := 2147483647) p3.2.2 (q_r_any x2) (q_r_any x0) (by decide)
  have r_2 := q_maxN (lo := (-2147483648)) (hi := 2147483647) p6.2.2 (q_r_any x1) r_1 (by decide)
  exact q_irt hG hE dX11_heldIn_9 ⟨rfl, r_2, (fx_end hF hF0), (by have o0 := p3.2.2; have o1 := p6.2.2; have o2 := r_1; have o3 := r_2; unfold q_r at o2 o3; omega)⟩
theorem dX11_commonDivisor_0 : decode cX11_commonDivisor 0 = .ok (.iload_n 1, 1) := by decide +kernel
theorem dX11_commonDivisor_1 : decode cX11_commonDivisor 1 = .ok (.istore_n 2, 1) := by decide +kernel
theorem dX11_commonDivisor_2 : decode cX11_commonDivisor 2 = .ok (.iload_n 0, 1) := by decide +kernel
theorem dX11_commonDivisor_3 : decode cX11_commonDivisor 3 = .ok (.istore_n 3, 1) := by decide +kernel
theorem dX11_commonDivisor_4 : decode cX11_commonDivisor 4 = .ok (.iconst 0, 1) := by decide +kernel
theorem dX11_commonDivisor_5 : decode cX11_commonDivisor 5 = .ok (.istore 4, 2) := by decide +kernel
theorem dX11_commonDivisor_7 : decode cX11_commonDivisor 7 = .ok (.iload 4, 2) := by decide +kernel
theorem dX11_commonDivisor_9 : decode cX11_commonDivisor 9 = .ok (.bipush 64, 2) := by decide +kernel
theorem dX11_commonDivisor_11 : decode cX11_commonDivisor 11 = .ok (.if_icmp .ge 23, 3) := by decide +kernel
theorem dX11_commonDivisor_14 : decode cX11_commonDivisor 14 = .ok (.iload_n 3, 1) := by decide +kernel
theorem dX11_commonDivisor_15 : decode cX11_commonDivisor 15 = .ok (.ifCond .le 19, 3) := by decide +kernel
theorem dX11_commonDivisor_18 : decode cX11_commonDivisor 18 = .ok (.iload_n 2, 1) := by decide +kernel
theorem dX11_commonDivisor_19 : decode cX11_commonDivisor 19 = .ok (.iload_n 3, 1) := by decide +kernel
theorem dX11_commonDivisor_20 : decode cX11_commonDivisor 20 = .ok (.irem, 1) := by decide +kernel
theorem dX11_commonDivisor_21 : decode cX11_commonDivisor 21 = .ok (.istore 5, 2) := by decide +kernel
theorem dX11_commonDivisor_23 : decode cX11_commonDivisor 23 = .ok (.iload_n 3, 1) := by decide +kernel
theorem dX11_commonDivisor_24 : decode cX11_commonDivisor 24 = .ok (.istore_n 2, 1) := by decide +kernel
theorem dX11_commonDivisor_25 : decode cX11_commonDivisor 25 = .ok (.iload 5, 2) := by decide +kernel
theorem dX11_commonDivisor_27 : decode cX11_commonDivisor 27 = .ok (.istore_n 3, 1) := by decide +kernel
theorem dX11_commonDivisor_28 : decode cX11_commonDivisor 28 = .ok (.iinc 4 1, 3) := by decide +kernel
theorem dX11_commonDivisor_31 : decode cX11_commonDivisor 31 = .ok (.goto (-24), 3) := by decide +kernel
theorem dX11_commonDivisor_34 : decode cX11_commonDivisor 34 = .ok (.iconst 1, 1) := by decide +kernel
theorem dX11_commonDivisor_35 : decode cX11_commonDivisor 35 = .ok (.iload_n 2, 1) := by decide +kernel
theorem dX11_commonDivisor_36 : decode cX11_commonDivisor 36 = .ok (.invokestatic 241, 3) := by decide +kernel
theorem dX11_commonDivisor_39 : decode cX11_commonDivisor 39 = .ok (.ireturn, 1) := by decide +kernel
set_option maxRecDepth 100000 in
set_option maxHeartbeats 4000000 in
theorem c_X11_commonDivisor {l : Launch} {D : q_D} (τ : q_T) (σ : q_V) (x0 : Int32) (x1 : Int32) (hI : q_I τ σ) : q_Cp l D yX11_commonDivisor cX11_commonDivisor 6 (some .int) 1 21 τ σ [.int x0, .int x1] (fun r => q_r r 1 2147483647) := by
  refine q_meti rfl (Nat.le_of_ble_eq_true rfl) (fun X hG hE => ?_)
  show q_O X 0 0 τ σ 0 [(0, .int x0), (1, .int x1)] []
  refine q_iload_n (pc := 0) hG dX11_commonDivisor_0 1 rfl ?_
  refine q_istore_n (pc := 1) [(2, .int x1), (0, .int x0), (1, .int x1)] hG dX11_commonDivisor_1 (by decide) rfl ?_
  refine q_iload_n (pc := 2) hG dX11_commonDivisor_2 1 rfl ?_
  refine q_istore_n (pc := 3) [(3, .int x0), (2, .int x1), (0, .int x0), (1, .int x1)] hG dX11_commonDivisor_3 (by decide) rfl ?_
  refine q_iconst (pc := 4) hG dX11_commonDivisor_4 ki_0 ?_
  refine q_istore (pc := 5) [(4, .int 0), (3, .int x0), (2, .int x1), (0, .int x0), (1, .int x1)] hG dX11_commonDivisor_5 (by decide) rfl ?_
  have J7 : ∀ (n7 : Nat) (p7_2 : Int32) (p7_3 : Int32) (p7_4 : Int32), (q_r p7_4 0 64) → ((64 - p7_4.toInt).toNat < n7) → q_O X 0 0 τ σ 7 [(2, .int p7_2), (3, .int p7_3), (4, .int p7_4)] [] := by
    intro n7
    induction n7 with
    | zero => intro p7_2 p7_3 p7_4 r7_4 hm7; exact absurd hm7 (Nat.not_lt_zero _)
    | succ n7 ih7 =>
      intro p7_2 p7_3 p7_4 r7_4 hm7
      refine q_iload (pc := 7) hG dX11_commonDivisor_7 2 rfl ?_
      refine q_bipush (pc := 9) hG dX11_commonDivisor_9 kb_64 ?_
      have J34 : q_O X 0 0 τ σ 34 [(2, .int p7_2)] [] := by
        refine q_iconst (pc := 34) hG dX11_commonDivisor_34 ki_1 ?_
        refine q_iload_n (pc := 35) hG dX11_commonDivisor_35 0 rfl ?_
        refine q_pS (pc := 36) [.int 1, .int p7_2] [] hG (c_J9_max_7cf53 τ σ 1 p7_2 hI) my_J9_max_7cf53 w262 w463 dX11_commonDivisor_36 rfl rfl (Nat.le_of_ble_eq_true rfl) (by decide) (fun v36 p36 => ?_)
        have r_1 := q_maxN (lo := 1) (hi := 2147483647) p36.2.2 rl_1 (q_r_any p7_2) (by decide)
        exact q_irt hG hE dX11_commonDivisor_39 ⟨rfl, r_1⟩
      refine q_icmp_ge (pc := 11) hG 34 dX11_commonDivisor_11 rfl ?_ ?_
      · intro c11
        refine q_lv [0] rfl ?_
        exact J34 
      intro c11
      refine q_iload_n (pc := 14) hG dX11_commonDivisor_14 1 rfl ?_
      refine q_if_le (pc := 15) hG 34 dX11_commonDivisor_15 rfl ?_ ?_
      · intro c15
        refine q_lv [0] rfl ?_
        exact J34 
      intro c15
      refine q_iload_n (pc := 18) hG dX11_commonDivisor_18 0 rfl ?_
      refine q_iload_n (pc := 19) hG dX11_commonDivisor_19 1 rfl ?_
      have r_2 := q_zgt (q_r_any p7_3) c15
      refine q_irem (pc := 20) hG dX11_commonDivisor_20 (q_nzr r_2 (by decide)) (fun v20 e20 => ?_)
      refine q_istore (pc := 21) [(5, .int v20), (2, .int p7_2), (3, .int p7_3), (4, .int p7_4)] hG dX11_commonDivisor_21 (by decide) rfl ?_
      refine q_iload_n (pc := 23) hG dX11_commonDivisor_23 2 rfl ?_
      refine q_istore_n (pc := 24) [(2, .int p7_3), (5, .int v20), (3, .int p7_3), (4, .int p7_4)] hG dX11_commonDivisor_24 (by decide) rfl ?_
      refine q_iload (pc := 25) hG dX11_commonDivisor_25 1 rfl ?_
      refine q_istore_n (pc := 27) [(3, .int v20), (2, .int p7_3), (5, .int v20), (4, .int p7_4)] hG dX11_commonDivisor_27 (by decide) rfl ?_
      obtain ⟨v28, e28⟩ : ∃ z : Int32, z = p7_4 + Int32.ofInt 1 := ⟨_, rfl⟩
      have r_3 := q_rlt r7_4 rl_64 c11 63 (by decide)
      have h28 := q_incN (lo := 1) (hi := 64) r_3 (by decide) (by decide) e28
      refine q_iinc (pc := 28) [(4, .int v28), (3, .int v20), (2, .int p7_3), (5, .int v20)] hG dX11_commonDivisor_28 3 rfl e28 (by decide) rfl ?_
      refine q_goto (pc := 31) 7 hG dX11_commonDivisor_31 rfl ?_
      refine q_lv [2, 1, 0] rfl ?_
      exact ih7 p7_3 v20 v28 (q_r.mono h28.2 (by decide)) (q_measU hm7 (by have o0 := c11; have o1 := h28.1; have o2 := r_3; have o3 := h28.2; have l4 := tl_64; unfold q_r at o2 o3; omega) (h28.2).2)
  refine q_lv [2, 1, 0] rfl ?_
  exact J7 _ x1 x0 0 (q_r.mono rl_0 (by decide)) (Nat.lt_succ_self _)
