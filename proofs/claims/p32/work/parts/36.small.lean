/-! laid by wip/p2/build.py -/
theorem dX12_in_0 : decode cX12_in 0 = .ok (.iload_n 0, 1) := by decide +kernel
theorem dX12_in_1 : decode cX12_in 1 = .ok (.iload_n 1, 1) := by decide +kernel
theorem dX12_in_2 : decode cX12_in 2 = .ok (.if_icmp .lt 12, 3) := by decide +kernel
theorem dX12_in_5 : decode cX12_in 5 = .ok (.iload_n 0, 1) := by decide +kernel
theorem dX12_in_6 : decode cX12_in 6 = .ok (.iload_n 2, 1) := by decide +kernel
theorem dX12_in_7 : decode cX12_in 7 = .ok (.if_icmp .gt 7, 3) := by decide +kernel
theorem dX12_in_10 : decode cX12_in 10 = .ok (.iconst 1, 1) := by decide +kernel
theorem dX12_in_11 : decode cX12_in 11 = .ok (.goto 4, 3) := by decide +kernel
theorem dX12_in_14 : decode cX12_in 14 = .ok (.iconst 0, 1) := by decide +kernel
theorem dX12_in_15 : decode cX12_in 15 = .ok (.ireturn, 1) := by decide +kernel
set_option maxRecDepth 100000 in
set_option maxHeartbeats 4000000 in
theorem c_X12_in {l : Launch} {D : q_D} (τ : q_T) (σ : q_V) (x0 : Int32) (x1 : Int32) (x2 : Int32) (hI : q_I τ σ) : q_Cp l D yX12_in cX12_in 3 (some .boolean) 0 0 τ σ [.int x0, .int x1, .int x2] (fun r => (q_r r 0 1) ∧ (r.toInt = f_X12_in (fx_N σ) x0.toInt x1.toInt x2.toInt) ∧ (r.toInt = 1 ↔ (x1.toInt ≤ x0.toInt ∧ x0.toInt ≤ x2.toInt))) := by
  refine q_meti rfl (Nat.le_of_ble_eq_true rfl) (fun X hG hE => ?_)
  show q_O X 0 0 τ σ 0 [(0, .int x0), (1, .int x1), (2, .int x2)] []
  obtain ⟨Fv, hF⟩ : ∃ z, fx_eq z (f_X12_in (fx_N σ) x0.toInt x1.toInt x2.toInt) := ⟨_, fx_rf⟩
  have hF0 := hF
  unfold f_X12_in at hF
  refine q_iload_n (pc := 0) hG dX12_in_0 0 rfl ?_
  refine q_iload_n (pc := 1) hG dX12_in_1 1 rfl ?_
  refine q_icmp_lt (pc := 2) hG 14 dX12_in_2 rfl ?_ ?_
  · intro c2
    replace hF := fx_lt1 hF rfl rfl c2
    refine q_iconst (pc := 14) hG dX12_in_14 ki_0 ?_
    have r_1 := q_rlt (q_r_any x0) (q_r_any x1) c2 2147483646 (by decide)
    have r_2 := q_rgt (q_r_any x1) (q_r_any x0) c2 (-2147483647) (by decide)
    exact q_zrt hG hE dX12_in_15 (q_r.mono rl_0 (by decide)) ⟨rfl, (q_r.mono rl_0 (by decide)), (by rw [tl_0]; exact fx_end hF hF0), (by have o0 := c2; have o1 := r_1; have o2 := r_2; have l3 := tl_0; unfold q_r at o1 o2; omega)⟩
  intro c2
  replace hF := fx_lt2 hF rfl rfl c2
  refine q_iload_n (pc := 5) hG dX12_in_5 0 rfl ?_
  refine q_iload_n (pc := 6) hG dX12_in_6 2 rfl ?_
  refine q_icmp_gt (pc := 7) hG 14 dX12_in_7 rfl ?_ ?_
  · intro c7
    replace hF := fx_lt1 hF rfl rfl c7
    refine q_iconst (pc := 14) hG dX12_in_14 ki_0 ?_
    have r_3 := q_rgt (q_r_any x0) (q_r_any x2) c7 (-2147483647) (by decide)
    have r_4 := q_rlt (q_r_any x2) (q_r_any x0) c7 2147483646 (by decide)
    exact q_zrt hG hE dX12_in_15 (q_r.mono rl_0 (by decide)) ⟨rfl, (q_r.mono rl_0 (by decide)), (by rw [tl_0]; exact fx_end hF hF0), (by have o0 := c2; have o1 := c7; have o2 := r_3; have o3 := r_4; have l4 := tl_0; unfold q_r at o2 o3; omega)⟩
  intro c7
  replace hF := fx_lt2 hF rfl rfl c7
  refine q_iconst (pc := 10) hG dX12_in_10 ki_1 ?_
  refine q_goto (pc := 11) 15 hG dX12_in_11 rfl ?_
  exact q_zrt hG hE dX12_in_15 (q_r.mono rl_1 (by decide)) ⟨rfl, (q_r.mono rl_1 (by decide)), (by rw [tl_1]; exact fx_end hF hF0), (by have o0 := c2; have o1 := c7; have l2 := tl_1; omega)⟩
theorem dX12_min_0 : decode cX12_min 0 = .ok (.iload_n 0, 1) := by decide +kernel
theorem dX12_min_1 : decode cX12_min 1 = .ok (.iload_n 1, 1) := by decide +kernel
theorem dX12_min_2 : decode cX12_min 2 = .ok (.if_icmp .ge 7, 3) := by decide +kernel
theorem dX12_min_5 : decode cX12_min 5 = .ok (.iload_n 0, 1) := by decide +kernel
theorem dX12_min_6 : decode cX12_min 6 = .ok (.goto 4, 3) := by decide +kernel
theorem dX12_min_9 : decode cX12_min 9 = .ok (.iload_n 1, 1) := by decide +kernel
theorem dX12_min_10 : decode cX12_min 10 = .ok (.ireturn, 1) := by decide +kernel
set_option maxRecDepth 100000 in
set_option maxHeartbeats 4000000 in
theorem c_X12_min {l : Launch} {D : q_D} (τ : q_T) (σ : q_V) (x0 : Int32) (x1 : Int32) (hI : q_I τ σ) : q_Cp l D yX12_min cX12_min 2 (some .int) 0 0 τ σ [.int x0, .int x1] (fun r => (q_r r (-2147483648) 2147483647) ∧ (r.toInt = f_X12_min (fx_N σ) x0.toInt x1.toInt) ∧ ((r.toInt ≤ x0.toInt ∧ r.toInt ≤ x1.toInt) ∧ (r.toInt = x0.toInt ∨ r.toInt = x1.toInt))) := by
  refine q_meti rfl (Nat.le_of_ble_eq_true rfl) (fun X hG hE => ?_)
  show q_O X 0 0 τ σ 0 [(0, .int x0), (1, .int x1)] []
  obtain ⟨Fv, hF⟩ : ∃ z, fx_eq z (f_X12_min (fx_N σ) x0.toInt x1.toInt) := ⟨_, fx_rf⟩
  have hF0 := hF
  unfold f_X12_min at hF
  refine q_iload_n (pc := 0) hG dX12_min_0 0 rfl ?_
  refine q_iload_n (pc := 1) hG dX12_min_1 1 rfl ?_
  refine q_icmp_ge (pc := 2) hG 9 dX12_min_2 rfl ?_ ?_
  · intro c2
    replace hF := fx_lt2 hF rfl rfl c2
    refine q_iload_n (pc := 9) hG dX12_min_9 1 rfl ?_
    exact q_irt hG hE dX12_min_10 ⟨rfl, (q_r_any x1), (fx_end hF hF0), (by have o0 := c2; omega)⟩
  intro c2
  replace hF := fx_lt1 hF rfl rfl c2
  refine q_iload_n (pc := 5) hG dX12_min_5 0 rfl ?_
  refine q_goto (pc := 6) 10 hG dX12_min_6 rfl ?_
  have r_1 := q_rlt (q_r_any x0) (q_r_any x1) c2 2147483646 (by decide)
  have r_2 := q_rgt (q_r_any x1) (q_r_any x0) c2 (-2147483647) (by decide)
  exact q_irt hG hE dX12_min_10 ⟨rfl, (q_r.mono r_1 (by decide)), (fx_end hF hF0), (by have o0 := c2; have o1 := r_1; have o2 := r_2; unfold q_r at o1 o2; omega)⟩
theorem dX12_max_0 : decode cX12_max 0 = .ok (.iload_n 0, 1) := by decide +kernel
theorem dX12_max_1 : decode cX12_max 1 = .ok (.iload_n 1, 1) := by decide +kernel
theorem dX12_max_2 : decode cX12_max 2 = .ok (.if_icmp .le 7, 3) := by decide +kernel
theorem dX12_max_5 : decode cX12_max 5 = .ok (.iload_n 0, 1) := by decide +kernel
theorem dX12_max_6 : decode cX12_max 6 = .ok (.goto 4, 3) := by decide +kernel
theorem dX12_max_9 : decode cX12_max 9 = .ok (.iload_n 1, 1) := by decide +kernel
theorem dX12_max_10 : decode cX12_max 10 = .ok (.ireturn, 1) := by decide +kernel
set_option maxRecDepth 100000 in
set_option maxHeartbeats 4000000 in
theorem c_X12_max {l : Launch} {D : q_D} (τ : q_T) (σ : q_V) (x0 : Int32) (x1 : Int32) (hI : q_I τ σ) : q_Cp l D yX12_max cX12_max 2 (some .int) 0 0 τ σ [.int x0, .int x1] (fun r => (q_r r (-2147483648) 2147483647) ∧ (r.toInt = f_X12_max (fx_N σ) x0.toInt x1.toInt) ∧ ((x0.toInt ≤ r.toInt ∧ x1.toInt ≤ r.toInt) ∧ (r.toInt = x0.toInt ∨ r.toInt = x1.toInt)) ∧ (r = q_mx x0 x1)) := by
  refine q_meti rfl (Nat.le_of_ble_eq_true rfl) (fun X hG hE => ?_)
  show q_O X 0 0 τ σ 0 [(0, .int x0), (1, .int x1)] []
  obtain ⟨Fv, hF⟩ : ∃ z, fx_eq z (f_X12_max (fx_N σ) x0.toInt x1.toInt) := ⟨_, fx_rf⟩
  have hF0 := hF
  unfold f_X12_max at hF
  refine q_iload_n (pc := 0) hG dX12_max_0 0 rfl ?_
  refine q_iload_n (pc := 1) hG dX12_max_1 1 rfl ?_
  refine q_icmp_le (pc := 2) hG 9 dX12_max_2 rfl ?_ ?_
  · intro c2
    replace hF := fx_lt2 hF rfl rfl c2
    refine q_iload_n (pc := 9) hG dX12_max_9 1 rfl ?_
    exact q_irt hG hE dX12_max_10 ⟨rfl, (q_r_any x1), (fx_end hF hF0), (by have o0 := c2; omega), (by unfold q_mx; rw [if_pos (by have o0 := c2; omega)])⟩
  intro c2
  replace hF := fx_lt1 hF rfl rfl c2
  refine q_iload_n (pc := 5) hG dX12_max_5 0 rfl ?_
  refine q_goto (pc := 6) 10 hG dX12_max_6 rfl ?_
  have r_1 := q_rgt (q_r_any x0) (q_r_any x1) c2 (-2147483647) (by decide)
  have r_2 := q_rlt (q_r_any x1) (q_r_any x0) c2 2147483646 (by decide)
  exact q_irt hG hE dX12_max_10 ⟨rfl, (q_r.mono r_1 (by decide)), (fx_end hF hF0), (by have o0 := c2; have o1 := r_1; have o2 := r_2; unfold q_r at o1 o2; omega), (by unfold q_mx; rw [if_neg (by have o0 := c2; have o1 := r_1; have o2 := r_2; unfold q_r at o1 o2; omega)])⟩
theorem dX12_size_0 : decode cX12_size 0 = .ok (.iload_n 0, 1) := by decide +kernel
theorem dX12_size_1 : decode cX12_size 1 = .ok (.ifCond .ge 8, 3) := by decide +kernel
theorem dX12_size_4 : decode cX12_size 4 = .ok (.iload_n 0, 1) := by decide +kernel
theorem dX12_size_5 : decode cX12_size 5 = .ok (.ineg, 1) := by decide +kernel
theorem dX12_size_6 : decode cX12_size 6 = .ok (.goto 4, 3) := by decide +kernel
theorem dX12_size_9 : decode cX12_size 9 = .ok (.iload_n 0, 1) := by decide +kernel
theorem dX12_size_10 : decode cX12_size 10 = .ok (.ireturn, 1) := by decide +kernel
set_option maxRecDepth 100000 in
set_option maxHeartbeats 4000000 in
theorem c_X12_size {l : Launch} {D : q_D} (τ : q_T) (σ : q_V) (x0 : Int32) (hI : q_I τ σ) : q_Cp l D yX12_size cX12_size 1 (some .int) 0 0 τ σ [.int x0] (fun r => (q_r r (-2147483648) 2147483647) ∧ (r.toInt = f_X12_size (fx_N σ) x0.toInt) ∧ (-2147483648 < x0.toInt → (r.toInt = x0.toInt ∨ r.toInt = -x0.toInt) ∧ 0 ≤ r.toInt) ∧ (r = q_ab x0)) := by
  refine q_meti rfl (Nat.le_of_ble_eq_true rfl) (fun X hG hE => ?_)
  show q_O X 0 0 τ σ 0 [(0, .int x0)] []
  obtain ⟨Fv, hF⟩ : ∃ z, fx_eq z (f_X12_size (fx_N σ) x0.toInt) := ⟨_, fx_rf⟩
  have hF0 := hF
  unfold f_X12_size at hF
  refine q_iload_n (pc := 0) hG dX12_size_0 0 rfl ?_
  refine q_if_ge (pc := 1) hG 9 dX12_size_1 rfl ?_ ?_
  · intro c1
    replace hF := fx_lt2 hF rfl rfl c1
    refine q_iload_n (pc := 9) hG dX12_size_9 0 rfl ?_
    have r_1 := q_zge (q_r_any x0) c1
    exact q_irt hG hE dX12_size_10 ⟨rfl, (q_r.mono r_1 (by decide)), (fx_end hF hF0), (fun _ => (by have o0 := c1; have o1 := r_1; unfold q_r at o1; omega)), (by unfold q_ab; rw [if_neg (by have o0 := c1; have o1 := r_1; unfold q_r at o1; omega)])⟩
  intro c1
  replace hF := fx_lt1 hF rfl rfl c1
  refine q_iload_n (pc := 4) hG dX12_size_4 0 rfl ?_
  refine q_ineg (pc := 5) hG dX12_size_5 (fun v5 e5 => ?_)
  replace hF := fx_B_neg hF rfl e5
  refine q_goto (pc := 6) 10 hG dX12_size_6 rfl ?_
  have r_2 := q_zlt (q_r_any x0) c1
  exact q_irt hG hE dX12_size_10 ⟨rfl, (q_r_any v5), (fx_end hF hF0), (fun q => by have q2 := q_negN (lo := -2147483647) (hi := 2147483647) e5 (show q_r x0 (-2147483647) 2147483647 from ⟨by omega, (q_r_any x0).2⟩) (by decide); omega), (by unfold q_ab; rw [if_pos (by have o0 := c1; have o1 := r_2; unfold q_r at o1; omega)]; exact e5)⟩
theorem dX12_wrongAt_0 : decode cX12_wrongAt 0 = .ok (.aload_n 0, 1) := by decide +kernel
theorem dX12_wrongAt_1 : decode cX12_wrongAt 1 = .ok (.sipush (-1000), 3) := by decide +kernel
theorem dX12_wrongAt_4 : decode cX12_wrongAt 4 = .ok (.iload_n 1, 1) := by decide +kernel
theorem dX12_wrongAt_5 : decode cX12_wrongAt 5 = .ok (.imul, 1) := by decide +kernel
theorem dX12_wrongAt_6 : decode cX12_wrongAt 6 = .ok (.iload_n 2, 1) := by decide +kernel
theorem dX12_wrongAt_7 : decode cX12_wrongAt 7 = .ok (.isub, 1) := by decide +kernel
theorem dX12_wrongAt_8 : decode cX12_wrongAt 8 = .ok (.putfield 136, 3) := by decide +kernel
theorem dX12_wrongAt_11 : decode cX12_wrongAt 11 = .ok (.iconst 0, 1) := by decide +kernel
theorem dX12_wrongAt_12 : decode cX12_wrongAt 12 = .ok (.ireturn, 1) := by decide +kernel
def md_X12_wrongAt : List (Nat × Nat) := [(10, 7)]
set_option maxRecDepth 100000 in
set_option maxHeartbeats 4000000 in
theorem c_X12_wrongAt {l : Launch} {D : q_D} (τ : q_T) (σ : q_V) (a0 : Nat) (x1 : Int32) (x2 : Int32) (hI : q_I τ σ) (tA0 : τ a0 = some (10, 1)) : q_Ci l D yX12_wrongAt cX12_wrongAt 3 (some .boolean) 0 0 τ σ [.ref a0, .int x1, .int x2] (fun r σ1 => q_S md_X12_wrongAt τ σ σ1 ∧ (q_r r 0 0) ∧ ((r.toInt, fx_N σ1) = f_X12_wrongAt (fx_N σ) a0 x1.toInt x2.toInt)) := by
  refine q_meti rfl (Nat.le_of_ble_eq_true rfl) (fun X hG hE => ?_)
  show q_O X 0 0 τ σ 0 [(0, .ref a0), (1, .int x1), (2, .int x2)] []
  have hS0 : q_S md_X12_wrongAt τ σ σ := q_S.rf hI
  obtain ⟨Fv, hF⟩ : ∃ z, fx_eq z (f_X12_wrongAt (fx_N σ) a0 x1.toInt x2.toInt) := ⟨_, fx_rf⟩
  have hF0 := hF
  unfold f_X12_wrongAt at hF
  refine q_aload_n (pc := 0) hG dX12_wrongAt_0 0 rfl ?_
  refine q_sipush (pc := 1) hG dX12_wrongAt_1 ks_m1000 ?_
  refine q_iload_n (pc := 4) hG dX12_wrongAt_4 1 rfl ?_
  refine q_imul (pc := 5) hG dX12_wrongAt_5 (fun v5 e5 => ?_)
  replace hF := fx_B_mul hF tl_m1000 rfl e5
  refine q_iload_n (pc := 6) hG dX12_wrongAt_6 2 rfl ?_
  refine q_isub (pc := 7) hG dX12_wrongAt_7 (fun v7 e7 => ?_)
  replace hF := fx_B_sub hF rfl rfl e7
  refine q_putI (pc := 8) hG fl_X12_136 dX12_wrongAt_8 hS0 tA0 ff_10_7 (q_r_any v7) (by decide) rfl (fun s8 u8 w8 => ?_)
  replace hF := fx_P hF u8 rfl rfl
  have m8 : s8 a0 7 = .int v7 := by rw [u8]; exact q_up_same
  refine q_iconst (pc := 11) hG dX12_wrongAt_11 ki_0 ?_
  exact q_zrt hG hE dX12_wrongAt_12 (q_r.mono rl_0 (by decide)) ⟨w8, rl_0, (by rw [tl_0]; exact fx_end hF hF0)⟩
theorem dX12_factOf_0 : decode cX12_factOf 0 = .ok (.iload_n 0, 1) := by decide +kernel
theorem dX12_factOf_1 : decode cX12_factOf 1 = .ok (.tableswitch 128 97 119 #[122, 128, 119, 128, 128, 128, 128, 113, 107, 128, 111, 128, 128, 109, 128, 128, 128, 125, 128, 117, 128, 128, 115], 107) := by decide +kernel
theorem dX12_factOf_108 : decode cX12_factOf 108 = .ok (.iconst 0, 1) := by decide +kernel
theorem dX12_factOf_109 : decode cX12_factOf 109 = .ok (.ireturn, 1) := by decide +kernel
theorem dX12_factOf_110 : decode cX12_factOf 110 = .ok (.iconst 1, 1) := by decide +kernel
theorem dX12_factOf_111 : decode cX12_factOf 111 = .ok (.ireturn, 1) := by decide +kernel
theorem dX12_factOf_112 : decode cX12_factOf 112 = .ok (.iconst 2, 1) := by decide +kernel
theorem dX12_factOf_113 : decode cX12_factOf 113 = .ok (.ireturn, 1) := by decide +kernel
theorem dX12_factOf_114 : decode cX12_factOf 114 = .ok (.iconst 3, 1) := by decide +kernel
theorem dX12_factOf_115 : decode cX12_factOf 115 = .ok (.ireturn, 1) := by decide +kernel
theorem dX12_factOf_116 : decode cX12_factOf 116 = .ok (.iconst 4, 1) := by decide +kernel
theorem dX12_factOf_117 : decode cX12_factOf 117 = .ok (.ireturn, 1) := by decide +kernel
theorem dX12_factOf_118 : decode cX12_factOf 118 = .ok (.iconst 5, 1) := by decide +kernel
theorem dX12_factOf_119 : decode cX12_factOf 119 = .ok (.ireturn, 1) := by decide +kernel
theorem dX12_factOf_120 : decode cX12_factOf 120 = .ok (.bipush 6, 2) := by decide +kernel
theorem dX12_factOf_122 : decode cX12_factOf 122 = .ok (.ireturn, 1) := by decide +kernel
theorem dX12_factOf_123 : decode cX12_factOf 123 = .ok (.bipush 7, 2) := by decide +kernel
theorem dX12_factOf_125 : decode cX12_factOf 125 = .ok (.ireturn, 1) := by decide +kernel
theorem dX12_factOf_126 : decode cX12_factOf 126 = .ok (.bipush 8, 2) := by decide +kernel
theorem dX12_factOf_128 : decode cX12_factOf 128 = .ok (.ireturn, 1) := by decide +kernel
theorem dX12_factOf_129 : decode cX12_factOf 129 = .ok (.iconst (-1), 1) := by decide +kernel
theorem dX12_factOf_130 : decode cX12_factOf 130 = .ok (.ireturn, 1) := by decide +kernel
set_option maxRecDepth 100000 in
set_option maxHeartbeats 4000000 in
theorem c_X12_factOf {l : Launch} {D : q_D} (τ : q_T) (σ : q_V) (x0 : Int32) (hI : q_I τ σ) : q_Cp l D yX12_factOf cX12_factOf 1 (some .int) 0 0 τ σ [.int x0] (fun r => (q_r r (-1) 8) ∧ (r.toInt = f_X12_factOf (fx_N σ) x0.toInt) ∧ (r.toInt = -1 ∨ 0 ≤ x0.toInt)) := by
  refine q_meti rfl (Nat.le_of_ble_eq_true rfl) (fun X hG hE => ?_)
  show q_O X 0 0 τ σ 0 [(0, .int x0)] []
  obtain ⟨Fv, hF⟩ : ∃ z, fx_eq z (f_X12_factOf (fx_N σ) x0.toInt) := ⟨_, fx_rf⟩
  have hF0 := hF
  unfold f_X12_factOf at hF
  refine q_iload_n (pc := 0) hG dX12_factOf_0 0 rfl ?_
  by_cases z1_97 : x0.toInt = 97
  · skip
    replace hF := fx_eq1 hF rfl rfl z1_97
    refine q_tsIn (pc := 1) 97 123 hG dX12_factOf_1 z1_97 (by decide) rfl rfl ?_
    refine q_bipush (pc := 123) hG dX12_factOf_123 kb_7 ?_
    have r_1 := q_lit z1_97
    exact q_irt hG hE dX12_factOf_125 ⟨rfl, (q_r.mono rl_7 (by decide)), (by rw [tl_7]; exact fx_end hF hF0), (by have o0 := z1_97; have o1 := r_1; have l2 := tl_7; unfold q_r at o1; omega)⟩
  by_cases z1_98 : x0.toInt = 98
  · skip
    replace hF := fx_eq2 hF rfl rfl z1_97
    replace hF := fx_eq1 hF rfl rfl z1_98
    refine q_tsIn (pc := 1) 98 129 hG dX12_factOf_1 z1_98 (by decide) rfl rfl ?_
    refine q_iconst (pc := 129) hG dX12_factOf_129 ki_m1 ?_
    have r_2 := q_lit z1_98
    exact q_irt hG hE dX12_factOf_130 ⟨rfl, (q_r.mono rl_m1 (by decide)), (by rw [tl_m1]; exact fx_end hF hF0), (by have o0 := z1_98; have o1 := r_2; have l2 := tl_m1; unfold q_r at o1; omega)⟩
  by_cases z1_99 : x0.toInt = 99
  · skip
    replace hF := fx_eq2 hF rfl rfl z1_97
    replace hF := fx_eq2 hF rfl rfl z1_98
    replace hF := fx_eq1 hF rfl rfl z1_99
    refine q_tsIn (pc := 1) 99 120 hG dX12_factOf_1 z1_99 (by decide) rfl rfl ?_
    refine q_bipush (pc := 120) hG dX12_factOf_120 kb_6 ?_
    have r_3 := q_lit z1_99
    exact q_irt hG hE dX12_factOf_122 ⟨rfl, (q_r.mono rl_6 (by decide)), (by rw [tl_6]; exact fx_end hF hF0), (by have o0 := z1_99; have o1 := r_3; have l2 := tl_6; unfold q_r at o1; omega)⟩
  by_cases z1_100 : x0.toInt = 100
  · skip
    replace hF := fx_eq2 hF rfl rfl z1_97
    replace hF := fx_eq2 hF rfl rfl z1_98
    replace hF := fx_eq2 hF rfl rfl z1_99
    replace hF := fx_eq1 hF rfl rfl z1_100
    refine q_tsIn (pc := 1) 100 129 hG dX12_factOf_1 z1_100 (by decide) rfl rfl ?_
    refine q_iconst (pc := 129) hG dX12_factOf_129 ki_m1 ?_
    have r_4 := q_lit z1_100
    exact q_irt hG hE dX12_factOf_130 ⟨rfl, (q_r.mono rl_m1 (by decide)), (by rw [tl_m1]; exact fx_end hF hF0), (by have o0 := z1_100; have o1 := r_4; have l2 := tl_m1; unfold q_r at o1; omega)⟩
  by_cases z1_101 : x0.toInt = 101
  · skip
    replace hF := fx_eq2 hF rfl rfl z1_97
    replace hF := fx_eq2 hF rfl rfl z1_98
    replace hF := fx_eq2 hF rfl rfl z1_99
    replace hF := fx_eq2 hF rfl rfl z1_100
    replace hF := fx_eq1 hF rfl rfl z1_101
    refine q_tsIn (pc := 1) 101 129 hG dX12_factOf_1 z1_101 (by decide) rfl rfl ?_
    refine q_iconst (pc := 129) hG dX12_factOf_129 ki_m1 ?_
    have r_5 := q_lit z1_101
    exact q_irt hG hE dX12_factOf_130 ⟨rfl, (q_r.mono rl_m1 (by decide)), (by rw [tl_m1]; exact fx_end hF hF0), (by have o0 := z1_101; have o1 := r_5; have l2 := tl_m1; unfold q_r at o1; omega)⟩
  by_cases z1_102 : x0.toInt = 102
  · skip
    replace hF := fx_eq2 hF rfl rfl z1_97
    replace hF := fx_eq2 hF rfl rfl z1_98
    replace hF := fx_eq2 hF rfl rfl z1_99
    replace hF := fx_eq2 hF rfl rfl z1_100
    replace hF := fx_eq2 hF rfl rfl z1_101
    replace hF := fx_eq1 hF rfl rfl z1_102
    refine q_tsIn (pc := 1) 102 129 hG dX12_factOf_1 z1_102 (by decide) rfl rfl ?_
    refine q_iconst (pc := 129) hG dX12_factOf_129 ki_m1 ?_
    have r_6 := q_lit z1_102
    exact q_irt hG hE dX12_factOf_130 ⟨rfl, (q_r.mono rl_m1 (by decide)), (by rw [tl_m1]; exact fx_end hF hF0), (by have o0 := z1_102; have o1 := r_6; have l2 := tl_m1; unfold q_r at o1; omega)⟩
  by_cases z1_103 : x0.toInt = 103
  · skip
    replace hF := fx_eq2 hF rfl rfl z1_97
    replace hF := fx_eq2 hF rfl rfl z1_98
    replace hF := fx_eq2 hF rfl rfl z1_99
    replace hF := fx_eq2 hF rfl rfl z1_100
    replace hF := fx_eq2 hF rfl rfl z1_101
    replace hF := fx_eq2 hF rfl rfl z1_102
    replace hF := fx_eq1 hF rfl rfl z1_103
    refine q_tsIn (pc := 1) 103 129 hG dX12_factOf_1 z1_103 (by decide) rfl rfl ?_
    refine q_iconst (pc := 129) hG dX12_factOf_129 ki_m1 ?_
    have r_7 := q_lit z1_103
    exact q_irt hG hE dX12_factOf_130 ⟨rfl, (q_r.mono rl_m1 (by decide)), (by rw [tl_m1]; exact fx_end hF hF0), (by have o0 := z1_103; have o1 := r_7; have l2 := tl_m1; unfold q_r at o1; omega)⟩
  by_cases z1_104 : x0.toInt = 104
  · skip
    replace hF := fx_eq2 hF rfl rfl z1_97
    replace hF := fx_eq2 hF rfl rfl z1_98
    replace hF := fx_eq2 hF rfl rfl z1_99
    replace hF := fx_eq2 hF rfl rfl z1_100
    replace hF := fx_eq2 hF rfl rfl z1_101
    replace hF := fx_eq2 hF rfl rfl z1_102
    replace hF := fx_eq2 hF rfl rfl z1_103
    replace hF := fx_eq1 hF rfl rfl z1_104
    refine q_tsIn (pc := 1) 104 114 hG dX12_factOf_1 z1_104 (by decide) rfl rfl ?_
    refine q_iconst (pc := 114) hG dX12_factOf_114 ki_3 ?_
    have r_8 := q_lit z1_104
    exact q_irt hG hE dX12_factOf_115 ⟨rfl, (q_r.mono rl_3 (by decide)), (by rw [tl_3]; exact fx_end hF hF0), (by have o0 := z1_104; have o1 := r_8; have l2 := tl_3; unfold q_r at o1; omega)⟩
  by_cases z1_105 : x0.toInt = 105
  · skip
    replace hF := fx_eq2 hF rfl rfl z1_97
    replace hF := fx_eq2 hF rfl rfl z1_98
    replace hF := fx_eq2 hF rfl rfl z1_99
    replace hF := fx_eq2 hF rfl rfl z1_100
    replace hF := fx_eq2 hF rfl rfl z1_101
    replace hF := fx_eq2 hF rfl rfl z1_102
    replace hF := fx_eq2 hF rfl rfl z1_103
    replace hF := fx_eq2 hF rfl rfl z1_104
    replace hF := fx_eq1 hF rfl rfl z1_105
    refine q_tsIn (pc := 1) 105 108 hG dX12_factOf_1 z1_105 (by decide) rfl rfl ?_
    refine q_iconst (pc := 108) hG dX12_factOf_108 ki_0 ?_
    have r_9 := q_lit z1_105
    exact q_irt hG hE dX12_factOf_109 ⟨rfl, (q_r.mono rl_0 (by decide)), (by rw [tl_0]; exact fx_end hF hF0), (by have o0 := z1_105; have o1 := r_9; have l2 := tl_0; unfold q_r at o1; omega)⟩
  by_cases z1_106 : x0.toInt = 106
  · skip
    replace hF := fx_eq2 hF rfl rfl z1_97
    replace hF := fx_eq2 hF rfl rfl z1_98
    replace hF := fx_eq2 hF rfl rfl z1_99
    replace hF := fx_eq2 hF rfl rfl z1_100
    replace hF := fx_eq2 hF rfl rfl z1_101
    replace hF := fx_eq2 hF rfl rfl z1_102
    replace hF := fx_eq2 hF rfl rfl z1_103
    replace hF := fx_eq2 hF rfl rfl z1_104
    replace hF := fx_eq2 hF rfl rfl z1_105
    replace hF := fx_eq1 hF rfl rfl z1_106
    refine q_tsIn (pc := 1) 106 129 hG dX12_factOf_1 z1_106 (by decide) rfl rfl ?_
    refine q_iconst (pc := 129) hG dX12_factOf_129 ki_m1 ?_
    have r_10 := q_lit z1_106
    exact q_irt hG hE dX12_factOf_130 ⟨rfl, (q_r.mono rl_m1 (by decide)), (by rw [tl_m1]; exact fx_end hF hF0), (by have o0 := z1_106; have o1 := r_10; have l2 := tl_m1; unfold q_r at o1; omega)⟩
  by_cases z1_107 : x0.toInt = 107
  · skip
    replace hF := fx_eq2 hF rfl rfl z1_97
    replace hF := fx_eq2 hF rfl rfl z1_98
    replace hF := fx_eq2 hF rfl rfl z1_99
    replace hF := fx_eq2 hF rfl rfl z1_100
    replace hF := fx_eq2 hF rfl rfl z1_101
    replace hF := fx_eq2 hF rfl rfl z1_102
    replace hF := fx_eq2 hF rfl rfl z1_103
    replace hF := fx_eq2 hF rfl rfl z1_104
    replace hF := fx_eq2 hF rfl rfl z1_105
    replace hF := fx_eq2 hF rfl rfl z1_106
    replace hF := fx_eq1 hF rfl rfl z1_107
    refine q_tsIn (pc := 1) 107 112 hG dX12_factOf_1 z1_107 (by decide) rfl rfl ?_
    refine q_iconst (pc := 112) hG dX12_factOf_112 ki_2 ?_
    have r_11 := q_lit z1_107
    exact q_irt hG hE dX12_factOf_113 ⟨rfl, (q_r.mono rl_2 (by decide)), (by rw [tl_2]; exact fx_end hF hF0), (by have o0 := z1_107; have o1 := r_11; have l2 := tl_2; unfold q_r at o1; omega)⟩
  by_cases z1_108 : x0.toInt = 108
  · skip
    replace hF := fx_eq2 hF rfl rfl z1_97
    replace hF := fx_eq2 hF rfl rfl z1_98
    replace hF := fx_eq2 hF rfl rfl z1_99
    replace hF := fx_eq2 hF rfl rfl z1_100
    replace hF := fx_eq2 hF rfl rfl z1_101
    replace hF := fx_eq2 hF rfl rfl z1_102
    replace hF := fx_eq2 hF rfl rfl z1_103
    replace hF := fx_eq2 hF rfl rfl z1_104
    replace hF := fx_eq2 hF rfl rfl z1_105
    replace hF := fx_eq2 hF rfl rfl z1_106
    replace hF := fx_eq2 hF rfl rfl z1_107
    replace hF := fx_eq1 hF rfl rfl z1_108
    refine q_tsIn (pc := 1) 108 129 hG dX12_factOf_1 z1_108 (by decide) rfl rfl ?_
    refine q_iconst (pc := 129) hG dX12_factOf_129 ki_m1 ?_
    have r_12 := q_lit z1_108
    exact q_irt hG hE dX12_factOf_130 ⟨rfl, (q_r.mono rl_m1 (by decide)), (by rw [tl_m1]; exact fx_end hF hF0), (by have o0 := z1_108; have o1 := r_12; have l2 := tl_m1; unfold q_r at o1; omega)⟩
  by_cases z1_109 : x0.toInt = 109
  · skip
    replace hF := fx_eq2 hF rfl rfl z1_97
    replace hF := fx_eq2 hF rfl rfl z1_98
    replace hF := fx_eq2 hF rfl rfl z1_99
    replace hF := fx_eq2 hF rfl rfl z1_100
    replace hF := fx_eq2 hF rfl rfl z1_101
    replace hF := fx_eq2 hF rfl rfl z1_102
    replace hF := fx_eq2 hF rfl rfl z1_103
    replace hF := fx_eq2 hF rfl rfl z1_104
    replace hF := fx_eq2 hF rfl rfl z1_105
    replace hF := fx_eq2 hF rfl rfl z1_106
    replace hF := fx_eq2 hF rfl rfl z1_107
    replace hF := fx_eq2 hF rfl rfl z1_108
    replace hF := fx_eq1 hF rfl rfl z1_109
    refine q_tsIn (pc := 1) 109 129 hG dX12_factOf_1 z1_109 (by decide) rfl rfl ?_
    refine q_iconst (pc := 129) hG dX12_factOf_129 ki_m1 ?_
    have r_13 := q_lit z1_109
    exact q_irt hG hE dX12_factOf_130 ⟨rfl, (q_r.mono rl_m1 (by decide)), (by rw [tl_m1]; exact fx_end hF hF0), (by have o0 := z1_109; have o1 := r_13; have l2 := tl_m1; unfold q_r at o1; omega)⟩
  by_cases z1_110 : x0.toInt = 110
  · skip
    replace hF := fx_eq2 hF rfl rfl z1_97
    replace hF := fx_eq2 hF rfl rfl z1_98
    replace hF := fx_eq2 hF rfl rfl z1_99
    replace hF := fx_eq2 hF rfl rfl z1_100
    replace hF := fx_eq2 hF rfl rfl z1_101
    replace hF := fx_eq2 hF rfl rfl z1_102
    replace hF := fx_eq2 hF rfl rfl z1_103
    replace hF := fx_eq2 hF rfl rfl z1_104
    replace hF := fx_eq2 hF rfl rfl z1_105
    replace hF := fx_eq2 hF rfl rfl z1_106
    replace hF := fx_eq2 hF rfl rfl z1_107
    replace hF := fx_eq2 hF rfl rfl z1_108
    replace hF := fx_eq2 hF rfl rfl z1_109
    replace hF := fx_eq1 hF rfl rfl z1_110
    refine q_tsIn (pc := 1) 110 110 hG dX12_factOf_1 z1_110 (by decide) rfl rfl ?_
    refine q_iconst (pc := 110) hG dX12_factOf_110 ki_1 ?_
    have r_14 := q_lit z1_110
    exact q_irt hG hE dX12_factOf_111 ⟨rfl, (q_r.mono rl_1 (by decide)), (by rw [tl_1]; exact fx_end hF hF0), (by have o0 := z1_110; have o1 := r_14; have l2 := tl_1; unfold q_r at o1; omega)⟩
  by_cases z1_111 : x0.toInt = 111
  · skip
    replace hF := fx_eq2 hF rfl rfl z1_97
    replace hF := fx_eq2 hF rfl rfl z1_98
    replace hF := fx_eq2 hF rfl rfl z1_99
    replace hF := fx_eq2 hF rfl rfl z1_100
    replace hF := fx_eq2 hF rfl rfl z1_101
    replace hF := fx_eq2 hF rfl rfl z1_102
    replace hF := fx_eq2 hF rfl rfl z1_103
    replace hF := fx_eq2 hF rfl rfl z1_104
    replace hF := fx_eq2 hF rfl rfl z1_105
    replace hF := fx_eq2 hF rfl rfl z1_106
    replace hF := fx_eq2 hF rfl rfl z1_107
    replace hF := fx_eq2 hF rfl rfl z1_108
    replace hF := fx_eq2 hF rfl rfl z1_109
    replace hF := fx_eq2 hF rfl rfl z1_110
    replace hF := fx_eq1 hF rfl rfl z1_111
    refine q_tsIn (pc := 1) 111 129 hG dX12_factOf_1 z1_111 (by decide) rfl rfl ?_
    refine q_iconst (pc := 129) hG dX12_factOf_129 ki_m1 ?_
    have r_15 := q_lit z1_111
    exact q_irt hG hE dX12_factOf_130 ⟨rfl, (q_r.mono rl_m1 (by decide)), (by rw [tl_m1]; exact fx_end hF hF0), (by have o0 := z1_111; have o1 := r_15; have l2 := tl_m1; unfold q_r at o1; omega)⟩
  by_cases z1_112 : x0.toInt = 112
  · skip
    replace hF := fx_eq2 hF rfl rfl z1_97
    replace hF := fx_eq2 hF rfl rfl z1_98
    replace hF := fx_eq2 hF rfl rfl z1_99
    replace hF := fx_eq2 hF rfl rfl z1_100
    replace hF := fx_eq2 hF rfl rfl z1_101
    replace hF := fx_eq2 hF rfl rfl z1_102
    replace hF := fx_eq2 hF rfl rfl z1_103
    replace hF := fx_eq2 hF rfl rfl z1_104
    replace hF := fx_eq2 hF rfl rfl z1_105
    replace hF := fx_eq2 hF rfl rfl z1_106
    replace hF := fx_eq2 hF rfl rfl z1_107
    replace hF := fx_eq2 hF rfl rfl z1_108
    replace hF := fx_eq2 hF rfl rfl z1_109
    replace hF := fx_eq2 hF rfl rfl z1_110
    replace hF := fx_eq2 hF rfl rfl z1_111
    replace hF := fx_eq1 hF rfl rfl z1_112
    refine q_tsIn (pc := 1) 112 129 hG dX12_factOf_1 z1_112 (by decide) rfl rfl ?_
    refine q_iconst (pc := 129) hG dX12_factOf_129 ki_m1 ?_
    have r_16 := q_lit z1_112
    exact q_irt hG hE dX12_factOf_130 ⟨rfl, (q_r.mono rl_m1 (by decide)), (by rw [tl_m1]; exact fx_end hF hF0), (by have o0 := z1_112; have o1 := r_16; have l2 := tl_m1; unfold q_r at o1; omega)⟩
  by_cases z1_113 : x0.toInt = 113
  · skip
    replace hF := fx_eq2 hF rfl rfl z1_97
    replace hF := fx_eq2 hF rfl rfl z1_98
    replace hF := fx_eq2 hF rfl rfl z1_99
    replace hF := fx_eq2 hF rfl rfl z1_100
    replace hF := fx_eq2 hF rfl rfl z1_101
    replace hF := fx_eq2 hF rfl rfl z1_102
    replace hF := fx_eq2 hF rfl rfl z1_103
    replace hF := fx_eq2 hF rfl rfl z1_104
    replace hF := fx_eq2 hF rfl rfl z1_105
    replace hF := fx_eq2 hF rfl rfl z1_106
    replace hF := fx_eq2 hF rfl rfl z1_107
    replace hF := fx_eq2 hF rfl rfl z1_108
    replace hF := fx_eq2 hF rfl rfl z1_109
    replace hF := fx_eq2 hF rfl rfl z1_110
    replace hF := fx_eq2 hF rfl rfl z1_111
    replace hF := fx_eq2 hF rfl rfl z1_112
    replace hF := fx_eq1 hF rfl rfl z1_113
    refine q_tsIn (pc := 1) 113 129 hG dX12_factOf_1 z1_113 (by decide) rfl rfl ?_
    refine q_iconst (pc := 129) hG dX12_factOf_129 ki_m1 ?_
    have r_17 := q_lit z1_113
    exact q_irt hG hE dX12_factOf_130 ⟨rfl, (q_r.mono rl_m1 (by decide)), (by rw [tl_m1]; exact fx_end hF hF0), (by have o0 := z1_113; have o1 := r_17; have l2 := tl_m1; unfold q_r at o1; omega)⟩
  by_cases z1_114 : x0.toInt = 114
  · skip
    replace hF := fx_eq2 hF rfl rfl z1_97
    replace hF := fx_eq2 hF rfl rfl z1_98
    replace hF := fx_eq2 hF rfl rfl z1_99
    replace hF := fx_eq2 hF rfl rfl z1_100
    replace hF := fx_eq2 hF rfl rfl z1_101
    replace hF := fx_eq2 hF rfl rfl z1_102
    replace hF := fx_eq2 hF rfl rfl z1_103
    replace hF := fx_eq2 hF rfl rfl z1_104
    replace hF := fx_eq2 hF rfl rfl z1_105
    replace hF := fx_eq2 hF rfl rfl z1_106
    replace hF := fx_eq2 hF rfl rfl z1_107
    replace hF := fx_eq2 hF rfl rfl z1_108
    replace hF := fx_eq2 hF rfl rfl z1_109
    replace hF := fx_eq2 hF rfl rfl z1_110
    replace hF := fx_eq2 hF rfl rfl z1_111
    replace hF := fx_eq2 hF rfl rfl z1_112
    replace hF := fx_eq2 hF rfl rfl z1_113
    replace hF := fx_eq1 hF rfl rfl z1_114
    refine q_tsIn (pc := 1) 114 126 hG dX12_factOf_1 z1_114 (by decide) rfl rfl ?_
    refine q_bipush (pc := 126) hG dX12_factOf_126 kb_8 ?_
    have r_18 := q_lit z1_114
    exact q_irt hG hE dX12_factOf_128 ⟨rfl, (q_r.mono rl_8 (by decide)), (by rw [tl_8]; exact fx_end hF hF0), (by have o0 := z1_114; have o1 := r_18; have l2 := tl_8; unfold q_r at o1; omega)⟩
  by_cases z1_115 : x0.toInt = 115
  · skip
    replace hF := fx_eq2 hF rfl rfl z1_97
    replace hF := fx_eq2 hF rfl rfl z1_98
    replace hF := fx_eq2 hF rfl rfl z1_99
    replace hF := fx_eq2 hF rfl rfl z1_100
    replace hF := fx_eq2 hF rfl rfl z1_101
    replace hF := fx_eq2 hF rfl rfl z1_102
    replace hF := fx_eq2 hF rfl rfl z1_103
    replace hF := fx_eq2 hF rfl rfl z1_104
    replace hF := fx_eq2 hF rfl rfl z1_105
    replace hF := fx_eq2 hF rfl rfl z1_106
    replace hF := fx_eq2 hF rfl rfl z1_107
    replace hF := fx_eq2 hF rfl rfl z1_108
    replace hF := fx_eq2 hF rfl rfl z1_109
    replace hF := fx_eq2 hF rfl rfl z1_110
    replace hF := fx_eq2 hF rfl rfl z1_111
    replace hF := fx_eq2 hF rfl rfl z1_112
    replace hF := fx_eq2 hF rfl rfl z1_113
    replace hF := fx_eq2 hF rfl rfl z1_114
    replace hF := fx_eq1 hF rfl rfl z1_115
    refine q_tsIn (pc := 1) 115 129 hG dX12_factOf_1 z1_115 (by decide) rfl rfl ?_
    refine q_iconst (pc := 129) hG dX12_factOf_129 ki_m1 ?_
    have r_19 := q_lit z1_115
    exact q_irt hG hE dX12_factOf_130 ⟨rfl, (q_r.mono rl_m1 (by decide)), (by rw [tl_m1]; exact fx_end hF hF0), (by have o0 := z1_115; have o1 := r_19; have l2 := tl_m1; unfold q_r at o1; omega)⟩
  by_cases z1_116 : x0.toInt = 116
  · skip
    replace hF := fx_eq2 hF rfl rfl z1_97
    replace hF := fx_eq2 hF rfl rfl z1_98
    replace hF := fx_eq2 hF rfl rfl z1_99
    replace hF := fx_eq2 hF rfl rfl z1_100
    replace hF := fx_eq2 hF rfl rfl z1_101
    replace hF := fx_eq2 hF rfl rfl z1_102
    replace hF := fx_eq2 hF rfl rfl z1_103
    replace hF := fx_eq2 hF rfl rfl z1_104
    replace hF := fx_eq2 hF rfl rfl z1_105
    replace hF := fx_eq2 hF rfl rfl z1_106
    replace hF := fx_eq2 hF rfl rfl z1_107
    replace hF := fx_eq2 hF rfl rfl z1_108
    replace hF := fx_eq2 hF rfl rfl z1_109
    replace hF := fx_eq2 hF rfl rfl z1_110
    replace hF := fx_eq2 hF rfl rfl z1_111
    replace hF := fx_eq2 hF rfl rfl z1_112
    replace hF := fx_eq2 hF rfl rfl z1_113
    replace hF := fx_eq2 hF rfl rfl z1_114
    replace hF := fx_eq2 hF rfl rfl z1_115
    replace hF := fx_eq1 hF rfl rfl z1_116
    refine q_tsIn (pc := 1) 116 118 hG dX12_factOf_1 z1_116 (by decide) rfl rfl ?_
    refine q_iconst (pc := 118) hG dX12_factOf_118 ki_5 ?_
    have r_20 := q_lit z1_116
    exact q_irt hG hE dX12_factOf_119 ⟨rfl, (q_r.mono rl_5 (by decide)), (by rw [tl_5]; exact fx_end hF hF0), (by have o0 := z1_116; have o1 := r_20; have l2 := tl_5; unfold q_r at o1; omega)⟩
  by_cases z1_117 : x0.toInt = 117
  · skip
    replace hF := fx_eq2 hF rfl rfl z1_97
    replace hF := fx_eq2 hF rfl rfl z1_98
    replace hF := fx_eq2 hF rfl rfl z1_99
    replace hF := fx_eq2 hF rfl rfl z1_100
    replace hF := fx_eq2 hF rfl rfl z1_101
    replace hF := fx_eq2 hF rfl rfl z1_102
    replace hF := fx_eq2 hF rfl rfl z1_103
    replace hF := fx_eq2 hF rfl rfl z1_104
    replace hF := fx_eq2 hF rfl rfl z1_105
    replace hF := fx_eq2 hF rfl rfl z1_106
    replace hF := fx_eq2 hF rfl rfl z1_107
    replace hF := fx_eq2 hF rfl rfl z1_108
    replace hF := fx_eq2 hF rfl rfl z1_109
    replace hF := fx_eq2 hF rfl rfl z1_110
    replace hF := fx_eq2 hF rfl rfl z1_111
    replace hF := fx_eq2 hF rfl rfl z1_112
    replace hF := fx_eq2 hF rfl rfl z1_113
    replace hF := fx_eq2 hF rfl rfl z1_114
    replace hF := fx_eq2 hF rfl rfl z1_115
    replace hF := fx_eq2 hF rfl rfl z1_116
    replace hF := fx_eq1 hF rfl rfl z1_117
    refine q_tsIn (pc := 1) 117 129 hG dX12_factOf_1 z1_117 (by decide) rfl rfl ?_
    refine q_iconst (pc := 129) hG dX12_factOf_129 ki_m1 ?_
    have r_21 := q_lit z1_117
    exact q_irt hG hE dX12_factOf_130 ⟨rfl, (q_r.mono rl_m1 (by decide)), (by rw [tl_m1]; exact fx_end hF hF0), (by have o0 := z1_117; have o1 := r_21; have l2 := tl_m1; unfold q_r at o1; omega)⟩
  by_cases z1_118 : x0.toInt = 118
  · skip
    replace hF := fx_eq2 hF rfl rfl z1_97
    replace hF := fx_eq2 hF rfl rfl z1_98
    replace hF := fx_eq2 hF rfl rfl z1_99
    replace hF := fx_eq2 hF rfl rfl z1_100
    replace hF := fx_eq2 hF rfl rfl z1_101
    replace hF := fx_eq2 hF rfl rfl z1_102
    replace hF := fx_eq2 hF rfl rfl z1_103
    replace hF := fx_eq2 hF rfl rfl z1_104
    replace hF := fx_eq2 hF rfl rfl z1_105
    replace hF := fx_eq2 hF rfl rfl z1_106
    replace hF := fx_eq2 hF rfl rfl z1_107
    replace hF := fx_eq2 hF rfl rfl z1_108
    replace hF := fx_eq2 hF rfl rfl z1_109
    replace hF := fx_eq2 hF rfl rfl z1_110
    replace hF := fx_eq2 hF rfl rfl z1_111
    replace hF := fx_eq2 hF rfl rfl z1_112
    replace hF := fx_eq2 hF rfl rfl z1_113
    replace hF := fx_eq2 hF rfl rfl z1_114
    replace hF := fx_eq2 hF rfl rfl z1_115
    replace hF := fx_eq2 hF rfl rfl z1_116
    replace hF := fx_eq2 hF rfl rfl z1_117
    replace hF := fx_eq1 hF rfl rfl z1_118
    refine q_tsIn (pc := 1) 118 129 hG dX12_factOf_1 z1_118 (by decide) rfl rfl ?_
    refine q_iconst (pc := 129) hG dX12_factOf_129 ki_m1 ?_
    have r_22 := q_lit z1_118
    exact q_irt hG hE dX12_factOf_130 ⟨rfl, (q_r.mono rl_m1 (by decide)), (by rw [tl_m1]; exact fx_end hF hF0), (by have o0 := z1_118; have o1 := r_22; have l2 := tl_m1; unfold q_r at o1; omega)⟩
  by_cases z1_119 : x0.toInt = 119
  · skip
    replace hF := fx_eq2 hF rfl rfl z1_97
    replace hF := fx_eq2 hF rfl rfl z1_98
    replace hF := fx_eq2 hF rfl rfl z1_99
    replace hF := fx_eq2 hF rfl rfl z1_100
    replace hF := fx_eq2 hF rfl rfl z1_101
    replace hF := fx_eq2 hF rfl rfl z1_102
    replace hF := fx_eq2 hF rfl rfl z1_103
    replace hF := fx_eq2 hF rfl rfl z1_104
    replace hF := fx_eq2 hF rfl rfl z1_105
    replace hF := fx_eq2 hF rfl rfl z1_106
    replace hF := fx_eq2 hF rfl rfl z1_107
    replace hF := fx_eq2 hF rfl rfl z1_108
    replace hF := fx_eq2 hF rfl rfl z1_109
    replace hF := fx_eq2 hF rfl rfl z1_110
    replace hF := fx_eq2 hF rfl rfl z1_111
    replace hF := fx_eq2 hF rfl rfl z1_112
    replace hF := fx_eq2 hF rfl rfl z1_113
    replace hF := fx_eq2 hF rfl rfl z1_114
    replace hF := fx_eq2 hF rfl rfl z1_115
    replace hF := fx_eq2 hF rfl rfl z1_116
    replace hF := fx_eq2 hF rfl rfl z1_117
    replace hF := fx_eq2 hF rfl rfl z1_118
    replace hF := fx_eq1 hF rfl rfl z1_119
    refine q_tsIn (pc := 1) 119 116 hG dX12_factOf_1 z1_119 (by decide) rfl rfl ?_
    refine q_iconst (pc := 116) hG dX12_factOf_116 ki_4 ?_
    have r_23 := q_lit z1_119
    exact q_irt hG hE dX12_factOf_117 ⟨rfl, (q_r.mono rl_4 (by decide)), (by rw [tl_4]; exact fx_end hF hF0), (by have o0 := z1_119; have o1 := r_23; have l2 := tl_4; unfold q_r at o1; omega)⟩
  replace hF := fx_eq2 hF rfl rfl z1_97
  replace hF := fx_eq2 hF rfl rfl z1_98
  replace hF := fx_eq2 hF rfl rfl z1_99
  replace hF := fx_eq2 hF rfl rfl z1_100
  replace hF := fx_eq2 hF rfl rfl z1_101
  replace hF := fx_eq2 hF rfl rfl z1_102
  replace hF := fx_eq2 hF rfl rfl z1_103
  replace hF := fx_eq2 hF rfl rfl z1_104
  replace hF := fx_eq2 hF rfl rfl z1_105
  replace hF := fx_eq2 hF rfl rfl z1_106
  replace hF := fx_eq2 hF rfl rfl z1_107
  replace hF := fx_eq2 hF rfl rfl z1_108
  replace hF := fx_eq2 hF rfl rfl z1_109
  replace hF := fx_eq2 hF rfl rfl z1_110
  replace hF := fx_eq2 hF rfl rfl z1_111
  replace hF := fx_eq2 hF rfl rfl z1_112
  replace hF := fx_eq2 hF rfl rfl z1_113
  replace hF := fx_eq2 hF rfl rfl z1_114
  replace hF := fx_eq2 hF rfl rfl z1_115
  replace hF := fx_eq2 hF rfl rfl z1_116
  replace hF := fx_eq2 hF rfl rfl z1_117
  replace hF := fx_eq2 hF rfl rfl z1_118
  replace hF := fx_eq2 hF rfl rfl z1_119
  refine q_tsOut (pc := 1) 129 hG dX12_factOf_1 (by have q := (q_r_any x0); unfold q_r at q; omega) rfl ?_
  refine q_iconst (pc := 129) hG dX12_factOf_129 ki_m1 ?_
  exact q_irt hG hE dX12_factOf_130 ⟨rfl, (q_r.mono rl_m1 (by decide)), (by rw [tl_m1]; exact fx_end hF hF0), (by have o0 := z1_97; have o1 := z1_98; have o2 := z1_99; have o3 := z1_100; have o4 := z1_101; have o5 := z1_102; have o6 := z1_103; have o7 := z1_104; have o8 := z1_105; have o9 := z1_106; have o10 := z1_107; have o11 := z1_108; have o12 := z1_109; have o13 := z1_110; have o14 := z1_111; have o15 := z1_112; have o16 := z1_113; have o17 := z1_114; have o18 := z1_115; have o19 := z1_116; have o20 := z1_117; have o21 := z1_118; have o22 := z1_119; have l23 := tl_m1; omega)⟩
theorem dX12_sumSign_0 : decode cX12_sumSign 0 = .ok (.iload_n 0, 1) := by decide +kernel
theorem dX12_sumSign_1 : decode cX12_sumSign 1 = .ok (.bipush 43, 2) := by decide +kernel
theorem dX12_sumSign_3 : decode cX12_sumSign 3 = .ok (.if_icmp .ne 7, 3) := by decide +kernel
theorem dX12_sumSign_6 : decode cX12_sumSign 6 = .ok (.iconst 2, 1) := by decide +kernel
theorem dX12_sumSign_7 : decode cX12_sumSign 7 = .ok (.goto 45, 3) := by decide +kernel
theorem dX12_sumSign_10 : decode cX12_sumSign 10 = .ok (.iload_n 0, 1) := by decide +kernel
theorem dX12_sumSign_11 : decode cX12_sumSign 11 = .ok (.bipush 45, 2) := by decide +kernel
theorem dX12_sumSign_13 : decode cX12_sumSign 13 = .ok (.if_icmp .ne 7, 3) := by decide +kernel
theorem dX12_sumSign_16 : decode cX12_sumSign 16 = .ok (.iconst 3, 1) := by decide +kernel
theorem dX12_sumSign_17 : decode cX12_sumSign 17 = .ok (.goto 35, 3) := by decide +kernel
theorem dX12_sumSign_20 : decode cX12_sumSign 20 = .ok (.iload_n 0, 1) := by decide +kernel
theorem dX12_sumSign_21 : decode cX12_sumSign 21 = .ok (.bipush 42, 2) := by decide +kernel
theorem dX12_sumSign_23 : decode cX12_sumSign 23 = .ok (.if_icmp .ne 7, 3) := by decide +kernel
theorem dX12_sumSign_26 : decode cX12_sumSign 26 = .ok (.iconst 4, 1) := by decide +kernel
theorem dX12_sumSign_27 : decode cX12_sumSign 27 = .ok (.goto 25, 3) := by decide +kernel
theorem dX12_sumSign_30 : decode cX12_sumSign 30 = .ok (.iload_n 0, 1) := by decide +kernel
theorem dX12_sumSign_31 : decode cX12_sumSign 31 = .ok (.bipush 47, 2) := by decide +kernel
theorem dX12_sumSign_33 : decode cX12_sumSign 33 = .ok (.if_icmp .ne 7, 3) := by decide +kernel
theorem dX12_sumSign_36 : decode cX12_sumSign 36 = .ok (.iconst 5, 1) := by decide +kernel
theorem dX12_sumSign_37 : decode cX12_sumSign 37 = .ok (.goto 15, 3) := by decide +kernel
theorem dX12_sumSign_40 : decode cX12_sumSign 40 = .ok (.iload_n 0, 1) := by decide +kernel
theorem dX12_sumSign_41 : decode cX12_sumSign 41 = .ok (.bipush 37, 2) := by decide +kernel
theorem dX12_sumSign_43 : decode cX12_sumSign 43 = .ok (.if_icmp .ne 8, 3) := by decide +kernel
theorem dX12_sumSign_46 : decode cX12_sumSign 46 = .ok (.bipush 6, 2) := by decide +kernel
theorem dX12_sumSign_48 : decode cX12_sumSign 48 = .ok (.goto 4, 3) := by decide +kernel
theorem dX12_sumSign_51 : decode cX12_sumSign 51 = .ok (.iconst (-1), 1) := by decide +kernel
theorem dX12_sumSign_52 : decode cX12_sumSign 52 = .ok (.ireturn, 1) := by decide +kernel
set_option maxRecDepth 100000 in
set_option maxHeartbeats 4000000 in
theorem c_X12_sumSign {l : Launch} {D : q_D} (τ : q_T) (σ : q_V) (x0 : Int32) (hI : q_I τ σ) : q_Cp l D yX12_sumSign cX12_sumSign 1 (some .int) 0 0 τ σ [.int x0] (fun r => (q_r r (-1) 6) ∧ (r.toInt = f_X12_sumSign (fx_N σ) x0.toInt) ∧ (r.toInt = -1 ∨ (2 ≤ r.toInt ∧ 0 ≤ x0.toInt))) := by
  refine q_meti rfl (Nat.le_of_ble_eq_true rfl) (fun X hG hE => ?_)
  show q_O X 0 0 τ σ 0 [(0, .int x0)] []
  obtain ⟨Fv, hF⟩ : ∃ z, fx_eq z (f_X12_sumSign (fx_N σ) x0.toInt) := ⟨_, fx_rf⟩
  have hF0 := hF
  unfold f_X12_sumSign at hF
  refine q_iload_n (pc := 0) hG dX12_sumSign_0 0 rfl ?_
  refine q_bipush (pc := 1) hG dX12_sumSign_1 kb_43 ?_
  refine q_icmp_ne (pc := 3) hG 10 dX12_sumSign_3 rfl ?_ ?_
  · intro c3
    replace hF := fx_eq2 hF rfl tl_43 c3
    refine q_iload_n (pc := 10) hG dX12_sumSign_10 0 rfl ?_
    refine q_bipush (pc := 11) hG dX12_sumSign_11 kb_45 ?_
    refine q_icmp_ne (pc := 13) hG 20 dX12_sumSign_13 rfl ?_ ?_
    · intro c13
      replace hF := fx_eq2 hF rfl tl_45 c13
      refine q_iload_n (pc := 20) hG dX12_sumSign_20 0 rfl ?_
      refine q_bipush (pc := 21) hG dX12_sumSign_21 kb_42 ?_
      refine q_icmp_ne (pc := 23) hG 30 dX12_sumSign_23 rfl ?_ ?_
      · intro c23
        replace hF := fx_eq2 hF rfl tl_42 c23
        refine q_iload_n (pc := 30) hG dX12_sumSign_30 0 rfl ?_
        refine q_bipush (pc := 31) hG dX12_sumSign_31 kb_47 ?_
        refine q_icmp_ne (pc := 33) hG 40 dX12_sumSign_33 rfl ?_ ?_
        · intro c33
          replace hF := fx_eq2 hF rfl tl_47 c33
          refine q_iload_n (pc := 40) hG dX12_sumSign_40 0 rfl ?_
          refine q_bipush (pc := 41) hG dX12_sumSign_41 kb_37 ?_
          refine q_icmp_ne (pc := 43) hG 51 dX12_sumSign_43 rfl ?_ ?_
          · intro c43
            replace hF := fx_eq2 hF rfl tl_37 c43
            refine q_iconst (pc := 51) hG dX12_sumSign_51 ki_m1 ?_
            exact q_irt hG hE dX12_sumSign_52 ⟨rfl, (q_r.mono rl_m1 (by decide)), (by rw [tl_m1]; exact fx_end hF hF0), (by have o0 := c3; have o1 := c13; have o2 := c23; have o3 := c33; have o4 := c43; have l5 := tl_m1; have l6 := tl_37; have l7 := tl_42; have l8 := tl_43; have l9 := tl_45; have l10 := tl_47; omega)⟩
          intro c43
          replace hF := fx_eq1 hF rfl tl_37 c43
          refine q_bipush (pc := 46) hG dX12_sumSign_46 kb_6 ?_
          refine q_goto (pc := 48) 52 hG dX12_sumSign_48 rfl ?_
          have r_1 := q_req rl_37 c43
          exact q_irt hG hE dX12_sumSign_52 ⟨rfl, (q_r.mono rl_6 (by decide)), (by rw [tl_6]; exact fx_end hF hF0), (by have o0 := c3; have o1 := c13; have o2 := c23; have o3 := c33; have o4 := c43; have o5 := r_1; have l6 := tl_6; have l7 := tl_37; have l8 := tl_42; have l9 := tl_43; have l10 := tl_45; have l11 := tl_47; unfold q_r at o5; omega)⟩
        intro c33
        replace hF := fx_eq1 hF rfl tl_47 c33
        refine q_iconst (pc := 36) hG dX12_sumSign_36 ki_5 ?_
        refine q_goto (pc := 37) 52 hG dX12_sumSign_37 rfl ?_
        have r_2 := q_req rl_47 c33
        exact q_irt hG hE dX12_sumSign_52 ⟨rfl, (q_r.mono rl_5 (by decide)), (by rw [tl_5]; exact fx_end hF hF0), (by have o0 := c3; have o1 := c13; have o2 := c23; have o3 := c33; have o4 := r_2; have l5 := tl_5; have l6 := tl_42; have l7 := tl_43; have l8 := tl_45; have l9 := tl_47; unfold q_r at o4; omega)⟩
      intro c23
      replace hF := fx_eq1 hF rfl tl_42 c23
      refine q_iconst (pc := 26) hG dX12_sumSign_26 ki_4 ?_
      refine q_goto (pc := 27) 52 hG dX12_sumSign_27 rfl ?_
      have r_3 := q_req rl_42 c23
      exact q_irt hG hE dX12_sumSign_52 ⟨rfl, (q_r.mono rl_4 (by decide)), (by rw [tl_4]; exact fx_end hF hF0), (by have o0 := c3; have o1 := c13; have o2 := c23; have o3 := r_3; have l4 := tl_4; have l5 := tl_42; have l6 := tl_43; have l7 := tl_45; unfold q_r at o3; omega)⟩
    intro c13
    replace hF := fx_eq1 hF rfl tl_45 c13
    refine q_iconst (pc := 16) hG dX12_sumSign_16 ki_3 ?_
    refine q_goto (pc := 17) 52 hG dX12_sumSign_17 rfl ?_
    have r_4 := q_req rl_45 c13
    exact q_irt hG hE dX12_sumSign_52 ⟨rfl, (q_r.mono rl_3 (by decide)), (by rw [tl_3]; exact fx_end hF hF0), (by have o0 := c3; have o1 := c13; have o2 := r_4; have l3 := tl_3; have l4 := tl_43; have l5 := tl_45; unfold q_r at o2; omega)⟩
  intro c3
  replace hF := fx_eq1 hF rfl tl_43 c3
  refine q_iconst (pc := 6) hG dX12_sumSign_6 ki_2 ?_
  refine q_goto (pc := 7) 52 hG dX12_sumSign_7 rfl ?_
  have r_5 := q_req rl_43 c3
  exact q_irt hG hE dX12_sumSign_52 ⟨rfl, (q_r.mono rl_2 (by decide)), (by rw [tl_2]; exact fx_end hF hF0), (by have o0 := c3; have o1 := r_5; have l2 := tl_2; have l3 := tl_43; unfold q_r at o1; omega)⟩
theorem dX12_isClause_0 : decode cX12_isClause 0 = .ok (.iload_n 0, 1) := by decide +kernel
theorem dX12_isClause_1 : decode cX12_isClause 1 = .ok (.bipush 112, 2) := by decide +kernel
theorem dX12_isClause_3 : decode cX12_isClause 3 = .ok (.if_icmp .eq 27, 3) := by decide +kernel
theorem dX12_isClause_6 : decode cX12_isClause 6 = .ok (.iload_n 0, 1) := by decide +kernel
theorem dX12_isClause_7 : decode cX12_isClause 7 = .ok (.bipush 100, 2) := by decide +kernel
theorem dX12_isClause_9 : decode cX12_isClause 9 = .ok (.if_icmp .eq 21, 3) := by decide +kernel
theorem dX12_isClause_12 : decode cX12_isClause 12 = .ok (.iload_n 0, 1) := by decide +kernel
theorem dX12_isClause_13 : decode cX12_isClause 13 = .ok (.bipush 115, 2) := by decide +kernel
theorem dX12_isClause_15 : decode cX12_isClause 15 = .ok (.if_icmp .eq 15, 3) := by decide +kernel
theorem dX12_isClause_18 : decode cX12_isClause 18 = .ok (.iload_n 0, 1) := by decide +kernel
theorem dX12_isClause_19 : decode cX12_isClause 19 = .ok (.bipush 111, 2) := by decide +kernel
theorem dX12_isClause_21 : decode cX12_isClause 21 = .ok (.if_icmp .eq 9, 3) := by decide +kernel
theorem dX12_isClause_24 : decode cX12_isClause 24 = .ok (.iload_n 0, 1) := by decide +kernel
theorem dX12_isClause_25 : decode cX12_isClause 25 = .ok (.bipush 108, 2) := by decide +kernel
theorem dX12_isClause_27 : decode cX12_isClause 27 = .ok (.if_icmp .ne 7, 3) := by decide +kernel
theorem dX12_isClause_30 : decode cX12_isClause 30 = .ok (.iconst 1, 1) := by decide +kernel
theorem dX12_isClause_31 : decode cX12_isClause 31 = .ok (.goto 4, 3) := by decide +kernel
theorem dX12_isClause_34 : decode cX12_isClause 34 = .ok (.iconst 0, 1) := by decide +kernel
theorem dX12_isClause_35 : decode cX12_isClause 35 = .ok (.ireturn, 1) := by decide +kernel
set_option maxRecDepth 100000 in
set_option maxHeartbeats 4000000 in
theorem c_X12_isClause {l : Launch} {D : q_D} (τ : q_T) (σ : q_V) (x0 : Int32) (hI : q_I τ σ) : q_Cp l D yX12_isClause cX12_isClause 1 (some .boolean) 0 0 τ σ [.int x0] (fun r => (q_r r 0 1) ∧ (r.toInt = f_X12_isClause (fx_N σ) x0.toInt) ∧ (r.toInt = 0 ∨ 0 ≤ x0.toInt)) := by
  refine q_meti rfl (Nat.le_of_ble_eq_true rfl) (fun X hG hE => ?_)
  show q_O X 0 0 τ σ 0 [(0, .int x0)] []
  obtain ⟨Fv, hF⟩ : ∃ z, fx_eq z (f_X12_isClause (fx_N σ) x0.toInt) := ⟨_, fx_rf⟩
  have hF0 := hF
  unfold f_X12_isClause at hF
  refine q_iload_n (pc := 0) hG dX12_isClause_0 0 rfl ?_
  refine q_bipush (pc := 1) hG dX12_isClause_1 kb_112 ?_
  refine q_icmp_eq (pc := 3) hG 30 dX12_isClause_3 rfl ?_ ?_
  · intro c3
    replace hF := fx_eq1 hF rfl tl_112 c3
    refine q_iconst (pc := 30) hG dX12_isClause_30 ki_1 ?_
    refine q_goto (pc := 31) 35 hG dX12_isClause_31 rfl ?_
    have r_1 := q_req rl_112 c3
    exact q_zrt hG hE dX12_isClause_35 (q_r.mono rl_1 (by decide)) ⟨rfl, (q_r.mono rl_1 (by decide)), (by rw [tl_1]; exact fx_end hF hF0), (by have o0 := c3; have o1 := r_1; have l2 := tl_1; have l3 := tl_112; unfold q_r at o1; omega)⟩
  intro c3
  replace hF := fx_eq2 hF rfl tl_112 c3
  refine q_iload_n (pc := 6) hG dX12_isClause_6 0 rfl ?_
  refine q_bipush (pc := 7) hG dX12_isClause_7 kb_100 ?_
  refine q_icmp_eq (pc := 9) hG 30 dX12_isClause_9 rfl ?_ ?_
  · intro c9
    replace hF := fx_eq1 hF rfl tl_100 c9
    refine q_iconst (pc := 30) hG dX12_isClause_30 ki_1 ?_
    refine q_goto (pc := 31) 35 hG dX12_isClause_31 rfl ?_
    have r_2 := q_req rl_100 c9
    exact q_zrt hG hE dX12_isClause_35 (q_r.mono rl_1 (by decide)) ⟨rfl, (q_r.mono rl_1 (by decide)), (by rw [tl_1]; exact fx_end hF hF0), (by have o0 := c3; have o1 := c9; have o2 := r_2; have l3 := tl_1; have l4 := tl_100; have l5 := tl_112; unfold q_r at o2; omega)⟩
  intro c9
  replace hF := fx_eq2 hF rfl tl_100 c9
  refine q_iload_n (pc := 12) hG dX12_isClause_12 0 rfl ?_
  refine q_bipush (pc := 13) hG dX12_isClause_13 kb_115 ?_
  refine q_icmp_eq (pc := 15) hG 30 dX12_isClause_15 rfl ?_ ?_
  · intro c15
    replace hF := fx_eq1 hF rfl tl_115 c15
    refine q_iconst (pc := 30) hG dX12_isClause_30 ki_1 ?_
    refine q_goto (pc := 31) 35 hG dX12_isClause_31 rfl ?_
    have r_3 := q_req rl_115 c15
    exact q_zrt hG hE dX12_isClause_35 (q_r.mono rl_1 (by decide)) ⟨rfl, (q_r.mono rl_1 (by decide)), (by rw [tl_1]; exact fx_end hF hF0), (by have o0 := c3; have o1 := c9; have o2 := c15; have o3 := r_3; have l4 := tl_1; have l5 := tl_100; have l6 := tl_112; have l7 := tl_115; unfold q_r at o3; omega)⟩
  intro c15
  replace hF := fx_eq2 hF rfl tl_115 c15
  refine q_iload_n (pc := 18) hG dX12_isClause_18 0 rfl ?_
  refine q_bipush (pc := 19) hG dX12_isClause_19 kb_111 ?_
  refine q_icmp_eq (pc := 21) hG 30 dX12_isClause_21 rfl ?_ ?_
  · intro c21
    replace hF := fx_eq1 hF rfl tl_111 c21
    refine q_iconst (pc := 30) hG dX12_isClause_30 ki_1 ?_
    refine q_goto (pc := 31) 35 hG dX12_isClause_31 rfl ?_
    have r_4 := q_req rl_111 c21
    exact q_zrt hG hE dX12_isClause_35 (q_r.mono rl_1 (by decide)) ⟨rfl, (q_r.mono rl_1 (by decide)), (by rw [tl_1]; exact fx_end hF hF0), (by have o0 := c3; have o1 := c9; have o2 := c15; have o3 := c21; have o4 := r_4; have l5 := tl_1; have l6 := tl_100; have l7 := tl_111; have l8 := tl_112; have l9 := tl_115; unfold q_r at o4; omega)⟩
  intro c21
  replace hF := fx_eq2 hF rfl tl_111 c21
  refine q_iload_n (pc := 24) hG dX12_isClause_24 0 rfl ?_
  refine q_bipush (pc := 25) hG dX12_isClause_25 kb_108 ?_
  refine q_icmp_ne (pc := 27) hG 34 dX12_isClause_27 rfl ?_ ?_
  · intro c27
    replace hF := fx_eq2 hF rfl tl_108 c27
    refine q_iconst (pc := 34) hG dX12_isClause_34 ki_0 ?_
    exact q_zrt hG hE dX12_isClause_35 (q_r.mono rl_0 (by decide)) ⟨rfl, (q_r.mono rl_0 (by decide)), (by rw [tl_0]; exact fx_end hF hF0), (by have o0 := c3; have o1 := c9; have o2 := c15; have o3 := c21; have o4 := c27; have l5 := tl_0; have l6 := tl_100; have l7 := tl_108; have l8 := tl_111; have l9 := tl_112; have l10 := tl_115; omega)⟩
  intro c27
  replace hF := fx_eq1 hF rfl tl_108 c27
  refine q_iconst (pc := 30) hG dX12_isClause_30 ki_1 ?_
  refine q_goto (pc := 31) 35 hG dX12_isClause_31 rfl ?_
  have r_5 := q_req rl_108 c27
  exact q_zrt hG hE dX12_isClause_35 (q_r.mono rl_1 (by decide)) ⟨rfl, (q_r.mono rl_1 (by decide)), (by rw [tl_1]; exact fx_end hF hF0), (by have o0 := c3; have o1 := c9; have o2 := c15; have o3 := c21; have o4 := c27; have o5 := r_5; have l6 := tl_1; have l7 := tl_100; have l8 := tl_108; have l9 := tl_111; have l10 := tl_112; have l11 := tl_115; unfold q_r at o5; omega)⟩
