/-! laid by wip/p2/build.py -/
theorem dX12_in_0 : decode cX12_in 0 = .ok (.iload_n 0, 1) := by decide +kernel
theorem dX12_in_1 : decode cX12_in 1 = .ok (.iload_n 1, 1) := by decide +kernel
theorem dX12_in_2 : decode cX12_in 2 = .ok (.if_icmp .lt 12, 3) := by decide +kernel
theorem dX12_in_5 : decode cX12_in 5 = .ok (.iload_n 0, 1) := by decide +kernel
theorem dX12_in_6 : decode cX12_in 6 = .ok (.iload_n 2, 1) := by decide +kernel
theorem dX12_in_7 : decode cX12_in 7 = .ok (.if_icmp .gt 7, 3) := by decide +kernel
theorem dX12_in_10 : decode cX12_in 10 = .ok (.iconst 1, 1) := by decide +kernel
theorem dX12_in_11 : decode cX12_in 11 = .ok (.goto 4, 3) := by decide +kernel
theorem dX12_in_14 : decode cX12_in 14 = .ok (.iconst 0, 1) := by decide +kernel
theorem dX12_in_15 : decode cX12_in 15 = .ok (.ireturn, 1) := by decide +kernel
set_option maxRecDepth 100000 in
set_option maxHeartbeats 4000000 in
theorem c_X12_in {l : Launch} {D : q_D} (τ : q_T) (σ : q_V) (x0 : Int32) (x1 : Int32) (x2 : Int32) (hI : q_I τ σ) : q_Cp l D yX12_in cX12_in 3 (some .boolean) 0 0 τ σ [.int x0, .int x1, .int x2] (fun r => (q_r r 0 1) ∧ (r.toInt = 1 ↔ (x1.toInt ≤ x0.toInt ∧ x0.toInt ≤ x2.toInt))) := by
  refine q_meti rfl (Nat.le_of_ble_eq_true rfl) (fun X hG hE => ?_)
  show q_O X 0 0 τ σ 0 [(0, .int x0), (1, .int x1), (2, .int x2)] []
  refine q_iload_n (pc := 0) hG dX12_in_0 0 rfl ?_
  refine q_iload_n (pc := 1) hG dX12_in_1 1 rfl ?_
  refine q_icmp_lt (pc := 2) hG 14 dX12_in_2 rfl ?_ ?_
  · intro c2
    refine q_iconst (pc := 14) hG dX12_in_14 ki_0 ?_
    have r_1 := q_rlt (q_r_any x0) (q_r_any x1) c2 2147483646 (by decide)
    have r_2 := q_rgt (q_r_any x1) (q_r_any x0) c2 (-2147483647) (by decide)
    exact q_zrt hG hE dX12_in_15 (q_r.mono rl_0 (by decide)) ⟨rfl, (q_r.mono rl_0 (by decide)), (by have o0 := c2; have o1 := r_1; have o2 := r_2; have l3 := tl_0; unfold q_r at o1 o2; omega)⟩
  intro c2
  refine q_iload_n (pc := 5) hG dX12_in_5 0 rfl ?_
  refine q_iload_n (pc := 6) hG dX12_in_6 2 rfl ?_
  refine q_icmp_gt (pc := 7) hG 14 dX12_in_7 rfl ?_ ?_
  · intro c7
    refine q_iconst (pc := 14) hG dX12_in_14 ki_0 ?_
    have r_3 := q_rgt (q_r_any x0) (q_r_any x2) c7 (-2147483647) (by decide)
    have r_4 := q_rlt (q_r_any x2) (q_r_any x0) c7 2147483646 (by decide)
    exact q_zrt hG hE dX12_in_15 (q_r.mono rl_0 (by decide)) ⟨rfl, (q_r.mono rl_0 (by decide)), (by have o0 := c2; have o1 := c7; have o2 := r_3; have o3 := r_4; have l4 := tl_0; unfold q_r at o2 o3; omega)⟩
  intro c7
  refine q_iconst (pc := 10) hG dX12_in_10 ki_1 ?_
  refine q_goto (pc := 11) 15 hG dX12_in_11 rfl ?_
  exact q_zrt hG hE dX12_in_15 (q_r.mono rl_1 (by decide)) ⟨rfl, (q_r.mono rl_1 (by decide)), (by have o0 := c2; have o1 := c7; have l2 := tl_1; omega)⟩
theorem dX12_min_0 : decode cX12_min 0 = .ok (.iload_n 0, 1) := by decide +kernel
theorem dX12_min_1 : decode cX12_min 1 = .ok (.iload_n 1, 1) := by decide +kernel
theorem dX12_min_2 : decode cX12_min 2 = .ok (.if_icmp .ge 7, 3) := by decide +kernel
theorem dX12_min_5 : decode cX12_min 5 = .ok (.iload_n 0, 1) := by decide +kernel
theorem dX12_min_6 : decode cX12_min 6 = .ok (.goto 4, 3) := by decide +kernel
theorem dX12_min_9 : decode cX12_min 9 = .ok (.iload_n 1, 1) := by decide +kernel
theorem dX12_min_10 : decode cX12_min 10 = .ok (.ireturn, 1) := by decide +kernel
set_option maxRecDepth 100000 in
set_option maxHeartbeats 4000000 in
theorem c_X12_min {l : Launch} {D : q_D} (τ : q_T) (σ : q_V) (x0 : Int32) (x1 : Int32) (hI : q_I τ σ) : q_Cp l D yX12_min cX12_min 2 (some .int) 0 0 τ σ [.int x0, .int x1] (fun r => (q_r r (-2147483648) 2147483647) ∧ ((r.toInt ≤ x0.toInt ∧ r.toInt ≤ x1.toInt) ∧ (r.toInt = x0.toInt ∨ r.toInt = x1.toInt))) := by
  refine q_meti rfl (Nat.le_of_ble_eq_true rfl) (fun X hG hE => ?_)
  show q_O X 0 0 τ σ 0 [(0, .int x0), (1, .int x1)] []
  refine q_iload_n (pc := 0) hG dX12_min_0 0 rfl ?_
  refine q_iload_n (pc := 1) hG dX12_min_1 1 rfl ?_
  refine q_icmp_ge (pc := 2) hG 9 dX12_min_2 rfl ?_ ?_
  · intro c2
    refine q_iload_n (pc := 9) hG dX12_min_9 1 rfl ?_
    exact q_irt hG hE dX12_min_10 ⟨rfl, (q_r_any x1), (by have o0 := c2; omega)⟩
  intro c2
  refine q_iload_n (pc := 5) hG dX12_min_5 0 rfl ?_
  refine q_goto (pc := 6) 10 hG dX12_min_6 rfl ?_
  have r_1 := q_rlt (q_r_any x0) (q_r_any x1) c2 2147483646 (by decide)
  have r_2 := q_rgt (q_r_any x1) (q_r_any x0) c2 (-2147483647) (by decide)
  exact q_irt hG hE dX12_min_10 ⟨rfl, (q_r.mono r_1 (by decide)), (by have o0 := c2; have o1 := r_1; have o2 := r_2; unfold q_r at o1 o2; omega)⟩
theorem dX12_max_0 : decode cX12_max 0 = .ok (.iload_n 0, 1) := by decide +kernel
theorem dX12_max_1 : decode cX12_max 1 = .ok (.iload_n 1, 1) := by decide +kernel
theorem dX12_max_2 : decode cX12_max 2 = .ok (.if_icmp .le 7, 3) := by decide +kernel
theorem dX12_max_5 : decode cX12_max 5 = .ok (.iload_n 0, 1) := by decide +kernel
theorem dX12_max_6 : decode cX12_max 6 = .ok (.goto 4, 3) := by decide +kernel
theorem dX12_max_9 : decode cX12_max 9 = .ok (.iload_n 1, 1) := by decide +kernel
theorem dX12_max_10 : decode cX12_max 10 = .ok (.ireturn, 1) := by decide +kernel
set_option maxRecDepth 100000 in
set_option maxHeartbeats 4000000 in
theorem c_X12_max {l : Launch} {D : q_D} (τ : q_T) (σ : q_V) (x0 : Int32) (x1 : Int32) (hI : q_I τ σ) : q_Cp l D yX12_max cX12_max 2 (some .int) 0 0 τ σ [.int x0, .int x1] (fun r => (q_r r (-2147483648) 2147483647) ∧ ((x0.toInt ≤ r.toInt ∧ x1.toInt ≤ r.toInt) ∧ (r.toInt = x0.toInt ∨ r.toInt = x1.toInt))) := by
  refine q_meti rfl (Nat.le_of_ble_eq_true rfl) (fun X hG hE => ?_)
  show q_O X 0 0 τ σ 0 [(0, .int x0), (1, .int x1)] []
  refine q_iload_n (pc := 0) hG dX12_max_0 0 rfl ?_
  refine q_iload_n (pc := 1) hG dX12_max_1 1 rfl ?_
  refine q_icmp_le (pc := 2) hG 9 dX12_max_2 rfl ?_ ?_
  · intro c2
    refine q_iload_n (pc := 9) hG dX12_max_9 1 rfl ?_
    exact q_irt hG hE dX12_max_10 ⟨rfl, (q_r_any x1), (by have o0 := c2; omega)⟩
  intro c2
  refine q_iload_n (pc := 5) hG dX12_max_5 0 rfl ?_
  refine q_goto (pc := 6) 10 hG dX12_max_6 rfl ?_
  have r_1 := q_rgt (q_r_any x0) (q_r_any x1) c2 (-2147483647) (by decide)
  have r_2 := q_rlt (q_r_any x1) (q_r_any x0) c2 2147483646 (by decide)
  exact q_irt hG hE dX12_max_10 ⟨rfl, (q_r.mono r_1 (by decide)), (by have o0 := c2; have o1 := r_1; have o2 := r_2; unfold q_r at o1 o2; omega)⟩
theorem dX12_size_0 : decode cX12_size 0 = .ok (.iload_n 0, 1) := by decide +kernel
theorem dX12_size_1 : decode cX12_size 1 = .ok (.ifCond .ge 8, 3) := by decide +kernel
theorem dX12_size_4 : decode cX12_size 4 = .ok (.iload_n 0, 1) := by decide +kernel
theorem dX12_size_5 : decode cX12_size 5 = .ok (.ineg, 1) := by decide +kernel
theorem dX12_size_6 : decode cX12_size 6 = .ok (.goto 4, 3) := by decide +kernel
theorem dX12_size_9 : decode cX12_size 9 = .ok (.iload_n 0, 1) := by decide +kernel
theorem dX12_size_10 : decode cX12_size 10 = .ok (.ireturn, 1) := by decide +kernel
set_option maxRecDepth 100000 in
set_option maxHeartbeats 4000000 in
theorem c_X12_size {l : Launch} {D : q_D} (τ : q_T) (σ : q_V) (x0 : Int32) (hI : q_I τ σ) : q_Cp l D yX12_size cX12_size 1 (some .int) 0 0 τ σ [.int x0] (fun r => (q_r r (-2147483648) 2147483647) ∧ (-2147483648 < x0.toInt → (r.toInt = x0.toInt ∨ r.toInt = -x0.toInt) ∧ 0 ≤ r.toInt)) := by
  refine q_meti rfl (Nat.le_of_ble_eq_true rfl) (fun X hG hE => ?_)
  show q_O X 0 0 τ σ 0 [(0, .int x0)] []
  refine q_iload_n (pc := 0) hG dX12_size_0 0 rfl ?_
  refine q_if_ge (pc := 1) hG 9 dX12_size_1 rfl ?_ ?_
  · intro c1
    refine q_iload_n (pc := 9) hG dX12_size_9 0 rfl ?_
    have r_1 := q_zge (q_r_any x0) c1
    exact q_irt hG hE dX12_size_10 ⟨rfl, (q_r.mono r_1 (by decide)), (fun _ => (by have o0 := c1; have o1 := r_1; unfold q_r at o1; omega))⟩
  intro c1
  refine q_iload_n (pc := 4) hG dX12_size_4 0 rfl ?_
  refine q_ineg (pc := 5) hG dX12_size_5 (fun v5 e5 => ?_)
  refine q_goto (pc := 6) 10 hG dX12_size_6 rfl ?_
  exact q_irt hG hE dX12_size_10 ⟨rfl, (q_r_any v5), (fun q => by have q2 := q_negN (lo := -2147483647) (hi := 2147483647) e5 (show q_r x0 (-2147483647) 2147483647 from ⟨by omega, (q_r_any x0).2⟩) (by decide); omega)⟩
theorem dX12_wrongAt_0 : decode cX12_wrongAt 0 = .ok (.aload_n 0, 1) := by decide +kernel
theorem dX12_wrongAt_1 : decode cX12_wrongAt 1 = .ok (.sipush (-1000), 3) := by decide +kernel
theorem dX12_wrongAt_4 : decode cX12_wrongAt 4 = .ok (.iload_n 1, 1) := by decide +kernel
theorem dX12_wrongAt_5 : decode cX12_wrongAt 5 = .ok (.imul, 1) := by decide +kernel
theorem dX12_wrongAt_6 : decode cX12_wrongAt 6 = .ok (.iload_n 2, 1) := by decide +kernel
theorem dX12_wrongAt_7 : decode cX12_wrongAt 7 = .ok (.isub, 1) := by decide +kernel
theorem dX12_wrongAt_8 : decode cX12_wrongAt 8 = .ok (.putfield 136, 3) := by decide +kernel
theorem dX12_wrongAt_11 : decode cX12_wrongAt 11 = .ok (.iconst 0, 1) := by decide +kernel
theorem dX12_wrongAt_12 : decode cX12_wrongAt 12 = .ok (.ireturn, 1) := by decide +kernel
def md_X12_wrongAt : List (Nat × Nat) := [(10, 7)]
set_option maxRecDepth 100000 in
set_option maxHeartbeats 4000000 in
theorem c_X12_wrongAt {l : Launch} {D : q_D} (τ : q_T) (σ : q_V) (a0 : Nat) (x1 : Int32) (x2 : Int32) (hI : q_I τ σ) (tA0 : τ a0 = some (10, 1)) : q_Ci l D yX12_wrongAt cX12_wrongAt 3 (some .boolean) 0 0 τ σ [.ref a0, .int x1, .int x2] (fun r σ1 => q_S md_X12_wrongAt τ σ σ1 ∧ (q_r r 0 0)) := by
  refine q_meti rfl (Nat.le_of_ble_eq_true rfl) (fun X hG hE => ?_)
  show q_O X 0 0 τ σ 0 [(0, .ref a0), (1, .int x1), (2, .int x2)] []
  have hS0 : q_S md_X12_wrongAt τ σ σ := q_S.rf hI
  refine q_aload_n (pc := 0) hG dX12_wrongAt_0 0 rfl ?_
  refine q_sipush (pc := 1) hG dX12_wrongAt_1 ks_m1000 ?_
  refine q_iload_n (pc := 4) hG dX12_wrongAt_4 1 rfl ?_
  refine q_imul (pc := 5) hG dX12_wrongAt_5 (fun v5 e5 => ?_)
  refine q_iload_n (pc := 6) hG dX12_wrongAt_6 2 rfl ?_
  refine q_isub (pc := 7) hG dX12_wrongAt_7 (fun v7 e7 => ?_)
  refine q_putI (pc := 8) hG fl_X12_136 dX12_wrongAt_8 hS0 tA0 ff_10_7 (q_r_any v7) (by decide) rfl (fun s8 u8 w8 => ?_)
  have m8 : s8 a0 7 = .int v7 := by rw [u8]; exact q_up_same
  refine q_iconst (pc := 11) hG dX12_wrongAt_11 ki_0 ?_
  exact q_zrt hG hE dX12_wrongAt_12 (q_r.mono rl_0 (by decide)) ⟨w8, rl_0⟩
