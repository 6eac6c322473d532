/-! laid by wip/p2/build.py -/
theorem dX1_nearest_0 : decode cX1_nearest 0 = .ok (.iload_n 0, 1) := by decide +kernel
theorem dX1_nearest_1 : decode cX1_nearest 1 = .ok (.iload_n 1, 1) := by decide +kernel
theorem dX1_nearest_2 : decode cX1_nearest 2 = .ok (.iload_n 2, 1) := by decide +kernel
theorem dX1_nearest_3 : decode cX1_nearest 3 = .ok (.isub, 1) := by decide +kernel
theorem dX1_nearest_4 : decode cX1_nearest 4 = .ok (.iload_n 1, 1) := by decide +kernel
theorem dX1_nearest_5 : decode cX1_nearest 5 = .ok (.iload_n 2, 1) := by decide +kernel
theorem dX1_nearest_6 : decode cX1_nearest 6 = .ok (.iadd, 1) := by decide +kernel
theorem dX1_nearest_7 : decode cX1_nearest 7 = .ok (.invokestatic 56, 3) := by decide +kernel
theorem dX1_nearest_10 : decode cX1_nearest 10 = .ok (.ireturn, 1) := by decide +kernel
set_option maxRecDepth 100000 in
set_option maxHeartbeats 4000000 in
theorem c_X1_nearest {l : Launch} {D : q_D} (τ : q_T) (σ : q_V) (x0 : Int32) (x1 : Int32) (x2 : Int32) (hI : q_I τ σ) (rA0 : q_r x0 0 60) (rA1 : q_r x1 0 60) (rA2 : q_r x2 0 9) : q_Cp l D yX1_nearest cX1_nearest 3 (some .int) 2 43 τ σ [.int x0, .int x1, .int x2] (fun r => q_r r 0 60) := by
  refine q_meti rfl (Nat.le_of_ble_eq_true rfl) (fun X hG hE => ?_)
  show q_O X 0 0 τ σ 0 [(0, .int x0), (1, .int x1), (2, .int x2)] []
  refine q_iload_n (pc := 0) hG dX1_nearest_0 0 rfl ?_
  refine q_iload_n (pc := 1) hG dX1_nearest_1 1 rfl ?_
  refine q_iload_n (pc := 2) hG dX1_nearest_2 2 rfl ?_
  refine q_isub (pc := 3) hG dX1_nearest_3 (fun v3 e3 => ?_)
  refine q_iload_n (pc := 4) hG dX1_nearest_4 1 rfl ?_
  refine q_iload_n (pc := 5) hG dX1_nearest_5 2 rfl ?_
  refine q_iadd (pc := 6) hG dX1_nearest_6 (fun v6 e6 => ?_)
  refine q_pN (pc := 7) [.int x0, .int v3, .int v6] [] hG (c_X11_heldIn τ σ x0 v3 v6 hI) my_X11_heldIn w460 nw_15 dX1_nearest_7 rfl rfl (Nat.le_of_ble_eq_true rfl) (by decide) (fun v7 p7 => ?_)
  have r_1 := (q_subN (lo := (-9)) (hi := 60) e3 rA1 rA2 (by decide)).2
  have r_2 := (q_addN (lo := 0) (hi := 69) e6 rA1 rA2 (by decide)).2
  have r_3 := q_heldN (lo := 0) (hi := 60) p7.2.1 rA0 r_1 r_2 (by decide) p7.2.2
  exact q_irt hG hE dX1_nearest_10 ⟨rfl, r_3⟩
theorem dX1_lowestBest_0 : decode cX1_lowestBest 0 = .ok (.iconst 0, 1) := by decide +kernel
theorem dX1_lowestBest_1 : decode cX1_lowestBest 1 = .ok (.istore_n 1, 1) := by decide +kernel
theorem dX1_lowestBest_2 : decode cX1_lowestBest 2 = .ok (.iconst 1, 1) := by decide +kernel
theorem dX1_lowestBest_3 : decode cX1_lowestBest 3 = .ok (.istore_n 2, 1) := by decide +kernel
theorem dX1_lowestBest_4 : decode cX1_lowestBest 4 = .ok (.iload_n 2, 1) := by decide +kernel
theorem dX1_lowestBest_5 : decode cX1_lowestBest 5 = .ok (.bipush 61, 2) := by decide +kernel
theorem dX1_lowestBest_7 : decode cX1_lowestBest 7 = .ok (.if_icmp .ge 26, 3) := by decide +kernel
theorem dX1_lowestBest_10 : decode cX1_lowestBest 10 = .ok (.aload_n 0, 1) := by decide +kernel
theorem dX1_lowestBest_11 : decode cX1_lowestBest 11 = .ok (.getfield 11, 3) := by decide +kernel
theorem dX1_lowestBest_14 : decode cX1_lowestBest 14 = .ok (.iload_n 2, 1) := by decide +kernel
theorem dX1_lowestBest_15 : decode cX1_lowestBest 15 = .ok (.iaload, 1) := by decide +kernel
theorem dX1_lowestBest_16 : decode cX1_lowestBest 16 = .ok (.aload_n 0, 1) := by decide +kernel
theorem dX1_lowestBest_17 : decode cX1_lowestBest 17 = .ok (.getfield 11, 3) := by decide +kernel
theorem dX1_lowestBest_20 : decode cX1_lowestBest 20 = .ok (.iload_n 1, 1) := by decide +kernel
theorem dX1_lowestBest_21 : decode cX1_lowestBest 21 = .ok (.iaload, 1) := by decide +kernel
theorem dX1_lowestBest_22 : decode cX1_lowestBest 22 = .ok (.if_icmp .ge 5, 3) := by decide +kernel
theorem dX1_lowestBest_25 : decode cX1_lowestBest 25 = .ok (.iload_n 2, 1) := by decide +kernel
theorem dX1_lowestBest_26 : decode cX1_lowestBest 26 = .ok (.istore_n 1, 1) := by decide +kernel
theorem dX1_lowestBest_27 : decode cX1_lowestBest 27 = .ok (.iinc 2 1, 3) := by decide +kernel
theorem dX1_lowestBest_30 : decode cX1_lowestBest 30 = .ok (.goto (-26), 3) := by decide +kernel
theorem dX1_lowestBest_33 : decode cX1_lowestBest 33 = .ok (.iload_n 1, 1) := by decide +kernel
theorem dX1_lowestBest_34 : decode cX1_lowestBest 34 = .ok (.ireturn, 1) := by decide +kernel
set_option maxRecDepth 100000 in
set_option maxHeartbeats 4000000 in
theorem c_X1_lowestBest {l : Launch} {D : q_D} (τ : q_T) (σ : q_V) (a0 : Nat) (hI : q_I τ σ) (tA0 : τ a0 = some (1, 1)) : q_Cp l D yX1_lowestBest cX1_lowestBest 3 (some .int) 0 0 τ σ [.ref a0] (fun r => q_r r 0 60) := by
  refine q_meti rfl (Nat.le_of_ble_eq_true rfl) (fun X hG hE => ?_)
  show q_O X 0 0 τ σ 0 [(0, .ref a0)] []
  refine q_iconst (pc := 0) hG dX1_lowestBest_0 ki_0 ?_
  refine q_istore_n (pc := 1) [(1, .int 0), (0, .ref a0)] hG dX1_lowestBest_1 (by decide) rfl ?_
  refine q_iconst (pc := 2) hG dX1_lowestBest_2 ki_1 ?_
  refine q_istore_n (pc := 3) [(2, .int 1), (1, .int 0), (0, .ref a0)] hG dX1_lowestBest_3 (by decide) rfl ?_
  have J4 : ∀ (n4 : Nat) (p4_1 : Int32) (p4_2 : Int32), q_r p4_1 0 60 → q_r p4_2 1 61 → (61 - p4_2.toInt).toNat < n4 → q_O X 0 0 τ σ 4 [(0, .ref a0), (1, .int p4_1), (2, .int p4_2)] [] := by
    intro n4
    induction n4 with
    | zero => intro p4_1 p4_2 r4_1 r4_2 hm4; exact absurd hm4 (Nat.not_lt_zero _)
    | succ n4 ih4 =>
      intro p4_1 p4_2 r4_1 r4_2 hm4
      refine q_iload_n (pc := 4) hG dX1_lowestBest_4 2 rfl ?_
      refine q_bipush (pc := 5) hG dX1_lowestBest_5 kb_61 ?_
      refine q_icmp_ge (pc := 7) hG 33 dX1_lowestBest_7 rfl ?_ ?_
      · intro c7
        refine q_iload_n (pc := 33) hG dX1_lowestBest_33 1 rfl ?_
        exact q_irt hG hE dX1_lowestBest_34 ⟨rfl, r4_1⟩
      intro c7
      refine q_aload_n (pc := 10) hG dX1_lowestBest_10 0 rfl ?_
      refine q_getR (pc := 11) (k2 := 132) (n2 := 61) hG fl_X1_11 dX1_lowestBest_11 hI tA0 ff_1_0 (fun b11 f11 T11 => ?_)
      refine q_iload_n (pc := 14) hG dX1_lowestBest_14 2 rfl ?_
      have r_1 := q_rlt r4_2 rl_61 c7 60 (by decide)
      refine q_iald (pc := 15) hG dX1_lowestBest_15 hI ai_132 T11 (q_ix r_1 (by decide)) (fun v15 f15 g15 => ?_)
      refine q_aload_n (pc := 16) hG dX1_lowestBest_16 0 rfl ?_
      refine q_getV (pc := 17) (v := .ref b11) hG fl_X1_11 dX1_lowestBest_17 tA0 f11 ?_
      refine q_iload_n (pc := 20) hG dX1_lowestBest_20 1 rfl ?_
      refine q_iald (pc := 21) hG dX1_lowestBest_21 hI ai_132 T11 (q_ix r4_1 (by decide)) (fun v21 f21 g21 => ?_)
      have J27 : ∀ (p27_1 : Int32), q_r p27_1 0 60 → q_O X 0 0 τ σ 27 [(0, .ref a0), (1, .int p27_1), (2, .int p4_2)] [] := by
        intro p27_1 r27_1
        obtain ⟨v27, e27⟩ : ∃ z : Int32, z = p4_2 + Int32.ofInt 1 := ⟨_, rfl⟩
        have h27 := q_incN (lo := 2) (hi := 61) r_1 (by decide) (by decide) e27
        refine q_iinc (pc := 27) [(2, .int v27), (0, .ref a0), (1, .int p27_1)] hG dX1_lowestBest_27 2 rfl e27 (by decide) rfl ?_
        refine q_goto (pc := 30) 4 hG dX1_lowestBest_30 rfl ?_
        refine q_lv [1, 2, 0] rfl ?_
        exact ih4 p27_1 v27 r27_1 (q_r.mono h27.2 (by decide)) (q_measU hm4 (by have o0 := c7; have o1 := h27.1; have o2 := r_1; have o3 := h27.2; have l4 := tl_61; unfold q_r at o2 o3; omega) (h27.2).2)
      refine q_icmp_ge (pc := 22) hG 27 dX1_lowestBest_22 rfl ?_ ?_
      · intro c22
        refine q_lv [0, 1, 2] rfl ?_
        exact J27 p4_1 r4_1
      intro c22
      refine q_iload_n (pc := 25) hG dX1_lowestBest_25 2 rfl ?_
      refine q_istore_n (pc := 26) [(1, .int p4_2), (0, .ref a0), (2, .int p4_2)] hG dX1_lowestBest_26 (by decide) rfl ?_
      refine q_lv [1, 0, 2] rfl ?_
      exact J27 p4_2 (q_r.mono r_1 (by decide))
  refine q_lv [2, 1, 0] rfl ?_
  exact J4 _ 0 1 (q_r.mono rl_0 (by decide)) (q_r.mono rl_1 (by decide)) (Nat.lt_succ_self _)
theorem dX1_offAt_0 : decode cX1_offAt 0 = .ok (.iload_n 2, 1) := by decide +kernel
theorem dX1_offAt_1 : decode cX1_offAt 1 = .ok (.iload_n 1, 1) := by decide +kernel
theorem dX1_offAt_2 : decode cX1_offAt 2 = .ok (.if_icmp .gt 5, 3) := by decide +kernel
theorem dX1_offAt_5 : decode cX1_offAt 5 = .ok (.iconst 0, 1) := by decide +kernel
theorem dX1_offAt_6 : decode cX1_offAt 6 = .ok (.ireturn, 1) := by decide +kernel
theorem dX1_offAt_7 : decode cX1_offAt 7 = .ok (.aload_n 0, 1) := by decide +kernel
theorem dX1_offAt_8 : decode cX1_offAt 8 = .ok (.getfield 43, 3) := by decide +kernel
theorem dX1_offAt_11 : decode cX1_offAt 11 = .ok (.iload_n 2, 1) := by decide +kernel
theorem dX1_offAt_12 : decode cX1_offAt 12 = .ok (.iaload, 1) := by decide +kernel
theorem dX1_offAt_13 : decode cX1_offAt 13 = .ok (.aload_n 0, 1) := by decide +kernel
theorem dX1_offAt_14 : decode cX1_offAt 14 = .ok (.getfield 43, 3) := by decide +kernel
theorem dX1_offAt_17 : decode cX1_offAt 17 = .ok (.iload_n 1, 1) := by decide +kernel
theorem dX1_offAt_18 : decode cX1_offAt 18 = .ok (.iaload, 1) := by decide +kernel
theorem dX1_offAt_19 : decode cX1_offAt 19 = .ok (.isub, 1) := by decide +kernel
theorem dX1_offAt_20 : decode cX1_offAt 20 = .ok (.iload_n 3, 1) := by decide +kernel
theorem dX1_offAt_21 : decode cX1_offAt 21 = .ok (.iload_n 1, 1) := by decide +kernel
theorem dX1_offAt_22 : decode cX1_offAt 22 = .ok (.isub, 1) := by decide +kernel
theorem dX1_offAt_23 : decode cX1_offAt 23 = .ok (.imul, 1) := by decide +kernel
theorem dX1_offAt_24 : decode cX1_offAt 24 = .ok (.iload_n 2, 1) := by decide +kernel
theorem dX1_offAt_25 : decode cX1_offAt 25 = .ok (.iload_n 1, 1) := by decide +kernel
theorem dX1_offAt_26 : decode cX1_offAt 26 = .ok (.isub, 1) := by decide +kernel
theorem dX1_offAt_27 : decode cX1_offAt 27 = .ok (.idiv, 1) := by decide +kernel
theorem dX1_offAt_28 : decode cX1_offAt 28 = .ok (.istore 4, 2) := by decide +kernel
theorem dX1_offAt_30 : decode cX1_offAt 30 = .ok (.aload_n 0, 1) := by decide +kernel
theorem dX1_offAt_31 : decode cX1_offAt 31 = .ok (.getfield 43, 3) := by decide +kernel
theorem dX1_offAt_34 : decode cX1_offAt 34 = .ok (.iload_n 1, 1) := by decide +kernel
theorem dX1_offAt_35 : decode cX1_offAt 35 = .ok (.iaload, 1) := by decide +kernel
theorem dX1_offAt_36 : decode cX1_offAt 36 = .ok (.iload 4, 2) := by decide +kernel
theorem dX1_offAt_38 : decode cX1_offAt 38 = .ok (.iadd, 1) := by decide +kernel
theorem dX1_offAt_39 : decode cX1_offAt 39 = .ok (.aload_n 0, 1) := by decide +kernel
theorem dX1_offAt_40 : decode cX1_offAt 40 = .ok (.getfield 43, 3) := by decide +kernel
theorem dX1_offAt_43 : decode cX1_offAt 43 = .ok (.iload_n 3, 1) := by decide +kernel
theorem dX1_offAt_44 : decode cX1_offAt 44 = .ok (.iaload, 1) := by decide +kernel
theorem dX1_offAt_45 : decode cX1_offAt 45 = .ok (.isub, 1) := by decide +kernel
theorem dX1_offAt_46 : decode cX1_offAt 46 = .ok (.invokestatic 46, 3) := by decide +kernel
theorem dX1_offAt_49 : decode cX1_offAt 49 = .ok (.ireturn, 1) := by decide +kernel
set_option maxRecDepth 100000 in
set_option maxHeartbeats 4000000 in
theorem c_X1_offAt {l : Launch} {D : q_D} (τ : q_T) (σ : q_V) (a0 : Nat) (x1 : Int32) (x2 : Int32) (x3 : Int32) (hI : q_I τ σ) (tA0 : τ a0 = some (6, 1)) (rA1 : q_r x1 0 63) (rA2 : q_r x2 0 63) (rA3 : q_r x3 0 63) : q_Cp l D yX1_offAt cX1_offAt 5 (some .int) 1 20 τ σ [.ref a0, .int x1, .int x2, .int x3] (fun r => q_r r (-2147483648) 2147483647) := by
  refine q_meti rfl (Nat.le_of_ble_eq_true rfl) (fun X hG hE => ?_)
  show q_O X 0 0 τ σ 0 [(0, .ref a0), (1, .int x1), (2, .int x2), (3, .int x3)] []
  refine q_iload_n (pc := 0) hG dX1_offAt_0 2 rfl ?_
  refine q_iload_n (pc := 1) hG dX1_offAt_1 1 rfl ?_
  refine q_icmp_gt (pc := 2) hG 7 dX1_offAt_2 rfl ?_ ?_
  · intro c2
    refine q_aload_n (pc := 7) hG dX1_offAt_7 0 rfl ?_
    refine q_getR (pc := 8) (k2 := 118) (n2 := 64) hG fl_X1_43 dX1_offAt_8 hI tA0 ff_6_1 (fun b8 f8 T8 => ?_)
    refine q_iload_n (pc := 11) hG dX1_offAt_11 2 rfl ?_
    have r_1 := q_rgt rA2 rA1 c2 1 (by decide)
    refine q_iald (pc := 12) hG dX1_offAt_12 hI ai_118 T8 (q_ix r_1 (by decide)) (fun v12 f12 g12 => ?_)
    refine q_aload_n (pc := 13) hG dX1_offAt_13 0 rfl ?_
    refine q_getV (pc := 14) (v := .ref b8) hG fl_X1_43 dX1_offAt_14 tA0 f8 ?_
    refine q_iload_n (pc := 17) hG dX1_offAt_17 1 rfl ?_
    have r_2 := q_rlt rA1 rA2 c2 62 (by decide)
    refine q_iald (pc := 18) hG dX1_offAt_18 hI ai_118 T8 (q_ix r_2 (by decide)) (fun v18 f18 g18 => ?_)
    refine q_isub (pc := 19) hG dX1_offAt_19 (fun v19 e19 => ?_)
    refine q_iload_n (pc := 20) hG dX1_offAt_20 3 rfl ?_
    refine q_iload_n (pc := 21) hG dX1_offAt_21 1 rfl ?_
    refine q_isub (pc := 22) hG dX1_offAt_22 (fun v22 e22 => ?_)
    refine q_imul (pc := 23) hG dX1_offAt_23 (fun v23 e23 => ?_)
    refine q_iload_n (pc := 24) hG dX1_offAt_24 2 rfl ?_
    refine q_iload_n (pc := 25) hG dX1_offAt_25 1 rfl ?_
    refine q_isub (pc := 26) hG dX1_offAt_26 (fun v26 e26 => ?_)
    have r_3 := (q_subN (lo := (-62)) (hi := 63) e22 rA3 r_2 (by decide)).2
    have r_4 := (q_subN (lo := (-61)) (hi := 63) e26 r_1 r_2 (by decide)).2
    refine q_idiv (pc := 27) hG dX1_offAt_27 (q_nz (by have o0 := (q_subN (lo := (-61)) (hi := 63) e26 r_1 r_2 (by decide)).1; have o1 := c2; have o2 := (q_subN (lo := (-62)) (hi := 63) e22 rA3 r_2 (by decide)).1; have o3 := r_3; have o4 := r_4; have o5 := r_2; have o6 := r_1; have o7 := rA3; unfold q_r at o3 o4 o5 o6 o7; omega)) (fun v27 e27 => ?_)
    refine q_istore (pc := 28) [(4, .int v27), (0, .ref a0), (1, .int x1), (2, .int x2), (3, .int x3)] hG dX1_offAt_28 (by decide) rfl ?_
    refine q_aload_n (pc := 30) hG dX1_offAt_30 1 rfl ?_
    refine q_getV (pc := 31) (v := .ref b8) hG fl_X1_43 dX1_offAt_31 tA0 f8 ?_
    refine q_iload_n (pc := 34) hG dX1_offAt_34 2 rfl ?_
    refine q_ialdV (pc := 35) (v := .int v18) hG dX1_offAt_35 T8 (by decide) (by decide) (q_ix r_2 (by decide)) f18 ?_
    refine q_iload (pc := 36) hG dX1_offAt_36 0 rfl ?_
    refine q_iadd (pc := 38) hG dX1_offAt_38 (fun v38 e38 => ?_)
    refine q_aload_n (pc := 39) hG dX1_offAt_39 1 rfl ?_
    refine q_getV (pc := 40) (v := .ref b8) hG fl_X1_43 dX1_offAt_40 tA0 f8 ?_
    refine q_iload_n (pc := 43) hG dX1_offAt_43 4 rfl ?_
    refine q_iald (pc := 44) hG dX1_offAt_44 hI ai_118 T8 (q_ix rA3 (by decide)) (fun v44 f44 g44 => ?_)
    refine q_isub (pc := 45) hG dX1_offAt_45 (fun v45 e45 => ?_)
    refine q_pS (pc := 46) [.int v45] [] hG (c_J9_abs_0f7a4 τ σ v45 hI) my_J9_abs_0f7a4 w271 w535 dX1_offAt_46 rfl rfl (Nat.le_of_ble_eq_true rfl) (by decide) (fun v46 p46 => ?_)
    exact q_irt hG hE dX1_offAt_49 ⟨rfl, p46.1⟩
  intro c2
  refine q_iconst (pc := 5) hG dX1_offAt_5 ki_0 ?_
  exact q_irt hG hE dX1_offAt_6 ⟨rfl, (q_r.mono rl_0 (by decide))⟩
theorem dX1_fitsBetween_0 : decode cX1_fitsBetween 0 = .ok (.iload_n 1, 1) := by decide +kernel
theorem dX1_fitsBetween_1 : decode cX1_fitsBetween 1 = .ok (.iconst 1, 1) := by decide +kernel
theorem dX1_fitsBetween_2 : decode cX1_fitsBetween 2 = .ok (.iadd, 1) := by decide +kernel
theorem dX1_fitsBetween_3 : decode cX1_fitsBetween 3 = .ok (.istore 4, 2) := by decide +kernel
theorem dX1_fitsBetween_5 : decode cX1_fitsBetween 5 = .ok (.iload 4, 2) := by decide +kernel
theorem dX1_fitsBetween_7 : decode cX1_fitsBetween 7 = .ok (.iload_n 2, 1) := by decide +kernel
theorem dX1_fitsBetween_8 : decode cX1_fitsBetween 8 = .ok (.if_icmp .ge 23, 3) := by decide +kernel
theorem dX1_fitsBetween_11 : decode cX1_fitsBetween 11 = .ok (.aload_n 0, 1) := by decide +kernel
theorem dX1_fitsBetween_12 : decode cX1_fitsBetween 12 = .ok (.iload_n 1, 1) := by decide +kernel
theorem dX1_fitsBetween_13 : decode cX1_fitsBetween 13 = .ok (.iload_n 2, 1) := by decide +kernel
theorem dX1_fitsBetween_14 : decode cX1_fitsBetween 14 = .ok (.iload 4, 2) := by decide +kernel
theorem dX1_fitsBetween_16 : decode cX1_fitsBetween 16 = .ok (.invokestatic 79, 3) := by decide +kernel
theorem dX1_fitsBetween_19 : decode cX1_fitsBetween 19 = .ok (.iload_n 3, 1) := by decide +kernel
theorem dX1_fitsBetween_20 : decode cX1_fitsBetween 20 = .ok (.if_icmp .le 5, 3) := by decide +kernel
theorem dX1_fitsBetween_23 : decode cX1_fitsBetween 23 = .ok (.iconst 0, 1) := by decide +kernel
theorem dX1_fitsBetween_24 : decode cX1_fitsBetween 24 = .ok (.ireturn, 1) := by decide +kernel
theorem dX1_fitsBetween_25 : decode cX1_fitsBetween 25 = .ok (.iinc 4 1, 3) := by decide +kernel
theorem dX1_fitsBetween_28 : decode cX1_fitsBetween 28 = .ok (.goto (-23), 3) := by decide +kernel
theorem dX1_fitsBetween_31 : decode cX1_fitsBetween 31 = .ok (.iconst 1, 1) := by decide +kernel
theorem dX1_fitsBetween_32 : decode cX1_fitsBetween 32 = .ok (.ireturn, 1) := by decide +kernel
set_option maxRecDepth 100000 in
set_option maxHeartbeats 4000000 in
theorem c_X1_fitsBetween {l : Launch} {D : q_D} (τ : q_T) (σ : q_V) (a0 : Nat) (x1 : Int32) (x2 : Int32) (x3 : Int32) (hI : q_I τ σ) (tA0 : τ a0 = some (6, 1)) (rA1 : q_r x1 0 63) (rA2 : q_r x2 0 63) : q_Cp l D yX1_fitsBetween cX1_fitsBetween 5 (some .boolean) 2 44 τ σ [.ref a0, .int x1, .int x2, .int x3] (fun r => q_r r 0 1) := by
  refine q_meti rfl (Nat.le_of_ble_eq_true rfl) (fun X hG hE => ?_)
  show q_O X 0 0 τ σ 0 [(0, .ref a0), (1, .int x1), (2, .int x2), (3, .int x3)] []
  refine q_iload_n (pc := 0) hG dX1_fitsBetween_0 1 rfl ?_
  refine q_iconst (pc := 1) hG dX1_fitsBetween_1 ki_1 ?_
  refine q_iadd (pc := 2) hG dX1_fitsBetween_2 (fun v2 e2 => ?_)
  refine q_istore (pc := 3) [(4, .int v2), (0, .ref a0), (1, .int x1), (2, .int x2), (3, .int x3)] hG dX1_fitsBetween_3 (by decide) rfl ?_
  have J5 : ∀ (n5 : Nat) (p5_4 : Int32), q_r p5_4 1 64 → (64 - p5_4.toInt).toNat < n5 → q_O X 0 0 τ σ 5 [(0, .ref a0), (1, .int x1), (2, .int x2), (3, .int x3), (4, .int p5_4)] [] := by
    intro n5
    induction n5 with
    | zero => intro p5_4 r5_4 hm5; exact absurd hm5 (Nat.not_lt_zero _)
    | succ n5 ih5 =>
      intro p5_4 r5_4 hm5
      refine q_iload (pc := 5) hG dX1_fitsBetween_5 4 rfl ?_
      refine q_iload_n (pc := 7) hG dX1_fitsBetween_7 2 rfl ?_
      refine q_icmp_ge (pc := 8) hG 31 dX1_fitsBetween_8 rfl ?_ ?_
      · intro c8
        refine q_iconst (pc := 31) hG dX1_fitsBetween_31 ki_1 ?_
        exact q_zrt hG hE dX1_fitsBetween_32 (q_r.mono rl_1 (by decide)) ⟨rfl, (q_r.mono rl_1 (by decide))⟩
      intro c8
      refine q_aload_n (pc := 11) hG dX1_fitsBetween_11 0 rfl ?_
      refine q_iload_n (pc := 12) hG dX1_fitsBetween_12 1 rfl ?_
      refine q_iload_n (pc := 13) hG dX1_fitsBetween_13 2 rfl ?_
      refine q_iload (pc := 14) hG dX1_fitsBetween_14 4 rfl ?_
      have r_1 := q_rgt rA2 r5_4 c8 2 (by decide)
      have r_2 := q_rlt r5_4 rA2 c8 62 (by decide)
      refine q_pS (pc := 16) [.ref a0, .int x1, .int x2, .int p5_4] [] hG (c_X1_offAt τ σ a0 x1 x2 p5_4 hI tA0 rA1 (q_r.mono r_1 (by decide)) (q_r.mono r_2 (by decide))) my_X1_offAt w554 w553 dX1_fitsBetween_16 rfl rfl (Nat.le_of_ble_eq_true rfl) (by decide) (fun v16 p16 => ?_)
      refine q_iload_n (pc := 19) hG dX1_fitsBetween_19 3 rfl ?_
      refine q_icmp_le (pc := 20) hG 25 dX1_fitsBetween_20 rfl ?_ ?_
      · intro c20
        obtain ⟨v25, e25⟩ : ∃ z : Int32, z = p5_4 + Int32.ofInt 1 := ⟨_, rfl⟩
        have h25 := q_incN (lo := 2) (hi := 63) r_2 (by decide) (by decide) e25
        refine q_iinc (pc := 25) [(4, .int v25), (0, .ref a0), (1, .int x1), (2, .int x2), (3, .int x3)] hG dX1_fitsBetween_25 4 rfl e25 (by decide) rfl ?_
        refine q_goto (pc := 28) 5 hG dX1_fitsBetween_28 rfl ?_
        refine q_lv [1, 2, 3, 4, 0] rfl ?_
        exact ih5 v25 (q_r.mono h25.2 (by decide)) (q_measU hm5 (by have o0 := c8; have o1 := h25.1; have o2 := r_2; have o3 := h25.2; have o4 := r_1; unfold q_r at o2 o3 o4; omega) (q_r.mono h25.2 (by decide : (-2147483648) ≤ 2 ∧ 63 ≤ 64)).2)
      intro c20
      refine q_iconst (pc := 23) hG dX1_fitsBetween_23 ki_0 ?_
      exact q_zrt hG hE dX1_fitsBetween_24 (q_r.mono rl_0 (by decide)) ⟨rfl, (q_r.mono rl_0 (by decide))⟩
  refine q_lv [1, 2, 3, 4, 0] rfl ?_
  have r_3 := (q_addN (lo := 1) (hi := 64) e2 rA1 rl_1 (by decide)).2
  exact J5 _ v2 r_3 (Nat.lt_succ_self _)
theorem dX1_offBetween_0 : decode cX1_offBetween 0 = .ok (.iconst 0, 1) := by decide +kernel
theorem dX1_offBetween_1 : decode cX1_offBetween 1 = .ok (.istore_n 3, 1) := by decide +kernel
theorem dX1_offBetween_2 : decode cX1_offBetween 2 = .ok (.iload_n 1, 1) := by decide +kernel
theorem dX1_offBetween_3 : decode cX1_offBetween 3 = .ok (.iconst 1, 1) := by decide +kernel
theorem dX1_offBetween_4 : decode cX1_offBetween 4 = .ok (.iadd, 1) := by decide +kernel
theorem dX1_offBetween_5 : decode cX1_offBetween 5 = .ok (.istore 4, 2) := by decide +kernel
theorem dX1_offBetween_7 : decode cX1_offBetween 7 = .ok (.iload 4, 2) := by decide +kernel
theorem dX1_offBetween_9 : decode cX1_offBetween 9 = .ok (.iload_n 2, 1) := by decide +kernel
theorem dX1_offBetween_10 : decode cX1_offBetween 10 = .ok (.if_icmp .ge 20, 3) := by decide +kernel
theorem dX1_offBetween_13 : decode cX1_offBetween 13 = .ok (.iload_n 3, 1) := by decide +kernel
theorem dX1_offBetween_14 : decode cX1_offBetween 14 = .ok (.aload_n 0, 1) := by decide +kernel
theorem dX1_offBetween_15 : decode cX1_offBetween 15 = .ok (.iload_n 1, 1) := by decide +kernel
theorem dX1_offBetween_16 : decode cX1_offBetween 16 = .ok (.iload_n 2, 1) := by decide +kernel
theorem dX1_offBetween_17 : decode cX1_offBetween 17 = .ok (.iload 4, 2) := by decide +kernel
theorem dX1_offBetween_19 : decode cX1_offBetween 19 = .ok (.invokestatic 79, 3) := by decide +kernel
theorem dX1_offBetween_22 : decode cX1_offBetween 22 = .ok (.iadd, 1) := by decide +kernel
theorem dX1_offBetween_23 : decode cX1_offBetween 23 = .ok (.istore_n 3, 1) := by decide +kernel
theorem dX1_offBetween_24 : decode cX1_offBetween 24 = .ok (.iinc 4 1, 3) := by decide +kernel
theorem dX1_offBetween_27 : decode cX1_offBetween 27 = .ok (.goto (-20), 3) := by decide +kernel
theorem dX1_offBetween_30 : decode cX1_offBetween 30 = .ok (.iload_n 3, 1) := by decide +kernel
theorem dX1_offBetween_31 : decode cX1_offBetween 31 = .ok (.ireturn, 1) := by decide +kernel
set_option maxRecDepth 100000 in
set_option maxHeartbeats 4000000 in
theorem c_X1_offBetween {l : Launch} {D : q_D} (τ : q_T) (σ : q_V) (a0 : Nat) (x1 : Int32) (x2 : Int32) (hI : q_I τ σ) (tA0 : τ a0 = some (6, 1)) (rA1 : q_r x1 0 63) (rA2 : q_r x2 0 63) : q_Cp l D yX1_offBetween cX1_offBetween 5 (some .int) 2 44 τ σ [.ref a0, .int x1, .int x2] (fun r => q_r r (-2147483648) 2147483647) := by
  refine q_meti rfl (Nat.le_of_ble_eq_true rfl) (fun X hG hE => ?_)
  show q_O X 0 0 τ σ 0 [(0, .ref a0), (1, .int x1), (2, .int x2)] []
  refine q_iconst (pc := 0) hG dX1_offBetween_0 ki_0 ?_
  refine q_istore_n (pc := 1) [(3, .int 0), (0, .ref a0), (1, .int x1), (2, .int x2)] hG dX1_offBetween_1 (by decide) rfl ?_
  refine q_iload_n (pc := 2) hG dX1_offBetween_2 2 rfl ?_
  refine q_iconst (pc := 3) hG dX1_offBetween_3 ki_1 ?_
  refine q_iadd (pc := 4) hG dX1_offBetween_4 (fun v4 e4 => ?_)
  refine q_istore (pc := 5) [(4, .int v4), (3, .int 0), (0, .ref a0), (1, .int x1), (2, .int x2)] hG dX1_offBetween_5 (by decide) rfl ?_
  have J7 : ∀ (n7 : Nat) (p7_3 : Int32) (p7_4 : Int32), q_r p7_4 1 64 → (64 - p7_4.toInt).toNat < n7 → q_O X 0 0 τ σ 7 [(0, .ref a0), (1, .int x1), (2, .int x2), (3, .int p7_3), (4, .int p7_4)] [] := by
    intro n7
    induction n7 with
    | zero => intro p7_3 p7_4 r7_4 hm7; exact absurd hm7 (Nat.not_lt_zero _)
    | succ n7 ih7 =>
      intro p7_3 p7_4 r7_4 hm7
      refine q_iload (pc := 7) hG dX1_offBetween_7 4 rfl ?_
      refine q_iload_n (pc := 9) hG dX1_offBetween_9 2 rfl ?_
      refine q_icmp_ge (pc := 10) hG 30 dX1_offBetween_10 rfl ?_ ?_
      · intro c10
        refine q_iload_n (pc := 30) hG dX1_offBetween_30 3 rfl ?_
        exact q_irt hG hE dX1_offBetween_31 ⟨rfl, (q_r_any p7_3)⟩
      intro c10
      refine q_iload_n (pc := 13) hG dX1_offBetween_13 3 rfl ?_
      refine q_aload_n (pc := 14) hG dX1_offBetween_14 0 rfl ?_
      refine q_iload_n (pc := 15) hG dX1_offBetween_15 1 rfl ?_
      refine q_iload_n (pc := 16) hG dX1_offBetween_16 2 rfl ?_
      refine q_iload (pc := 17) hG dX1_offBetween_17 4 rfl ?_
      have r_1 := q_rgt rA2 r7_4 c10 2 (by decide)
      have r_2 := q_rlt r7_4 rA2 c10 62 (by decide)
      refine q_pS (pc := 19) [.ref a0, .int x1, .int x2, .int p7_4] [.int p7_3] hG (c_X1_offAt τ σ a0 x1 x2 p7_4 hI tA0 rA1 (q_r.mono r_1 (by decide)) (q_r.mono r_2 (by decide))) my_X1_offAt w554 w553 dX1_offBetween_19 rfl rfl (Nat.le_of_ble_eq_true rfl) (by decide) (fun v19 p19 => ?_)
      refine q_iadd (pc := 22) hG dX1_offBetween_22 (fun v22 e22 => ?_)
      refine q_istore_n (pc := 23) [(3, .int v22), (0, .ref a0), (1, .int x1), (2, .int x2), (4, .int p7_4)] hG dX1_offBetween_23 (by decide) rfl ?_
      obtain ⟨v24, e24⟩ : ∃ z : Int32, z = p7_4 + Int32.ofInt 1 := ⟨_, rfl⟩
      have h24 := q_incN (lo := 2) (hi := 63) r_2 (by decide) (by decide) e24
      refine q_iinc (pc := 24) [(4, .int v24), (3, .int v22), (0, .ref a0), (1, .int x1), (2, .int x2)] hG dX1_offBetween_24 4 rfl e24 (by decide) rfl ?_
      refine q_goto (pc := 27) 7 hG dX1_offBetween_27 rfl ?_
      refine q_lv [2, 3, 4, 1, 0] rfl ?_
      exact ih7 v22 v24 (q_r.mono h24.2 (by decide)) (q_measU hm7 (by have o0 := c10; have o1 := h24.1; have o2 := r_2; have o3 := h24.2; have o4 := r_1; unfold q_r at o2 o3 o4; omega) (q_r.mono h24.2 (by decide : (-2147483648) ≤ 2 ∧ 63 ≤ 64)).2)
  refine q_lv [2, 3, 4, 1, 0] rfl ?_
  have r_3 := (q_addN (lo := 1) (hi := 64) e4 rA1 rl_1 (by decide)).2
  exact J7 _ 0 v4 r_3 (Nat.lt_succ_self _)
theorem dX1_fitsApart_0 : decode cX1_fitsApart 0 = .ok (.iconst 0, 1) := by decide +kernel
theorem dX1_fitsApart_1 : decode cX1_fitsApart 1 = .ok (.istore_n 3, 1) := by decide +kernel
theorem dX1_fitsApart_2 : decode cX1_fitsApart 2 = .ok (.iload_n 3, 1) := by decide +kernel
theorem dX1_fitsApart_3 : decode cX1_fitsApart 3 = .ok (.aload_n 0, 1) := by decide +kernel
theorem dX1_fitsApart_4 : decode cX1_fitsApart 4 = .ok (.getfield 27, 3) := by decide +kernel
theorem dX1_fitsApart_7 : decode cX1_fitsApart 7 = .ok (.iconst 1, 1) := by decide +kernel
theorem dX1_fitsApart_8 : decode cX1_fitsApart 8 = .ok (.isub, 1) := by decide +kernel
theorem dX1_fitsApart_9 : decode cX1_fitsApart 9 = .ok (.if_icmp .ge 37, 3) := by decide +kernel
theorem dX1_fitsApart_12 : decode cX1_fitsApart 12 = .ok (.aload_n 0, 1) := by decide +kernel
theorem dX1_fitsApart_13 : decode cX1_fitsApart 13 = .ok (.iload_n 3, 1) := by decide +kernel
theorem dX1_fitsApart_14 : decode cX1_fitsApart 14 = .ok (.iload_n 3, 1) := by decide +kernel
theorem dX1_fitsApart_15 : decode cX1_fitsApart 15 = .ok (.iload_n 1, 1) := by decide +kernel
theorem dX1_fitsApart_16 : decode cX1_fitsApart 16 = .ok (.iadd, 1) := by decide +kernel
theorem dX1_fitsApart_17 : decode cX1_fitsApart 17 = .ok (.aload_n 0, 1) := by decide +kernel
theorem dX1_fitsApart_18 : decode cX1_fitsApart 18 = .ok (.getfield 27, 3) := by decide +kernel
theorem dX1_fitsApart_21 : decode cX1_fitsApart 21 = .ok (.iconst 1, 1) := by decide +kernel
theorem dX1_fitsApart_22 : decode cX1_fitsApart 22 = .ok (.isub, 1) := by decide +kernel
theorem dX1_fitsApart_23 : decode cX1_fitsApart 23 = .ok (.invokestatic 63, 3) := by decide +kernel
theorem dX1_fitsApart_26 : decode cX1_fitsApart 26 = .ok (.iload_n 2, 1) := by decide +kernel
theorem dX1_fitsApart_27 : decode cX1_fitsApart 27 = .ok (.invokestatic 67, 3) := by decide +kernel
theorem dX1_fitsApart_30 : decode cX1_fitsApart 30 = .ok (.ifCond .ne 5, 3) := by decide +kernel
theorem dX1_fitsApart_33 : decode cX1_fitsApart 33 = .ok (.iconst 0, 1) := by decide +kernel
theorem dX1_fitsApart_34 : decode cX1_fitsApart 34 = .ok (.ireturn, 1) := by decide +kernel
theorem dX1_fitsApart_35 : decode cX1_fitsApart 35 = .ok (.iload_n 3, 1) := by decide +kernel
theorem dX1_fitsApart_36 : decode cX1_fitsApart 36 = .ok (.iconst 1, 1) := by decide +kernel
theorem dX1_fitsApart_37 : decode cX1_fitsApart 37 = .ok (.iload_n 1, 1) := by decide +kernel
theorem dX1_fitsApart_38 : decode cX1_fitsApart 38 = .ok (.invokestatic 71, 3) := by decide +kernel
theorem dX1_fitsApart_41 : decode cX1_fitsApart 41 = .ok (.iadd, 1) := by decide +kernel
theorem dX1_fitsApart_42 : decode cX1_fitsApart 42 = .ok (.istore_n 3, 1) := by decide +kernel
theorem dX1_fitsApart_43 : decode cX1_fitsApart 43 = .ok (.goto (-41), 3) := by decide +kernel
theorem dX1_fitsApart_46 : decode cX1_fitsApart 46 = .ok (.iconst 1, 1) := by decide +kernel
theorem dX1_fitsApart_47 : decode cX1_fitsApart 47 = .ok (.ireturn, 1) := by decide +kernel
set_option maxRecDepth 100000 in
set_option maxHeartbeats 4000000 in
theorem c_X1_fitsApart {l : Launch} {D : q_D} (τ : q_T) (σ : q_V) (a0 : Nat) (x1 : Int32) (x2 : Int32) (hI : q_I τ σ) (tA0 : τ a0 = some (6, 1)) (rA1 : q_r x1 1 16) : q_Cp l D yX1_fitsApart cX1_fitsApart 4 (some .boolean) 3 68 τ σ [.ref a0, .int x1, .int x2] (fun r => q_r r 0 1) := by
  refine q_meti rfl (Nat.le_of_ble_eq_true rfl) (fun X hG hE => ?_)
  show q_O X 0 0 τ σ 0 [(0, .ref a0), (1, .int x1), (2, .int x2)] []
  refine q_iconst (pc := 0) hG dX1_fitsApart_0 ki_0 ?_
  refine q_istore_n (pc := 1) [(3, .int 0), (0, .ref a0), (1, .int x1), (2, .int x2)] hG dX1_fitsApart_1 (by decide) rfl ?_
  have J2 : ∀ (n2 : Nat) (p2_3 : Int32), q_r p2_3 0 78 → (78 - p2_3.toInt).toNat < n2 → q_O X 0 0 τ σ 2 [(0, .ref a0), (1, .int x1), (2, .int x2), (3, .int p2_3)] [] := by
    intro n2
    induction n2 with
    | zero => intro p2_3 r2_3 hm2; exact absurd hm2 (Nat.not_lt_zero _)
    | succ n2 ih2 =>
      intro p2_3 r2_3 hm2
      refine q_iload_n (pc := 2) hG dX1_fitsApart_2 3 rfl ?_
      refine q_aload_n (pc := 3) hG dX1_fitsApart_3 0 rfl ?_
      refine q_getI (pc := 4) hG fl_X1_27 dX1_fitsApart_4 hI tA0 ff_6_0 (fun v4 f4 g4 => ?_)
      refine q_iconst (pc := 7) hG dX1_fitsApart_7 ki_1 ?_
      refine q_isub (pc := 8) hG dX1_fitsApart_8 (fun v8 e8 => ?_)
      refine q_icmp_ge (pc := 9) hG 46 dX1_fitsApart_9 rfl ?_ ?_
      · intro c9
        have r_1 := (q_subN (lo := 7) (hi := 63) e8 g4 rl_1 (by decide)).2
        refine q_iconst (pc := 46) hG dX1_fitsApart_46 ki_1 ?_
        exact q_zrt hG hE dX1_fitsApart_47 (q_r.mono rl_1 (by decide)) ⟨rfl, (q_r.mono rl_1 (by decide))⟩
      intro c9
      have r_2 := (q_subN (lo := 7) (hi := 63) e8 g4 rl_1 (by decide)).2
      refine q_aload_n (pc := 12) hG dX1_fitsApart_12 0 rfl ?_
      refine q_iload_n (pc := 13) hG dX1_fitsApart_13 3 rfl ?_
      refine q_iload_n (pc := 14) hG dX1_fitsApart_14 3 rfl ?_
      refine q_iload_n (pc := 15) hG dX1_fitsApart_15 1 rfl ?_
      refine q_iadd (pc := 16) hG dX1_fitsApart_16 (fun v16 e16 => ?_)
      have r_3 := q_rlt r2_3 r_2 c9 62 (by decide)
      refine q_aload_n (pc := 17) hG dX1_fitsApart_17 0 rfl ?_
      refine q_getV (pc := 18) (v := .int v4) hG fl_X1_27 dX1_fitsApart_18 tA0 f4 ?_
      refine q_iconst (pc := 21) hG dX1_fitsApart_21 ki_1 ?_
      refine q_isub (pc := 22) hG dX1_fitsApart_22 (fun v22 e22 => ?_)
      rw [e22.trans e8.symm]
      refine q_pS (pc := 23) [.int v16, .int v8] [.int p2_3, .ref a0] hG (c_J9_min_7cf53 τ σ v16 v8 hI) my_J9_min_7cf53 w250 w549 dX1_fitsApart_23 rfl rfl (Nat.le_of_ble_eq_true rfl) (by decide) (fun v23 p23 => ?_)
      have r_4 := (q_addN (lo := 1) (hi := 78) e16 r_3 rA1 (by decide)).2
      refine q_iload_n (pc := 26) hG dX1_fitsApart_26 2 rfl ?_
      have r_5 := q_minN (lo := 1) (hi := 63) p23.2 r_4 r_2 (by decide)
      refine q_pS (pc := 27) [.ref a0, .int p2_3, .int v23, .int x2] [] hG (c_X1_fitsBetween τ σ a0 p2_3 v23 x2 hI tA0 (q_r.mono r_3 (by decide)) (q_r.mono r_5 (by decide))) my_X1_fitsBetween w551 w550 dX1_fitsApart_27 rfl rfl (Nat.le_of_ble_eq_true rfl) (by decide) (fun v27 p27 => ?_)
      refine q_if_ne (pc := 30) hG 35 dX1_fitsApart_30 rfl ?_ ?_
      · intro c30
        refine q_iload_n (pc := 35) hG dX1_fitsApart_35 3 rfl ?_
        refine q_iconst (pc := 36) hG dX1_fitsApart_36 ki_1 ?_
        refine q_iload_n (pc := 37) hG dX1_fitsApart_37 1 rfl ?_
        refine q_pS (pc := 38) [.int 1, .int x1] [.int p2_3] hG (c_J9_max_7cf53 τ σ 1 x1 hI) my_J9_max_7cf53 w262 w556 dX1_fitsApart_38 rfl rfl (Nat.le_of_ble_eq_true rfl) (by decide) (fun v38 p38 => ?_)
        refine q_iadd (pc := 41) hG dX1_fitsApart_41 (fun v41 e41 => ?_)
        have r_6 := q_maxN (lo := 1) (hi := 16) p38.2 rl_1 rA1 (by decide)
        refine q_istore_n (pc := 42) [(3, .int v41), (0, .ref a0), (1, .int x1), (2, .int x2)] hG dX1_fitsApart_42 (by decide) rfl ?_
        refine q_goto (pc := 43) 2 hG dX1_fitsApart_43 rfl ?_
        refine q_lv [1, 2, 3, 0] rfl ?_
        have r_7 := (q_addN (lo := 1) (hi := 78) e41 r_3 r_6 (by decide)).2
        exact ih2 v41 (q_r.mono r_7 (by decide)) (q_measU hm2 (by have o0 := c9; have o1 := (q_addN (lo := 1) (hi := 78) e16 r_3 rA1 (by decide)).1; have o2 := p23.2; have o3 := p38.2; have o4 := (q_addN (lo := 1) (hi := 78) e41 r_3 r_6 (by decide)).1; have o5 := (q_subN (lo := 7) (hi := 63) e8 g4 rl_1 (by decide)).1; have o6 := r_3; have o7 := r_4; have o8 := r_5; have o9 := r_6; have o10 := g4; have o11 := r_7; have o12 := r_2; have o13 := rA1; have l14 := tl_1; unfold q_r at o6 o7 o8 o9 o10 o11 o12 o13; omega) (r_7).2)
      intro c30
      refine q_iconst (pc := 33) hG dX1_fitsApart_33 ki_0 ?_
      exact q_zrt hG hE dX1_fitsApart_34 (q_r.mono rl_0 (by decide)) ⟨rfl, (q_r.mono rl_0 (by decide))⟩
  refine q_lv [1, 2, 3, 0] rfl ?_
  exact J2 _ 0 (q_r.mono rl_0 (by decide)) (Nat.lt_succ_self _)
theorem dX1_greatestApart_0 : decode cX1_greatestApart 0 = .ok (.bipush 16, 2) := by decide +kernel
theorem dX1_greatestApart_2 : decode cX1_greatestApart 2 = .ok (.istore_n 2, 1) := by decide +kernel
theorem dX1_greatestApart_3 : decode cX1_greatestApart 3 = .ok (.iload_n 2, 1) := by decide +kernel
theorem dX1_greatestApart_4 : decode cX1_greatestApart 4 = .ok (.iconst 1, 1) := by decide +kernel
theorem dX1_greatestApart_5 : decode cX1_greatestApart 5 = .ok (.if_icmp .le 20, 3) := by decide +kernel
theorem dX1_greatestApart_8 : decode cX1_greatestApart 8 = .ok (.aload_n 0, 1) := by decide +kernel
theorem dX1_greatestApart_9 : decode cX1_greatestApart 9 = .ok (.iload_n 2, 1) := by decide +kernel
theorem dX1_greatestApart_10 : decode cX1_greatestApart 10 = .ok (.iload_n 1, 1) := by decide +kernel
theorem dX1_greatestApart_11 : decode cX1_greatestApart 11 = .ok (.invokestatic 59, 3) := by decide +kernel
theorem dX1_greatestApart_14 : decode cX1_greatestApart 14 = .ok (.ifCond .eq 5, 3) := by decide +kernel
theorem dX1_greatestApart_17 : decode cX1_greatestApart 17 = .ok (.iload_n 2, 1) := by decide +kernel
theorem dX1_greatestApart_18 : decode cX1_greatestApart 18 = .ok (.ireturn, 1) := by decide +kernel
theorem dX1_greatestApart_19 : decode cX1_greatestApart 19 = .ok (.iinc 2 (-1), 3) := by decide +kernel
theorem dX1_greatestApart_22 : decode cX1_greatestApart 22 = .ok (.goto (-19), 3) := by decide +kernel
theorem dX1_greatestApart_25 : decode cX1_greatestApart 25 = .ok (.iconst 1, 1) := by decide +kernel
theorem dX1_greatestApart_26 : decode cX1_greatestApart 26 = .ok (.ireturn, 1) := by decide +kernel
set_option maxRecDepth 100000 in
set_option maxHeartbeats 4000000 in
theorem c_X1_greatestApart {l : Launch} {D : q_D} (τ : q_T) (σ : q_V) (a0 : Nat) (x1 : Int32) (hI : q_I τ σ) (tA0 : τ a0 = some (6, 1)) : q_Cp l D yX1_greatestApart cX1_greatestApart 3 (some .int) 4 91 τ σ [.ref a0, .int x1] (fun r => q_r r 1 16) := by
  refine q_meti rfl (Nat.le_of_ble_eq_true rfl) (fun X hG hE => ?_)
  show q_O X 0 0 τ σ 0 [(0, .ref a0), (1, .int x1)] []
  refine q_bipush (pc := 0) hG dX1_greatestApart_0 kb_16 ?_
  refine q_istore_n (pc := 2) [(2, .int 16), (0, .ref a0), (1, .int x1)] hG dX1_greatestApart_2 (by decide) rfl ?_
  have J3 : ∀ (n3 : Nat) (p3_2 : Int32), q_r p3_2 1 16 → (p3_2.toInt - 1).toNat < n3 → q_O X 0 0 τ σ 3 [(0, .ref a0), (1, .int x1), (2, .int p3_2)] [] := by
    intro n3
    induction n3 with
    | zero => intro p3_2 r3_2 hm3; exact absurd hm3 (Nat.not_lt_zero _)
    | succ n3 ih3 =>
      intro p3_2 r3_2 hm3
      refine q_iload_n (pc := 3) hG dX1_greatestApart_3 2 rfl ?_
      refine q_iconst (pc := 4) hG dX1_greatestApart_4 ki_1 ?_
      refine q_icmp_le (pc := 5) hG 25 dX1_greatestApart_5 rfl ?_ ?_
      · intro c5
        refine q_iconst (pc := 25) hG dX1_greatestApart_25 ki_1 ?_
        exact q_irt hG hE dX1_greatestApart_26 ⟨rfl, (q_r.mono rl_1 (by decide))⟩
      intro c5
      refine q_aload_n (pc := 8) hG dX1_greatestApart_8 0 rfl ?_
      refine q_iload_n (pc := 9) hG dX1_greatestApart_9 2 rfl ?_
      refine q_iload_n (pc := 10) hG dX1_greatestApart_10 1 rfl ?_
      have r_1 := q_rgt r3_2 rl_1 c5 2 (by decide)
      refine q_pS (pc := 11) [.ref a0, .int p3_2, .int x1] [] hG (c_X1_fitsApart τ σ a0 p3_2 x1 hI tA0 (q_r.mono r_1 (by decide))) my_X1_fitsApart w547 w546 dX1_greatestApart_11 rfl rfl (Nat.le_of_ble_eq_true rfl) (by decide) (fun v11 p11 => ?_)
      refine q_if_eq (pc := 14) hG 19 dX1_greatestApart_14 rfl ?_ ?_
      · intro c14
        obtain ⟨v19, e19⟩ : ∃ z : Int32, z = p3_2 + Int32.ofInt (-1) := ⟨_, rfl⟩
        have h19 := q_incN (lo := 1) (hi := 15) r_1 (by decide) (by decide) e19
        refine q_iinc (pc := 19) [(2, .int v19), (0, .ref a0), (1, .int x1)] hG dX1_greatestApart_19 2 rfl e19 (by decide) rfl ?_
        refine q_goto (pc := 22) 3 hG dX1_greatestApart_22 rfl ?_
        refine q_lv [1, 2, 0] rfl ?_
        exact ih3 v19 (q_r.mono h19.2 (by decide)) (q_measD hm3 (by have o0 := c5; have o1 := h19.1; have o2 := r_1; have o3 := h19.2; have l4 := tl_1; unfold q_r at o2 o3; omega) (h19.2).1)
      intro c14
      refine q_iload_n (pc := 17) hG dX1_greatestApart_17 2 rfl ?_
      exact q_irt hG hE dX1_greatestApart_18 ⟨rfl, (q_r.mono r_1 (by decide))⟩
  refine q_lv [1, 2, 0] rfl ?_
  exact J3 _ 16 (q_r.mono rl_16 (by decide)) (Nat.lt_succ_self _)
theorem dX1_offByApart_0 : decode cX1_offByApart 0 = .ok (.iconst 0, 1) := by decide +kernel
theorem dX1_offByApart_1 : decode cX1_offByApart 1 = .ok (.istore_n 2, 1) := by decide +kernel
theorem dX1_offByApart_2 : decode cX1_offByApart 2 = .ok (.iconst 0, 1) := by decide +kernel
theorem dX1_offByApart_3 : decode cX1_offByApart 3 = .ok (.istore_n 3, 1) := by decide +kernel
theorem dX1_offByApart_4 : decode cX1_offByApart 4 = .ok (.iload_n 3, 1) := by decide +kernel
theorem dX1_offByApart_5 : decode cX1_offByApart 5 = .ok (.aload_n 0, 1) := by decide +kernel
theorem dX1_offByApart_6 : decode cX1_offByApart 6 = .ok (.getfield 27, 3) := by decide +kernel
theorem dX1_offByApart_9 : decode cX1_offByApart 9 = .ok (.iconst 1, 1) := by decide +kernel
theorem dX1_offByApart_10 : decode cX1_offByApart 10 = .ok (.isub, 1) := by decide +kernel
theorem dX1_offByApart_11 : decode cX1_offByApart 11 = .ok (.if_icmp .ge 34, 3) := by decide +kernel
theorem dX1_offByApart_14 : decode cX1_offByApart 14 = .ok (.iload_n 2, 1) := by decide +kernel
theorem dX1_offByApart_15 : decode cX1_offByApart 15 = .ok (.aload_n 0, 1) := by decide +kernel
theorem dX1_offByApart_16 : decode cX1_offByApart 16 = .ok (.iload_n 3, 1) := by decide +kernel
theorem dX1_offByApart_17 : decode cX1_offByApart 17 = .ok (.iload_n 3, 1) := by decide +kernel
theorem dX1_offByApart_18 : decode cX1_offByApart 18 = .ok (.iload_n 1, 1) := by decide +kernel
theorem dX1_offByApart_19 : decode cX1_offByApart 19 = .ok (.iadd, 1) := by decide +kernel
theorem dX1_offByApart_20 : decode cX1_offByApart 20 = .ok (.aload_n 0, 1) := by decide +kernel
theorem dX1_offByApart_21 : decode cX1_offByApart 21 = .ok (.getfield 27, 3) := by decide +kernel
theorem dX1_offByApart_24 : decode cX1_offByApart 24 = .ok (.iconst 1, 1) := by decide +kernel
theorem dX1_offByApart_25 : decode cX1_offByApart 25 = .ok (.isub, 1) := by decide +kernel
theorem dX1_offByApart_26 : decode cX1_offByApart 26 = .ok (.invokestatic 63, 3) := by decide +kernel
theorem dX1_offByApart_29 : decode cX1_offByApart 29 = .ok (.invokestatic 74, 3) := by decide +kernel
theorem dX1_offByApart_32 : decode cX1_offByApart 32 = .ok (.iadd, 1) := by decide +kernel
theorem dX1_offByApart_33 : decode cX1_offByApart 33 = .ok (.istore_n 2, 1) := by decide +kernel
theorem dX1_offByApart_34 : decode cX1_offByApart 34 = .ok (.iload_n 3, 1) := by decide +kernel
theorem dX1_offByApart_35 : decode cX1_offByApart 35 = .ok (.iconst 1, 1) := by decide +kernel
theorem dX1_offByApart_36 : decode cX1_offByApart 36 = .ok (.iload_n 1, 1) := by decide +kernel
theorem dX1_offByApart_37 : decode cX1_offByApart 37 = .ok (.invokestatic 71, 3) := by decide +kernel
theorem dX1_offByApart_40 : decode cX1_offByApart 40 = .ok (.iadd, 1) := by decide +kernel
theorem dX1_offByApart_41 : decode cX1_offByApart 41 = .ok (.istore_n 3, 1) := by decide +kernel
theorem dX1_offByApart_42 : decode cX1_offByApart 42 = .ok (.goto (-38), 3) := by decide +kernel
theorem dX1_offByApart_45 : decode cX1_offByApart 45 = .ok (.iload_n 2, 1) := by decide +kernel
theorem dX1_offByApart_46 : decode cX1_offByApart 46 = .ok (.ireturn, 1) := by decide +kernel
set_option maxRecDepth 100000 in
set_option maxHeartbeats 4000000 in
theorem c_X1_offByApart {l : Launch} {D : q_D} (τ : q_T) (σ : q_V) (a0 : Nat) (x1 : Int32) (hI : q_I τ σ) (tA0 : τ a0 = some (6, 1)) (rA1 : q_r x1 1 16) : q_Cp l D yX1_offByApart cX1_offByApart 4 (some .int) 3 68 τ σ [.ref a0, .int x1] (fun r => q_r r (-2147483648) 2147483647) := by
  refine q_meti rfl (Nat.le_of_ble_eq_true rfl) (fun X hG hE => ?_)
  show q_O X 0 0 τ σ 0 [(0, .ref a0), (1, .int x1)] []
  refine q_iconst (pc := 0) hG dX1_offByApart_0 ki_0 ?_
  refine q_istore_n (pc := 1) [(2, .int 0), (0, .ref a0), (1, .int x1)] hG dX1_offByApart_1 (by decide) rfl ?_
  refine q_iconst (pc := 2) hG dX1_offByApart_2 ki_0 ?_
  refine q_istore_n (pc := 3) [(3, .int 0), (2, .int 0), (0, .ref a0), (1, .int x1)] hG dX1_offByApart_3 (by decide) rfl ?_
  have J4 : ∀ (n4 : Nat) (p4_2 : Int32) (p4_3 : Int32), q_r p4_3 0 78 → (78 - p4_3.toInt).toNat < n4 → q_O X 0 0 τ σ 4 [(0, .ref a0), (1, .int x1), (2, .int p4_2), (3, .int p4_3)] [] := by
    intro n4
    induction n4 with
    | zero => intro p4_2 p4_3 r4_3 hm4; exact absurd hm4 (Nat.not_lt_zero _)
    | succ n4 ih4 =>
      intro p4_2 p4_3 r4_3 hm4
      refine q_iload_n (pc := 4) hG dX1_offByApart_4 3 rfl ?_
      refine q_aload_n (pc := 5) hG dX1_offByApart_5 0 rfl ?_
      refine q_getI (pc := 6) hG fl_X1_27 dX1_offByApart_6 hI tA0 ff_6_0 (fun v6 f6 g6 => ?_)
      refine q_iconst (pc := 9) hG dX1_offByApart_9 ki_1 ?_
      refine q_isub (pc := 10) hG dX1_offByApart_10 (fun v10 e10 => ?_)
      refine q_icmp_ge (pc := 11) hG 45 dX1_offByApart_11 rfl ?_ ?_
      · intro c11
        have r_1 := (q_subN (lo := 7) (hi := 63) e10 g6 rl_1 (by decide)).2
        refine q_iload_n (pc := 45) hG dX1_offByApart_45 2 rfl ?_
        exact q_irt hG hE dX1_offByApart_46 ⟨rfl, (q_r_any p4_2)⟩
      intro c11
      have r_2 := (q_subN (lo := 7) (hi := 63) e10 g6 rl_1 (by decide)).2
      refine q_iload_n (pc := 14) hG dX1_offByApart_14 2 rfl ?_
      refine q_aload_n (pc := 15) hG dX1_offByApart_15 0 rfl ?_
      refine q_iload_n (pc := 16) hG dX1_offByApart_16 3 rfl ?_
      refine q_iload_n (pc := 17) hG dX1_offByApart_17 3 rfl ?_
      refine q_iload_n (pc := 18) hG dX1_offByApart_18 1 rfl ?_
      refine q_iadd (pc := 19) hG dX1_offByApart_19 (fun v19 e19 => ?_)
      have r_3 := q_rlt r4_3 r_2 c11 62 (by decide)
      refine q_aload_n (pc := 20) hG dX1_offByApart_20 0 rfl ?_
      refine q_getV (pc := 21) (v := .int v6) hG fl_X1_27 dX1_offByApart_21 tA0 f6 ?_
      refine q_iconst (pc := 24) hG dX1_offByApart_24 ki_1 ?_
      refine q_isub (pc := 25) hG dX1_offByApart_25 (fun v25 e25 => ?_)
      rw [e25.trans e10.symm]
      refine q_pS (pc := 26) [.int v19, .int v10] [.int p4_3, .ref a0, .int p4_2] hG (c_J9_min_7cf53 τ σ v19 v10 hI) my_J9_min_7cf53 w250 w549 dX1_offByApart_26 rfl rfl (Nat.le_of_ble_eq_true rfl) (by decide) (fun v26 p26 => ?_)
      have r_4 := (q_addN (lo := 1) (hi := 78) e19 r_3 rA1 (by decide)).2
      have r_5 := q_minN (lo := 1) (hi := 63) p26.2 r_4 r_2 (by decide)
      refine q_pS (pc := 29) [.ref a0, .int p4_3, .int v26] [.int p4_2] hG (c_X1_offBetween τ σ a0 p4_3 v26 hI tA0 (q_r.mono r_3 (by decide)) (q_r.mono r_5 (by decide))) my_X1_offBetween w561 w560 dX1_offByApart_29 rfl rfl (Nat.le_of_ble_eq_true rfl) (by decide) (fun v29 p29 => ?_)
      refine q_iadd (pc := 32) hG dX1_offByApart_32 (fun v32 e32 => ?_)
      refine q_istore_n (pc := 33) [(2, .int v32), (0, .ref a0), (1, .int x1), (3, .int p4_3)] hG dX1_offByApart_33 (by decide) rfl ?_
      refine q_iload_n (pc := 34) hG dX1_offByApart_34 3 rfl ?_
      refine q_iconst (pc := 35) hG dX1_offByApart_35 ki_1 ?_
      refine q_iload_n (pc := 36) hG dX1_offByApart_36 2 rfl ?_
      refine q_pS (pc := 37) [.int 1, .int x1] [.int p4_3] hG (c_J9_max_7cf53 τ σ 1 x1 hI) my_J9_max_7cf53 w262 w556 dX1_offByApart_37 rfl rfl (Nat.le_of_ble_eq_true rfl) (by decide) (fun v37 p37 => ?_)
      refine q_iadd (pc := 40) hG dX1_offByApart_40 (fun v40 e40 => ?_)
      have r_6 := q_maxN (lo := 1) (hi := 16) p37.2 rl_1 rA1 (by decide)
      refine q_istore_n (pc := 41) [(3, .int v40), (2, .int v32), (0, .ref a0), (1, .int x1)] hG dX1_offByApart_41 (by decide) rfl ?_
      refine q_goto (pc := 42) 4 hG dX1_offByApart_42 rfl ?_
      refine q_lv [2, 3, 1, 0] rfl ?_
      have r_7 := (q_addN (lo := 1) (hi := 78) e40 r_3 r_6 (by decide)).2
      exact ih4 v32 v40 (q_r.mono r_7 (by decide)) (q_measU hm4 (by have o0 := c11; have o1 := (q_addN (lo := 1) (hi := 78) e19 r_3 rA1 (by decide)).1; have o2 := p26.2; have o3 := p37.2; have o4 := (q_addN (lo := 1) (hi := 78) e40 r_3 r_6 (by decide)).1; have o5 := (q_subN (lo := 7) (hi := 63) e10 g6 rl_1 (by decide)).1; have o6 := r_3; have o7 := r_2; have o8 := r_4; have o9 := r_5; have o10 := r_6; have o11 := r_7; have o12 := g6; have o13 := rA1; have l14 := tl_1; unfold q_r at o6 o7 o8 o9 o10 o11 o12 o13; omega) (r_7).2)
  refine q_lv [2, 3, 1, 0] rfl ?_
  exact J4 _ 0 0 (q_r.mono rl_0 (by decide)) (Nat.lt_succ_self _)
