/-! laid by wip/p2/build.py -/
theorem dX1_nearest_0 : decode cX1_nearest 0 = .ok (.iload_n 0, 1) := by decide +kernel
theorem dX1_nearest_1 : decode cX1_nearest 1 = .ok (.iload_n 1, 1) := by decide +kernel
theorem dX1_nearest_2 : decode cX1_nearest 2 = .ok (.iload_n 2, 1) := by decide +kernel
theorem dX1_nearest_3 : decode cX1_nearest 3 = .ok (.isub, 1) := by decide +kernel
theorem dX1_nearest_4 : decode cX1_nearest 4 = .ok (.iload_n 1, 1) := by decide +kernel
theorem dX1_nearest_5 : decode cX1_nearest 5 = .ok (.iload_n 2, 1) := by decide +kernel
theorem dX1_nearest_6 : decode cX1_nearest 6 = .ok (.iadd, 1) := by decide +kernel
theorem dX1_nearest_7 : decode cX1_nearest 7 = .ok (.invokestatic 56, 3) := by decide +kernel
theorem dX1_nearest_10 : decode cX1_nearest 10 = .ok (.ireturn, 1) := by decide +kernel
set_option maxRecDepth 100000 in
set_option maxHeartbeats 4000000 in
theorem c_X1_nearest {l : Launch} {D : q_D} (τ : q_T) (σ : q_V) (x0 : Int32) (x1 : Int32) (x2 : Int32) (hI : q_I τ σ) (rA0 : q_r x0 0 60) (rA1 : q_r x1 0 60) (rA2 : q_r x2 0 9) : q_Cp l D yX1_nearest cX1_nearest 3 (some .int) 2 43 τ σ [.int x0, .int x1, .int x2] (fun r => q_r r 0 60) := by
  refine q_meti rfl (Nat.le_of_ble_eq_true rfl) (fun X hG hE => ?_)
  show q_O X 0 0 τ σ 0 [(0, .int x0), (1, .int x1), (2, .int x2)] []
  refine q_iload_n (pc := 0) hG dX1_nearest_0 0 rfl ?_
  refine q_iload_n (pc := 1) hG dX1_nearest_1 1 rfl ?_
  refine q_iload_n (pc := 2) hG dX1_nearest_2 2 rfl ?_
  refine q_isub (pc := 3) hG dX1_nearest_3 (fun v3 e3 => ?_)
  refine q_iload_n (pc := 4) hG dX1_nearest_4 1 rfl ?_
  refine q_iload_n (pc := 5) hG dX1_nearest_5 2 rfl ?_
  refine q_iadd (pc := 6) hG dX1_nearest_6 (fun v6 e6 => ?_)
  refine q_pN (pc := 7) [.int x0, .int v3, .int v6] [] hG (c_X11_heldIn τ σ x0 v3 v6 hI) my_X11_heldIn w460 nw_15 dX1_nearest_7 rfl rfl (Nat.le_of_ble_eq_true rfl) (by decide) (fun v7 p7 => ?_)
  have r_1 := (q_subN (lo := (-9)) (hi := 60) e3 rA1 rA2 (by decide)).2
  have r_2 := (q_addN (lo := 0) (hi := 69) e6 rA1 rA2 (by decide)).2
  have r_3 := q_heldN (lo := 0) (hi := 60) p7.2.2.1 rA0 r_1 r_2 (by decide) p7.2.2.2
  exact q_irt hG hE dX1_nearest_10 ⟨rfl, r_3⟩
theorem dX1_lowestBest_0 : decode cX1_lowestBest 0 = .ok (.iconst 0, 1) := by decide +kernel
theorem dX1_lowestBest_1 : decode cX1_lowestBest 1 = .ok (.istore_n 1, 1) := by decide +kernel
theorem dX1_lowestBest_2 : decode cX1_lowestBest 2 = .ok (.iconst 1, 1) := by decide +kernel
theorem dX1_lowestBest_3 : decode cX1_lowestBest 3 = .ok (.istore_n 2, 1) := by decide +kernel
theorem dX1_lowestBest_4 : decode cX1_lowestBest 4 = .ok (.iload_n 2, 1) := by decide +kernel
theorem dX1_lowestBest_5 : decode cX1_lowestBest 5 = .ok (.bipush 61, 2) := by decide +kernel
theorem dX1_lowestBest_7 : decode cX1_lowestBest 7 = .ok (.if_icmp .ge 26, 3) := by decide +kernel
theorem dX1_lowestBest_10 : decode cX1_lowestBest 10 = .ok (.aload_n 0, 1) := by decide +kernel
theorem dX1_lowestBest_11 : decode cX1_lowestBest 11 = .ok (.getfield 11, 3) := by decide +kernel
theorem dX1_lowestBest_14 : decode cX1_lowestBest 14 = .ok (.iload_n 2, 1) := by decide +kernel
theorem dX1_lowestBest_15 : decode cX1_lowestBest 15 = .ok (.iaload, 1) := by decide +kernel
theorem dX1_lowestBest_16 : decode cX1_lowestBest 16 = .ok (.aload_n 0, 1) := by decide +kernel
theorem dX1_lowestBest_17 : decode cX1_lowestBest 17 = .ok (.getfield 11, 3) := by decide +kernel
theorem dX1_lowestBest_20 : decode cX1_lowestBest 20 = .ok (.iload_n 1, 1) := by decide +kernel
theorem dX1_lowestBest_21 : decode cX1_lowestBest 21 = .ok (.iaload, 1) := by decide +kernel
theorem dX1_lowestBest_22 : decode cX1_lowestBest 22 = .ok (.if_icmp .ge 5, 3) := by decide +kernel
theorem dX1_lowestBest_25 : decode cX1_lowestBest 25 = .ok (.iload_n 2, 1) := by decide +kernel
theorem dX1_lowestBest_26 : decode cX1_lowestBest 26 = .ok (.istore_n 1, 1) := by decide +kernel
theorem dX1_lowestBest_27 : decode cX1_lowestBest 27 = .ok (.iinc 2 1, 3) := by decide +kernel
theorem dX1_lowestBest_30 : decode cX1_lowestBest 30 = .ok (.goto (-26), 3) := by decide +kernel
theorem dX1_lowestBest_33 : decode cX1_lowestBest 33 = .ok (.iload_n 1, 1) := by decide +kernel
theorem dX1_lowestBest_34 : decode cX1_lowestBest 34 = .ok (.ireturn, 1) := by decide +kernel
set_option maxRecDepth 100000 in
set_option maxHeartbeats 4000000 in
theorem c_X1_lowestBest {l : Launch} {D : q_D} (τ : q_T) (σ : q_V) (a0 : Nat) (hI : q_I τ σ) (tA0 : τ a0 = some (1, 1)) : q_Cp l D yX1_lowestBest cX1_lowestBest 3 (some .int) 0 0 τ σ [.ref a0] (fun r => q_r r 0 60) := by
  refine q_meti rfl (Nat.le_of_ble_eq_true rfl) (fun X hG hE => ?_)
  show q_O X 0 0 τ σ 0 [(0, .ref a0)] []
  refine q_iconst (pc := 0) hG dX1_lowestBest_0 ki_0 ?_
  refine q_istore_n (pc := 1) [(1, .int 0), (0, .ref a0)] hG dX1_lowestBest_1 (by decide) rfl ?_
  refine q_iconst (pc := 2) hG dX1_lowestBest_2 ki_1 ?_
  refine q_istore_n (pc := 3) [(2, .int 1), (1, .int 0), (0, .ref a0)] hG dX1_lowestBest_3 (by decide) rfl ?_
  have J4 : ∀ (n4 : Nat) (p4_1 : Int32) (p4_2 : Int32), (q_r p4_1 0 60) → (q_r p4_2 1 61) → ((61 - p4_2.toInt).toNat < n4) → q_O X 0 0 τ σ 4 [(0, .ref a0), (1, .int p4_1), (2, .int p4_2)] [] := by
    intro n4
    induction n4 with
    | zero => intro p4_1 p4_2 r4_1 r4_2 hm4; exact absurd hm4 (Nat.not_lt_zero _)
    | succ n4 ih4 =>
      intro p4_1 p4_2 r4_1 r4_2 hm4
      refine q_iload_n (pc := 4) hG dX1_lowestBest_4 2 rfl ?_
      refine q_bipush (pc := 5) hG dX1_lowestBest_5 kb_61 ?_
      refine q_icmp_ge (pc := 7) hG 33 dX1_lowestBest_7 rfl ?_ ?_
      · intro c7
        refine q_iload_n (pc := 33) hG dX1_lowestBest_33 1 rfl ?_
        exact q_irt hG hE dX1_lowestBest_34 ⟨rfl, r4_1⟩
      intro c7
      refine q_aload_n (pc := 10) hG dX1_lowestBest_10 0 rfl ?_
      refine q_getR (pc := 11) (k2 := 132) (n2 := 61) hG fl_X1_11 dX1_lowestBest_11 hI tA0 ff_1_0 (fun b11 f11 T11 => ?_)
      refine q_iload_n (pc := 14) hG dX1_lowestBest_14 2 rfl ?_
      have r_1 := q_rlt r4_2 rl_61 c7 60 (by decide)
      refine q_iald (pc := 15) hG dX1_lowestBest_15 hI ai_132 T11 (q_ix r_1 (by decide)) (fun v15 f15 g15 => ?_)
      refine q_aload_n (pc := 16) hG dX1_lowestBest_16 0 rfl ?_
      refine q_getV (pc := 17) (v := .ref b11) hG fl_X1_11 dX1_lowestBest_17 tA0 f11 ?_
      refine q_iload_n (pc := 20) hG dX1_lowestBest_20 1 rfl ?_
      refine q_iald (pc := 21) hG dX1_lowestBest_21 hI ai_132 T11 (q_ix r4_1 (by decide)) (fun v21 f21 g21 => ?_)
      have J27 : ∀ (p27_1 : Int32), (q_r p27_1 0 60) → q_O X 0 0 τ σ 27 [(0, .ref a0), (1, .int p27_1), (2, .int p4_2)] [] := by
        intro p27_1 r27_1
        obtain ⟨v27, e27⟩ : ∃ z : Int32, z = p4_2 + Int32.ofInt 1 := ⟨_, rfl⟩
        have h27 := q_incN (lo := 2) (hi := 61) r_1 (by decide) (by decide) e27
        refine q_iinc (pc := 27) [(2, .int v27), (0, .ref a0), (1, .int p27_1)] hG dX1_lowestBest_27 2 rfl e27 (by decide) rfl ?_
        refine q_goto (pc := 30) 4 hG dX1_lowestBest_30 rfl ?_
        refine q_lv [1, 2, 0] rfl ?_
        exact ih4 p27_1 v27 r27_1 (q_r.mono h27.2 (by decide)) (q_measU hm4 (by have o0 := c7; have o1 := h27.1; have o2 := r_1; have o3 := h27.2; have l4 := tl_61; unfold q_r at o2 o3; omega) (h27.2).2)
      refine q_icmp_ge (pc := 22) hG 27 dX1_lowestBest_22 rfl ?_ ?_
      · intro c22
        refine q_lv [0, 1, 2] rfl ?_
        exact J27 p4_1 r4_1
      intro c22
      refine q_iload_n (pc := 25) hG dX1_lowestBest_25 2 rfl ?_
      refine q_istore_n (pc := 26) [(1, .int p4_2), (0, .ref a0), (2, .int p4_2)] hG dX1_lowestBest_26 (by decide) rfl ?_
      refine q_lv [1, 0, 2] rfl ?_
      exact J27 p4_2 (q_r.mono r_1 (by decide))
  refine q_lv [2, 1, 0] rfl ?_
  exact J4 _ 0 1 (q_r.mono rl_0 (by decide)) (q_r.mono rl_1 (by decide)) (Nat.lt_succ_self _)
theorem dX1_offAt_0 : decode cX1_offAt 0 = .ok (.iload_n 2, 1) := by decide +kernel
theorem dX1_offAt_1 : decode cX1_offAt 1 = .ok (.iload_n 1, 1) := by decide +kernel
theorem dX1_offAt_2 : decode cX1_offAt 2 = .ok (.if_icmp .gt 5, 3) := by decide +kernel
theorem dX1_offAt_5 : decode cX1_offAt 5 = .ok (.iconst 0, 1) := by decide +kernel
theorem dX1_offAt_6 : decode cX1_offAt 6 = .ok (.ireturn, 1) := by decide +kernel
theorem dX1_offAt_7 : decode cX1_offAt 7 = .ok (.aload_n 0, 1) := by decide +kernel
theorem dX1_offAt_8 : decode cX1_offAt 8 = .ok (.getfield 43, 3) := by decide +kernel
theorem dX1_offAt_11 : decode cX1_offAt 11 = .ok (.iload_n 2, 1) := by decide +kernel
theorem dX1_offAt_12 : decode cX1_offAt 12 = .ok (.iaload, 1) := by decide +kernel
theorem dX1_offAt_13 : decode cX1_offAt 13 = .ok (.aload_n 0, 1) := by decide +kernel
theorem dX1_offAt_14 : decode cX1_offAt 14 = .ok (.getfield 43, 3) := by decide +kernel
theorem dX1_offAt_17 : decode cX1_offAt 17 = .ok (.iload_n 1, 1) := by decide +kernel
theorem dX1_offAt_18 : decode cX1_offAt 18 = .ok (.iaload, 1) := by decide +kernel
theorem dX1_offAt_19 : decode cX1_offAt 19 = .ok (.isub, 1) := by decide +kernel
theorem dX1_offAt_20 : decode cX1_offAt 20 = .ok (.iload_n 3, 1) := by decide +kernel
theorem dX1_offAt_21 : decode cX1_offAt 21 = .ok (.iload_n 1, 1) := by decide +kernel
theorem dX1_offAt_22 : decode cX1_offAt 22 = .ok (.isub, 1) := by decide +kernel
theorem dX1_offAt_23 : decode cX1_offAt 23 = .ok (.imul, 1) := by decide +kernel
theorem dX1_offAt_24 : decode cX1_offAt 24 = .ok (.iload_n 2, 1) := by decide +kernel
theorem dX1_offAt_25 : decode cX1_offAt 25 = .ok (.iload_n 1, 1) := by decide +kernel
theorem dX1_offAt_26 : decode cX1_offAt 26 = .ok (.isub, 1) := by decide +kernel
theorem dX1_offAt_27 : decode cX1_offAt 27 = .ok (.idiv, 1) := by decide +kernel
theorem dX1_offAt_28 : decode cX1_offAt 28 = .ok (.istore 4, 2) := by decide +kernel
theorem dX1_offAt_30 : decode cX1_offAt 30 = .ok (.aload_n 0, 1) := by decide +kernel
theorem dX1_offAt_31 : decode cX1_offAt 31 = .ok (.getfield 43, 3) := by decide +kernel
theorem dX1_offAt_34 : decode cX1_offAt 34 = .ok (.iload_n 1, 1) := by decide +kernel
theorem dX1_offAt_35 : decode cX1_offAt 35 = .ok (.iaload, 1) := by decide +kernel
theorem dX1_offAt_36 : decode cX1_offAt 36 = .ok (.iload 4, 2) := by decide +kernel
theorem dX1_offAt_38 : decode cX1_offAt 38 = .ok (.iadd, 1) := by decide +kernel
theorem dX1_offAt_39 : decode cX1_offAt 39 = .ok (.aload_n 0, 1) := by decide +kernel
theorem dX1_offAt_40 : decode cX1_offAt 40 = .ok (.getfield 43, 3) := by decide +kernel
theorem dX1_offAt_43 : decode cX1_offAt 43 = .ok (.iload_n 3, 1) := by decide +kernel
theorem dX1_offAt_44 : decode cX1_offAt 44 = .ok (.iaload, 1) := by decide +kernel
theorem dX1_offAt_45 : decode cX1_offAt 45 = .ok (.isub, 1) := by decide +kernel
theorem dX1_offAt_46 : decode cX1_offAt 46 = .ok (.invokestatic 46, 3) := by decide +kernel
theorem dX1_offAt_49 : decode cX1_offAt 49 = .ok (.ireturn, 1) := by decide +kernel
set_option maxRecDepth 100000 in
set_option maxHeartbeats 4000000 in
theorem c_X1_offAt {l : Launch} {D : q_D} (τ : q_T) (σ : q_V) (a0 : Nat) (x1 : Int32) (x2 : Int32) (x3 : Int32) (hI : q_I τ σ) (tA0 : τ a0 = some (6, 1)) (rA1 : q_r x1 0 63) (rA2 : q_r x2 0 63) (rA3 : q_r x3 0 63) : q_Cp l D yX1_offAt cX1_offAt 5 (some .int) 1 20 τ σ [.ref a0, .int x1, .int x2, .int x3] (fun r => q_r r (-2147483648) 2147483647) := by
  refine q_meti rfl (Nat.le_of_ble_eq_true rfl) (fun X hG hE => ?_)
  show q_O X 0 0 τ σ 0 [(0, .ref a0), (1, .int x1), (2, .int x2), (3, .int x3)] []
  refine q_iload_n (pc := 0) hG dX1_offAt_0 2 rfl ?_
  refine q_iload_n (pc := 1) hG dX1_offAt_1 1 rfl ?_
  refine q_icmp_gt (pc := 2) hG 7 dX1_offAt_2 rfl ?_ ?_
  · intro c2
    refine q_aload_n (pc := 7) hG dX1_offAt_7 0 rfl ?_
    refine q_getR (pc := 8) (k2 := 118) (n2 := 64) hG fl_X1_43 dX1_offAt_8 hI tA0 ff_6_1 (fun b8 f8 T8 => ?_)
    refine q_iload_n (pc := 11) hG dX1_offAt_11 2 rfl ?_
    have r_1 := q_rgt rA2 rA1 c2 1 (by decide)
    refine q_iald (pc := 12) hG dX1_offAt_12 hI ai_118 T8 (q_ix r_1 (by decide)) (fun v12 f12 g12 => ?_)
    refine q_aload_n (pc := 13) hG dX1_offAt_13 0 rfl ?_
    refine q_getV (pc := 14) (v := .ref b8) hG fl_X1_43 dX1_offAt_14 tA0 f8 ?_
    refine q_iload_n (pc := 17) hG dX1_offAt_17 1 rfl ?_
    have r_2 := q_rlt rA1 rA2 c2 62 (by decide)
    refine q_iald (pc := 18) hG dX1_offAt_18 hI ai_118 T8 (q_ix r_2 (by decide)) (fun v18 f18 g18 => ?_)
    refine q_isub (pc := 19) hG dX1_offAt_19 (fun v19 e19 => ?_)
    refine q_iload_n (pc := 20) hG dX1_offAt_20 3 rfl ?_
    refine q_iload_n (pc := 21) hG dX1_offAt_21 1 rfl ?_
    refine q_isub (pc := 22) hG dX1_offAt_22 (fun v22 e22 => ?_)
    refine q_imul (pc := 23) hG dX1_offAt_23 (fun v23 e23 => ?_)
    refine q_iload_n (pc := 24) hG dX1_offAt_24 2 rfl ?_
    refine q_iload_n (pc := 25) hG dX1_offAt_25 1 rfl ?_
    refine q_isub (pc := 26) hG dX1_offAt_26 (fun v26 e26 => ?_)
    have r_3 := (q_subN (lo := (-62)) (hi := 63) e22 rA3 r_2 (by decide)).2
    have r_4 := (q_subN (lo := (-61)) (hi := 63) e26 r_1 r_2 (by decide)).2
    refine q_idiv (pc := 27) hG dX1_offAt_27 (q_nz (by have o0 := (q_subN (lo := (-61)) (hi := 63) e26 r_1 r_2 (by decide)).1; have o1 := c2; have o2 := (q_subN (lo := (-62)) (hi := 63) e22 rA3 r_2 (by decide)).1; have o3 := r_3; have o4 := r_4; have o5 := r_2; have o6 := r_1; have o7 := rA3; unfold q_r at o3 o4 o5 o6 o7; omega)) (fun v27 e27 => ?_)
    refine q_istore (pc := 28) [(4, .int v27), (0, .ref a0), (1, .int x1), (2, .int x2), (3, .int x3)] hG dX1_offAt_28 (by decide) rfl ?_
    refine q_aload_n (pc := 30) hG dX1_offAt_30 1 rfl ?_
    refine q_getV (pc := 31) (v := .ref b8) hG fl_X1_43 dX1_offAt_31 tA0 f8 ?_
    refine q_iload_n (pc := 34) hG dX1_offAt_34 2 rfl ?_
    refine q_ialdV (pc := 35) (v := .int v18) hG dX1_offAt_35 T8 (by decide) (by decide) (q_ix r_2 (by decide)) f18 ?_
    refine q_iload (pc := 36) hG dX1_offAt_36 0 rfl ?_
    refine q_iadd (pc := 38) hG dX1_offAt_38 (fun v38 e38 => ?_)
    refine q_aload_n (pc := 39) hG dX1_offAt_39 1 rfl ?_
    refine q_getV (pc := 40) (v := .ref b8) hG fl_X1_43 dX1_offAt_40 tA0 f8 ?_
    refine q_iload_n (pc := 43) hG dX1_offAt_43 4 rfl ?_
    refine q_iald (pc := 44) hG dX1_offAt_44 hI ai_118 T8 (q_ix rA3 (by decide)) (fun v44 f44 g44 => ?_)
    refine q_isub (pc := 45) hG dX1_offAt_45 (fun v45 e45 => ?_)
    refine q_pS (pc := 46) [.int v45] [] hG (c_J9_abs_0f7a4 τ σ v45 hI) my_J9_abs_0f7a4 w271 w535 dX1_offAt_46 rfl rfl (Nat.le_of_ble_eq_true rfl) (by decide) (fun v46 p46 => ?_)
    exact q_irt hG hE dX1_offAt_49 ⟨rfl, p46.1⟩
  intro c2
  refine q_iconst (pc := 5) hG dX1_offAt_5 ki_0 ?_
  exact q_irt hG hE dX1_offAt_6 ⟨rfl, (q_r.mono rl_0 (by decide))⟩
theorem dX1_fitsBetween_0 : decode cX1_fitsBetween 0 = .ok (.iload_n 1, 1) := by decide +kernel
theorem dX1_fitsBetween_1 : decode cX1_fitsBetween 1 = .ok (.iconst 1, 1) := by decide +kernel
theorem dX1_fitsBetween_2 : decode cX1_fitsBetween 2 = .ok (.iadd, 1) := by decide +kernel
theorem dX1_fitsBetween_3 : decode cX1_fitsBetween 3 = .ok (.istore 4, 2) := by decide +kernel
theorem dX1_fitsBetween_5 : decode cX1_fitsBetween 5 = .ok (.iload 4, 2) := by decide +kernel
theorem dX1_fitsBetween_7 : decode cX1_fitsBetween 7 = .ok (.iload_n 2, 1) := by decide +kernel
theorem dX1_fitsBetween_8 : decode cX1_fitsBetween 8 = .ok (.if_icmp .ge 23, 3) := by decide +kernel
theorem dX1_fitsBetween_11 : decode cX1_fitsBetween 11 = .ok (.aload_n 0, 1) := by decide +kernel
theorem dX1_fitsBetween_12 : decode cX1_fitsBetween 12 = .ok (.iload_n 1, 1) := by decide +kernel
theorem dX1_fitsBetween_13 : decode cX1_fitsBetween 13 = .ok (.iload_n 2, 1) := by decide +kernel
theorem dX1_fitsBetween_14 : decode cX1_fitsBetween 14 = .ok (.iload 4, 2) := by decide +kernel
theorem dX1_fitsBetween_16 : decode cX1_fitsBetween 16 = .ok (.invokestatic 79, 3) := by decide +kernel
theorem dX1_fitsBetween_19 : decode cX1_fitsBetween 19 = .ok (.iload_n 3, 1) := by decide +kernel
theorem dX1_fitsBetween_20 : decode cX1_fitsBetween 20 = .ok (.if_icmp .le 5, 3) := by decide +kernel
theorem dX1_fitsBetween_23 : decode cX1_fitsBetween 23 = .ok (.iconst 0, 1) := by decide +kernel
theorem dX1_fitsBetween_24 : decode cX1_fitsBetween 24 = .ok (.ireturn, 1) := by decide +kernel
theorem dX1_fitsBetween_25 : decode cX1_fitsBetween 25 = .ok (.iinc 4 1, 3) := by decide +kernel
theorem dX1_fitsBetween_28 : decode cX1_fitsBetween 28 = .ok (.goto (-23), 3) := by decide +kernel
theorem dX1_fitsBetween_31 : decode cX1_fitsBetween 31 = .ok (.iconst 1, 1) := by decide +kernel
theorem dX1_fitsBetween_32 : decode cX1_fitsBetween 32 = .ok (.ireturn, 1) := by decide +kernel
set_option maxRecDepth 100000 in
set_option maxHeartbeats 4000000 in
theorem c_X1_fitsBetween {l : Launch} {D : q_D} (τ : q_T) (σ : q_V) (a0 : Nat) (x1 : Int32) (x2 : Int32) (x3 : Int32) (hI : q_I τ σ) (tA0 : τ a0 = some (6, 1)) (rA1 : q_r x1 0 63) (rA2 : q_r x2 0 63) : q_Cp l D yX1_fitsBetween cX1_fitsBetween 5 (some .boolean) 2 44 τ σ [.ref a0, .int x1, .int x2, .int x3] (fun r => q_r r 0 1) := by
  refine q_meti rfl (Nat.le_of_ble_eq_true rfl) (fun X hG hE => ?_)
  show q_O X 0 0 τ σ 0 [(0, .ref a0), (1, .int x1), (2, .int x2), (3, .int x3)] []
  refine q_iload_n (pc := 0) hG dX1_fitsBetween_0 1 rfl ?_
  refine q_iconst (pc := 1) hG dX1_fitsBetween_1 ki_1 ?_
  refine q_iadd (pc := 2) hG dX1_fitsBetween_2 (fun v2 e2 => ?_)
  refine q_istore (pc := 3) [(4, .int v2), (0, .ref a0), (1, .int x1), (2, .int x2), (3, .int x3)] hG dX1_fitsBetween_3 (by decide) rfl ?_
  have J5 : ∀ (n5 : Nat) (p5_4 : Int32), (q_r p5_4 1 64) → ((64 - p5_4.toInt).toNat < n5) → q_O X 0 0 τ σ 5 [(0, .ref a0), (1, .int x1), (2, .int x2), (3, .int x3), (4, .int p5_4)] [] := by
    intro n5
    induction n5 with
    | zero => intro p5_4 r5_4 hm5; exact absurd hm5 (Nat.not_lt_zero _)
    | succ n5 ih5 =>
      intro p5_4 r5_4 hm5
      refine q_iload (pc := 5) hG dX1_fitsBetween_5 4 rfl ?_
      refine q_iload_n (pc := 7) hG dX1_fitsBetween_7 2 rfl ?_
      refine q_icmp_ge (pc := 8) hG 31 dX1_fitsBetween_8 rfl ?_ ?_
      · intro c8
        refine q_iconst (pc := 31) hG dX1_fitsBetween_31 ki_1 ?_
        exact q_zrt hG hE dX1_fitsBetween_32 (q_r.mono rl_1 (by decide)) ⟨rfl, (q_r.mono rl_1 (by decide))⟩
      intro c8
      refine q_aload_n (pc := 11) hG dX1_fitsBetween_11 0 rfl ?_
      refine q_iload_n (pc := 12) hG dX1_fitsBetween_12 1 rfl ?_
      refine q_iload_n (pc := 13) hG dX1_fitsBetween_13 2 rfl ?_
      refine q_iload (pc := 14) hG dX1_fitsBetween_14 4 rfl ?_
      have r_1 := q_rgt rA2 r5_4 c8 2 (by decide)
      have r_2 := q_rlt r5_4 rA2 c8 62 (by decide)
      refine q_pS (pc := 16) [.ref a0, .int x1, .int x2, .int p5_4] [] hG (c_X1_offAt τ σ a0 x1 x2 p5_4 hI tA0 rA1 (q_r.mono r_1 (by decide)) (q_r.mono r_2 (by decide))) my_X1_offAt w554 w553 dX1_fitsBetween_16 rfl rfl (Nat.le_of_ble_eq_true rfl) (by decide) (fun v16 p16 => ?_)
      refine q_iload_n (pc := 19) hG dX1_fitsBetween_19 3 rfl ?_
      refine q_icmp_le (pc := 20) hG 25 dX1_fitsBetween_20 rfl ?_ ?_
      · intro c20
        obtain ⟨v25, e25⟩ : ∃ z : Int32, z = p5_4 + Int32.ofInt 1 := ⟨_, rfl⟩
        have h25 := q_incN (lo := 2) (hi := 63) r_2 (by decide) (by decide) e25
        refine q_iinc (pc := 25) [(4, .int v25), (0, .ref a0), (1, .int x1), (2, .int x2), (3, .int x3)] hG dX1_fitsBetween_25 4 rfl e25 (by decide) rfl ?_
        refine q_goto (pc := 28) 5 hG dX1_fitsBetween_28 rfl ?_
        refine q_lv [1, 2, 3, 4, 0] rfl ?_
        exact ih5 v25 (q_r.mono h25.2 (by decide)) (q_measU hm5 (by have o0 := c8; have o1 := h25.1; have o2 := r_2; have o3 := h25.2; have o4 := r_1; unfold q_r at o2 o3 o4; omega) (q_r.mono h25.2 (by decide : ((-2147483648) : Int) ≤ 2 ∧ (63 : Int) ≤ 64)).2)
      intro c20
      refine q_iconst (pc := 23) hG dX1_fitsBetween_23 ki_0 ?_
      exact q_zrt hG hE dX1_fitsBetween_24 (q_r.mono rl_0 (by decide)) ⟨rfl, (q_r.mono rl_0 (by decide))⟩
  refine q_lv [1, 2, 3, 4, 0] rfl ?_
  have r_3 := (q_addN (lo := 1) (hi := 64) e2 rA1 rl_1 (by decide)).2
  exact J5 _ v2 r_3 (Nat.lt_succ_self _)
theorem dX1_offBetween_0 : decode cX1_offBetween 0 = .ok (.iconst 0, 1) := by decide +kernel
theorem dX1_offBetween_1 : decode cX1_offBetween 1 = .ok (.istore_n 3, 1) := by decide +kernel
theorem dX1_offBetween_2 : decode cX1_offBetween 2 = .ok (.iload_n 1, 1) := by decide +kernel
theorem dX1_offBetween_3 : decode cX1_offBetween 3 = .ok (.iconst 1, 1) := by decide +kernel
theorem dX1_offBetween_4 : decode cX1_offBetween 4 = .ok (.iadd, 1) := by decide +kernel
theorem dX1_offBetween_5 : decode cX1_offBetween 5 = .ok (.istore 4, 2) := by decide +kernel
theorem dX1_offBetween_7 : decode cX1_offBetween 7 = .ok (.iload 4, 2) := by decide +kernel
theorem dX1_offBetween_9 : decode cX1_offBetween 9 = .ok (.iload_n 2, 1) := by decide +kernel
theorem dX1_offBetween_10 : decode cX1_offBetween 10 = .ok (.if_icmp .ge 20, 3) := by decide +kernel
theorem dX1_offBetween_13 : decode cX1_offBetween 13 = .ok (.iload_n 3, 1) := by decide +kernel
theorem dX1_offBetween_14 : decode cX1_offBetween 14 = .ok (.aload_n 0, 1) := by decide +kernel
theorem dX1_offBetween_15 : decode cX1_offBetween 15 = .ok (.iload_n 1, 1) := by decide +kernel
theorem dX1_offBetween_16 : decode cX1_offBetween 16 = .ok (.iload_n 2, 1) := by decide +kernel
theorem dX1_offBetween_17 : decode cX1_offBetween 17 = .ok (.iload 4, 2) := by decide +kernel
theorem dX1_offBetween_19 : decode cX1_offBetween 19 = .ok (.invokestatic 79, 3) := by decide +kernel
theorem dX1_offBetween_22 : decode cX1_offBetween 22 = .ok (.iadd, 1) := by decide +kernel
theorem dX1_offBetween_23 : decode cX1_offBetween 23 = .ok (.istore_n 3, 1) := by decide +kernel
theorem dX1_offBetween_24 : decode cX1_offBetween 24 = .ok (.iinc 4 1, 3) := by decide +kernel
theorem dX1_offBetween_27 : decode cX1_offBetween 27 = .ok (.goto (-20), 3) := by decide +kernel
theorem dX1_offBetween_30 : decode cX1_offBetween 30 = .ok (.iload_n 3, 1) := by decide +kernel
theorem dX1_offBetween_31 : decode cX1_offBetween 31 = .ok (.ireturn, 1) := by decide +kernel
set_option maxRecDepth 100000 in
set_option maxHeartbeats 4000000 in
theorem c_X1_offBetween {l : Launch} {D : q_D} (τ : q_T) (σ : q_V) (a0 : Nat) (x1 : Int32) (x2 : Int32) (hI : q_I τ σ) (tA0 : τ a0 = some (6, 1)) (rA1 : q_r x1 0 63) (rA2 : q_r x2 0 63) : q_Cp l D yX1_offBetween cX1_offBetween 5 (some .int) 2 44 τ σ [.ref a0, .int x1, .int x2] (fun r => q_r r (-2147483648) 2147483647) := by
  refine q_meti rfl (Nat.le_of_ble_eq_true rfl) (fun X hG hE => ?_)
  show q_O X 0 0 τ σ 0 [(0, .ref a0), (1, .int x1), (2, .int x2)] []
  refine q_iconst (pc := 0) hG dX1_offBetween_0 ki_0 ?_
  refine q_istore_n (pc := 1) [(3, .int 0), (0, .ref a0), (1, .int x1), (2, .int x2)] hG dX1_offBetween_1 (by decide) rfl ?_
  refine q_iload_n (pc := 2) hG dX1_offBetween_2 2 rfl ?_
  refine q_iconst (pc := 3) hG dX1_offBetween_3 ki_1 ?_
  refine q_iadd (pc := 4) hG dX1_offBetween_4 (fun v4 e4 => ?_)
  refine q_istore (pc := 5) [(4, .int v4), (3, .int 0), (0, .ref a0), (1, .int x1), (2, .int x2)] hG dX1_offBetween_5 (by decide) rfl ?_
  have J7 : ∀ (n7 : Nat) (p7_3 : Int32) (p7_4 : Int32), (q_r p7_4 1 64) → ((64 - p7_4.toInt).toNat < n7) → q_O X 0 0 τ σ 7 [(0, .ref a0), (1, .int x1), (2, .int x2), (3, .int p7_3), (4, .int p7_4)] [] := by
    intro n7
    induction n7 with
    | zero => intro p7_3 p7_4 r7_4 hm7; exact absurd hm7 (Nat.not_lt_zero _)
    | succ n7 ih7 =>
      intro p7_3 p7_4 r7_4 hm7
      refine q_iload (pc := 7) hG dX1_offBetween_7 4 rfl ?_
      refine q_iload_n (pc := 9) hG dX1_offBetween_9 2 rfl ?_
      refine q_icmp_ge (pc := 10) hG 30 dX1_offBetween_10 rfl ?_ ?_
      · intro c10
        refine q_iload_n (pc := 30) hG dX1_offBetween_30 3 rfl ?_
        exact q_irt hG hE dX1_offBetween_31 ⟨rfl, (q_r_any p7_3)⟩
      intro c10
      refine q_iload_n (pc := 13) hG dX1_offBetween_13 3 rfl ?_
      refine q_aload_n (pc := 14) hG dX1_offBetween_14 0 rfl ?_
      refine q_iload_n (pc := 15) hG dX1_offBetween_15 1 rfl ?_
      refine q_iload_n (pc := 16) hG dX1_offBetween_16 2 rfl ?_
      refine q_iload (pc := 17) hG dX1_offBetween_17 4 rfl ?_
      have r_1 := q_rgt rA2 r7_4 c10 2 (by decide)
      have r_2 := q_rlt r7_4 rA2 c10 62 (by decide)
      refine q_pS (pc := 19) [.ref a0, .int x1, .int x2, .int p7_4] [.int p7_3] hG (c_X1_offAt τ σ a0 x1 x2 p7_4 hI tA0 rA1 (q_r.mono r_1 (by decide)) (q_r.mono r_2 (by decide))) my_X1_offAt w554 w553 dX1_offBetween_19 rfl rfl (Nat.le_of_ble_eq_true rfl) (by decide) (fun v19 p19 => ?_)
      refine q_iadd (pc := 22) hG dX1_offBetween_22 (fun v22 e22 => ?_)
      refine q_istore_n (pc := 23) [(3, .int v22), (0, .ref a0), (1, .int x1), (2, .int x2), (4, .int p7_4)] hG dX1_offBetween_23 (by decide) rfl ?_
      obtain ⟨v24, e24⟩ : ∃ z : Int32, z = p7_4 + Int32.ofInt 1 := ⟨_, rfl⟩
      have h24 := q_incN (lo := 2) (hi := 63) r_2 (by decide) (by decide) e24
      refine q_iinc (pc := 24) [(4, .int v24), (3, .int v22), (0, .ref a0), (1, .int x1), (2, .int x2)] hG dX1_offBetween_24 4 rfl e24 (by decide) rfl ?_
      refine q_goto (pc := 27) 7 hG dX1_offBetween_27 rfl ?_
      refine q_lv [2, 3, 4, 1, 0] rfl ?_
      exact ih7 v22 v24 (q_r.mono h24.2 (by decide)) (q_measU hm7 (by have o0 := c10; have o1 := h24.1; have o2 := r_2; have o3 := h24.2; have o4 := r_1; unfold q_r at o2 o3 o4; omega) (q_r.mono h24.2 (by decide : ((-2147483648) : Int) ≤ 2 ∧ (63 : Int) ≤ 64)).2)
  refine q_lv [2, 3, 4, 1, 0] rfl ?_
  have r_3 := (q_addN (lo := 1) (hi := 64) e4 rA1 rl_1 (by decide)).2
  exact J7 _ 0 v4 r_3 (Nat.lt_succ_self _)
theorem dX1_fitsApart_0 : decode cX1_fitsApart 0 = .ok (.iconst 0, 1) := by decide +kernel
theorem dX1_fitsApart_1 : decode cX1_fitsApart 1 = .ok (.istore_n 3, 1) := by decide +kernel
theorem dX1_fitsApart_2 : decode cX1_fitsApart 2 = .ok (.iload_n 3, 1) := by decide +kernel
theorem dX1_fitsApart_3 : decode cX1_fitsApart 3 = .ok (.aload_n 0, 1) := by decide +kernel
theorem dX1_fitsApart_4 : decode cX1_fitsApart 4 = .ok (.getfield 27, 3) := by decide +kernel
theorem dX1_fitsApart_7 : decode cX1_fitsApart 7 = .ok (.iconst 1, 1) := by decide +kernel
theorem dX1_fitsApart_8 : decode cX1_fitsApart 8 = .ok (.isub, 1) := by decide +kernel
theorem dX1_fitsApart_9 : decode cX1_fitsApart 9 = .ok (.if_icmp .ge 37, 3) := by decide +kernel
theorem dX1_fitsApart_12 : decode cX1_fitsApart 12 = .ok (.aload_n 0, 1) := by decide +kernel
theorem dX1_fitsApart_13 : decode cX1_fitsApart 13 = .ok (.iload_n 3, 1) := by decide +kernel
theorem dX1_fitsApart_14 : decode cX1_fitsApart 14 = .ok (.iload_n 3, 1) := by decide +kernel
theorem dX1_fitsApart_15 : decode cX1_fitsApart 15 = .ok (.iload_n 1, 1) := by decide +kernel
theorem dX1_fitsApart_16 : decode cX1_fitsApart 16 = .ok (.iadd, 1) := by decide +kernel
theorem dX1_fitsApart_17 : decode cX1_fitsApart 17 = .ok (.aload_n 0, 1) := by decide +kernel
theorem dX1_fitsApart_18 : decode cX1_fitsApart 18 = .ok (.getfield 27, 3) := by decide +kernel
theorem dX1_fitsApart_21 : decode cX1_fitsApart 21 = .ok (.iconst 1, 1) := by decide +kernel
theorem dX1_fitsApart_22 : decode cX1_fitsApart 22 = .ok (.isub, 1) := by decide +kernel
theorem dX1_fitsApart_23 : decode cX1_fitsApart 23 = .ok (.invokestatic 63, 3) := by decide +kernel
theorem dX1_fitsApart_26 : decode cX1_fitsApart 26 = .ok (.iload_n 2, 1) := by decide +kernel
theorem dX1_fitsApart_27 : decode cX1_fitsApart 27 = .ok (.invokestatic 67, 3) := by decide +kernel
theorem dX1_fitsApart_30 : decode cX1_fitsApart 30 = .ok (.ifCond .ne 5, 3) := by decide +kernel
theorem dX1_fitsApart_33 : decode cX1_fitsApart 33 = .ok (.iconst 0, 1) := by decide +kernel
theorem dX1_fitsApart_34 : decode cX1_fitsApart 34 = .ok (.ireturn, 1) := by decide +kernel
theorem dX1_fitsApart_35 : decode cX1_fitsApart 35 = .ok (.iload_n 3, 1) := by decide +kernel
theorem dX1_fitsApart_36 : decode cX1_fitsApart 36 = .ok (.iconst 1, 1) := by decide +kernel
theorem dX1_fitsApart_37 : decode cX1_fitsApart 37 = .ok (.iload_n 1, 1) := by decide +kernel
theorem dX1_fitsApart_38 : decode cX1_fitsApart 38 = .ok (.invokestatic 71, 3) := by decide +kernel
theorem dX1_fitsApart_41 : decode cX1_fitsApart 41 = .ok (.iadd, 1) := by decide +kernel
theorem dX1_fitsApart_42 : decode cX1_fitsApart 42 = .ok (.istore_n 3, 1) := by decide +kernel
theorem dX1_fitsApart_43 : decode cX1_fitsApart 43 = .ok (.goto (-41), 3) := by decide +kernel
theorem dX1_fitsApart_46 : decode cX1_fitsApart 46 = .ok (.iconst 1, 1) := by decide +kernel
theorem dX1_fitsApart_47 : decode cX1_fitsApart 47 = .ok (.ireturn, 1) := by decide +kernel
set_option maxRecDepth 100000 in
set_option maxHeartbeats 4000000 in
theorem c_X1_fitsApart {l : Launch} {D : q_D} (τ : q_T) (σ : q_V) (a0 : Nat) (x1 : Int32) (x2 : Int32) (hI : q_I τ σ) (tA0 : τ a0 = some (6, 1)) (rA1 : q_r x1 1 16) : q_Cp l D yX1_fitsApart cX1_fitsApart 4 (some .boolean) 3 68 τ σ [.ref a0, .int x1, .int x2] (fun r => q_r r 0 1) := by
  refine q_meti rfl (Nat.le_of_ble_eq_true rfl) (fun X hG hE => ?_)
  show q_O X 0 0 τ σ 0 [(0, .ref a0), (1, .int x1), (2, .int x2)] []
  refine q_iconst (pc := 0) hG dX1_fitsApart_0 ki_0 ?_
  refine q_istore_n (pc := 1) [(3, .int 0), (0, .ref a0), (1, .int x1), (2, .int x2)] hG dX1_fitsApart_1 (by decide) rfl ?_
  have J2 : ∀ (n2 : Nat) (p2_3 : Int32), (q_r p2_3 0 78) → ((78 - p2_3.toInt).toNat < n2) → q_O X 0 0 τ σ 2 [(0, .ref a0), (1, .int x1), (2, .int x2), (3, .int p2_3)] [] := by
    intro n2
    induction n2 with
    | zero => intro p2_3 r2_3 hm2; exact absurd hm2 (Nat.not_lt_zero _)
    | succ n2 ih2 =>
      intro p2_3 r2_3 hm2
      refine q_iload_n (pc := 2) hG dX1_fitsApart_2 3 rfl ?_
      refine q_aload_n (pc := 3) hG dX1_fitsApart_3 0 rfl ?_
      refine q_getI (pc := 4) hG fl_X1_27 dX1_fitsApart_4 hI tA0 ff_6_0 (fun v4 f4 g4 => ?_)
      refine q_iconst (pc := 7) hG dX1_fitsApart_7 ki_1 ?_
      refine q_isub (pc := 8) hG dX1_fitsApart_8 (fun v8 e8 => ?_)
      refine q_icmp_ge (pc := 9) hG 46 dX1_fitsApart_9 rfl ?_ ?_
      · intro c9
        have r_1 := (q_subN (lo := 7) (hi := 63) e8 g4 rl_1 (by decide)).2
        refine q_iconst (pc := 46) hG dX1_fitsApart_46 ki_1 ?_
        exact q_zrt hG hE dX1_fitsApart_47 (q_r.mono rl_1 (by decide)) ⟨rfl, (q_r.mono rl_1 (by decide))⟩
      intro c9
      have r_2 := (q_subN (lo := 7) (hi := 63) e8 g4 rl_1 (by decide)).2
      refine q_aload_n (pc := 12) hG dX1_fitsApart_12 0 rfl ?_
      refine q_iload_n (pc := 13) hG dX1_fitsApart_13 3 rfl ?_
      refine q_iload_n (pc := 14) hG dX1_fitsApart_14 3 rfl ?_
      refine q_iload_n (pc := 15) hG dX1_fitsApart_15 1 rfl ?_
      refine q_iadd (pc := 16) hG dX1_fitsApart_16 (fun v16 e16 => ?_)
      have r_3 := q_rlt r2_3 r_2 c9 62 (by decide)
      refine q_aload_n (pc := 17) hG dX1_fitsApart_17 0 rfl ?_
      refine q_getV (pc := 18) (v := .int v4) hG fl_X1_27 dX1_fitsApart_18 tA0 f4 ?_
      refine q_iconst (pc := 21) hG dX1_fitsApart_21 ki_1 ?_
      refine q_isub (pc := 22) hG dX1_fitsApart_22 (fun v22 e22 => ?_)
      rw [e22.trans e8.symm]
      refine q_pS (pc := 23) [.int v16, .int v8] [.int p2_3, .ref a0] hG (c_J9_min_7cf53 τ σ v16 v8 hI) my_J9_min_7cf53 w250 w549 dX1_fitsApart_23 rfl rfl (Nat.le_of_ble_eq_true rfl) (by decide) (fun v23 p23 => ?_)
      have r_4 := (q_addN (lo := 1) (hi := 78) e16 r_3 rA1 (by decide)).2
      refine q_iload_n (pc := 26) hG dX1_fitsApart_26 2 rfl ?_
      have r_5 := q_minN (lo := 1) (hi := 63) p23.2.2 r_4 r_2 (by decide)
      refine q_pS (pc := 27) [.ref a0, .int p2_3, .int v23, .int x2] [] hG (c_X1_fitsBetween τ σ a0 p2_3 v23 x2 hI tA0 (q_r.mono r_3 (by decide)) (q_r.mono r_5 (by decide))) my_X1_fitsBetween w551 w550 dX1_fitsApart_27 rfl rfl (Nat.le_of_ble_eq_true rfl) (by decide) (fun v27 p27 => ?_)
      refine q_if_ne (pc := 30) hG 35 dX1_fitsApart_30 rfl ?_ ?_
      · intro c30
        refine q_iload_n (pc := 35) hG dX1_fitsApart_35 3 rfl ?_
        refine q_iconst (pc := 36) hG dX1_fitsApart_36 ki_1 ?_
        refine q_iload_n (pc := 37) hG dX1_fitsApart_37 1 rfl ?_
        refine q_pS (pc := 38) [.int 1, .int x1] [.int p2_3] hG (c_J9_max_7cf53 τ σ 1 x1 hI) my_J9_max_7cf53 w262 w556 dX1_fitsApart_38 rfl rfl (Nat.le_of_ble_eq_true rfl) (by decide) (fun v38 p38 => ?_)
        refine q_iadd (pc := 41) hG dX1_fitsApart_41 (fun v41 e41 => ?_)
        have r_6 := q_maxN (lo := 1) (hi := 16) p38.2.2 rl_1 rA1 (by decide)
        refine q_istore_n (pc := 42) [(3, .int v41), (0, .ref a0), (1, .int x1), (2, .int x2)] hG dX1_fitsApart_42 (by decide) rfl ?_
        refine q_goto (pc := 43) 2 hG dX1_fitsApart_43 rfl ?_
        refine q_lv [1, 2, 3, 0] rfl ?_
        have r_7 := (q_addN (lo := 1) (hi := 78) e41 r_3 r_6 (by decide)).2
        exact ih2 v41 (q_r.mono r_7 (by decide)) (q_measU hm2 (by have o0 := c9; have o1 := (q_addN (lo := 1) (hi := 78) e16 r_3 rA1 (by decide)).1; have o2 := p23.2.2; have o3 := p38.2.2; have o4 := (q_addN (lo := 1) (hi := 78) e41 r_3 r_6 (by decide)).1; have o5 := (q_subN (lo := 7) (hi := 63) e8 g4 rl_1 (by decide)).1; have o6 := r_3; have o7 := r_4; have o8 := r_5; have o9 := r_6; have o10 := g4; have o11 := r_7; have o12 := r_2; have o13 := rA1; have l14 := tl_1; unfold q_r at o6 o7 o8 o9 o10 o11 o12 o13; omega) (r_7).2)
      intro c30
      refine q_iconst (pc := 33) hG dX1_fitsApart_33 ki_0 ?_
      exact q_zrt hG hE dX1_fitsApart_34 (q_r.mono rl_0 (by decide)) ⟨rfl, (q_r.mono rl_0 (by decide))⟩
  refine q_lv [1, 2, 3, 0] rfl ?_
  exact J2 _ 0 (q_r.mono rl_0 (by decide)) (Nat.lt_succ_self _)
theorem dX1_greatestApart_0 : decode cX1_greatestApart 0 = .ok (.bipush 16, 2) := by decide +kernel
theorem dX1_greatestApart_2 : decode cX1_greatestApart 2 = .ok (.istore_n 2, 1) := by decide +kernel
theorem dX1_greatestApart_3 : decode cX1_greatestApart 3 = .ok (.iload_n 2, 1) := by decide +kernel
theorem dX1_greatestApart_4 : decode cX1_greatestApart 4 = .ok (.iconst 1, 1) := by decide +kernel
theorem dX1_greatestApart_5 : decode cX1_greatestApart 5 = .ok (.if_icmp .le 20, 3) := by decide +kernel
theorem dX1_greatestApart_8 : decode cX1_greatestApart 8 = .ok (.aload_n 0, 1) := by decide +kernel
theorem dX1_greatestApart_9 : decode cX1_greatestApart 9 = .ok (.iload_n 2, 1) := by decide +kernel
theorem dX1_greatestApart_10 : decode cX1_greatestApart 10 = .ok (.iload_n 1, 1) := by decide +kernel
theorem dX1_greatestApart_11 : decode cX1_greatestApart 11 = .ok (.invokestatic 59, 3) := by decide +kernel
theorem dX1_greatestApart_14 : decode cX1_greatestApart 14 = .ok (.ifCond .eq 5, 3) := by decide +kernel
theorem dX1_greatestApart_17 : decode cX1_greatestApart 17 = .ok (.iload_n 2, 1) := by decide +kernel
theorem dX1_greatestApart_18 : decode cX1_greatestApart 18 = .ok (.ireturn, 1) := by decide +kernel
theorem dX1_greatestApart_19 : decode cX1_greatestApart 19 = .ok (.iinc 2 (-1), 3) := by decide +kernel
theorem dX1_greatestApart_22 : decode cX1_greatestApart 22 = .ok (.goto (-19), 3) := by decide +kernel
theorem dX1_greatestApart_25 : decode cX1_greatestApart 25 = .ok (.iconst 1, 1) := by decide +kernel
theorem dX1_greatestApart_26 : decode cX1_greatestApart 26 = .ok (.ireturn, 1) := by decide +kernel
set_option maxRecDepth 100000 in
set_option maxHeartbeats 4000000 in
theorem c_X1_greatestApart {l : Launch} {D : q_D} (τ : q_T) (σ : q_V) (a0 : Nat) (x1 : Int32) (hI : q_I τ σ) (tA0 : τ a0 = some (6, 1)) : q_Cp l D yX1_greatestApart cX1_greatestApart 3 (some .int) 4 91 τ σ [.ref a0, .int x1] (fun r => q_r r 1 16) := by
  refine q_meti rfl (Nat.le_of_ble_eq_true rfl) (fun X hG hE => ?_)
  show q_O X 0 0 τ σ 0 [(0, .ref a0), (1, .int x1)] []
  refine q_bipush (pc := 0) hG dX1_greatestApart_0 kb_16 ?_
  refine q_istore_n (pc := 2) [(2, .int 16), (0, .ref a0), (1, .int x1)] hG dX1_greatestApart_2 (by decide) rfl ?_
  have J3 : ∀ (n3 : Nat) (p3_2 : Int32), (q_r p3_2 1 16) → ((p3_2.toInt - 1).toNat < n3) → q_O X 0 0 τ σ 3 [(0, .ref a0), (1, .int x1), (2, .int p3_2)] [] := by
    intro n3
    induction n3 with
    | zero => intro p3_2 r3_2 hm3; exact absurd hm3 (Nat.not_lt_zero _)
    | succ n3 ih3 =>
      intro p3_2 r3_2 hm3
      refine q_iload_n (pc := 3) hG dX1_greatestApart_3 2 rfl ?_
      refine q_iconst (pc := 4) hG dX1_greatestApart_4 ki_1 ?_
      refine q_icmp_le (pc := 5) hG 25 dX1_greatestApart_5 rfl ?_ ?_
      · intro c5
        refine q_iconst (pc := 25) hG dX1_greatestApart_25 ki_1 ?_
        exact q_irt hG hE dX1_greatestApart_26 ⟨rfl, (q_r.mono rl_1 (by decide))⟩
      intro c5
      refine q_aload_n (pc := 8) hG dX1_greatestApart_8 0 rfl ?_
      refine q_iload_n (pc := 9) hG dX1_greatestApart_9 2 rfl ?_
      refine q_iload_n (pc := 10) hG dX1_greatestApart_10 1 rfl ?_
      have r_1 := q_rgt r3_2 rl_1 c5 2 (by decide)
      refine q_pS (pc := 11) [.ref a0, .int p3_2, .int x1] [] hG (c_X1_fitsApart τ σ a0 p3_2 x1 hI tA0 (q_r.mono r_1 (by decide))) my_X1_fitsApart w547 w546 dX1_greatestApart_11 rfl rfl (Nat.le_of_ble_eq_true rfl) (by decide) (fun v11 p11 => ?_)
      refine q_if_eq (pc := 14) hG 19 dX1_greatestApart_14 rfl ?_ ?_
      · intro c14
        obtain ⟨v19, e19⟩ : ∃ z : Int32, z = p3_2 + Int32.ofInt (-1) := ⟨_, rfl⟩
        have h19 := q_incN (lo := 1) (hi := 15) r_1 (by decide) (by decide) e19
        refine q_iinc (pc := 19) [(2, .int v19), (0, .ref a0), (1, .int x1)] hG dX1_greatestApart_19 2 rfl e19 (by decide) rfl ?_
        refine q_goto (pc := 22) 3 hG dX1_greatestApart_22 rfl ?_
        refine q_lv [1, 2, 0] rfl ?_
        exact ih3 v19 (q_r.mono h19.2 (by decide)) (q_measD hm3 (by have o0 := c5; have o1 := h19.1; have o2 := r_1; have o3 := h19.2; have l4 := tl_1; unfold q_r at o2 o3; omega) (h19.2).1)
      intro c14
      refine q_iload_n (pc := 17) hG dX1_greatestApart_17 2 rfl ?_
      exact q_irt hG hE dX1_greatestApart_18 ⟨rfl, (q_r.mono r_1 (by decide))⟩
  refine q_lv [1, 2, 0] rfl ?_
  exact J3 _ 16 (q_r.mono rl_16 (by decide)) (Nat.lt_succ_self _)
theorem dX1_offByApart_0 : decode cX1_offByApart 0 = .ok (.iconst 0, 1) := by decide +kernel
theorem dX1_offByApart_1 : decode cX1_offByApart 1 = .ok (.istore_n 2, 1) := by decide +kernel
theorem dX1_offByApart_2 : decode cX1_offByApart 2 = .ok (.iconst 0, 1) := by decide +kernel
theorem dX1_offByApart_3 : decode cX1_offByApart 3 = .ok (.istore_n 3, 1) := by decide +kernel
theorem dX1_offByApart_4 : decode cX1_offByApart 4 = .ok (.iload_n 3, 1) := by decide +kernel
theorem dX1_offByApart_5 : decode cX1_offByApart 5 = .ok (.aload_n 0, 1) := by decide +kernel
theorem dX1_offByApart_6 : decode cX1_offByApart 6 = .ok (.getfield 27, 3) := by decide +kernel
theorem dX1_offByApart_9 : decode cX1_offByApart 9 = .ok (.iconst 1, 1) := by decide +kernel
theorem dX1_offByApart_10 : decode cX1_offByApart 10 = .ok (.isub, 1) := by decide +kernel
theorem dX1_offByApart_11 : decode cX1_offByApart 11 = .ok (.if_icmp .ge 34, 3) := by decide +kernel
theorem dX1_offByApart_14 : decode cX1_offByApart 14 = .ok (.iload_n 2, 1) := by decide +kernel
theorem dX1_offByApart_15 : decode cX1_offByApart 15 = .ok (.aload_n 0, 1) := by decide +kernel
theorem dX1_offByApart_16 : decode cX1_offByApart 16 = .ok (.iload_n 3, 1) := by decide +kernel
theorem dX1_offByApart_17 : decode cX1_offByApart 17 = .ok (.iload_n 3, 1) := by decide +kernel
theorem dX1_offByApart_18 : decode cX1_offByApart 18 = .ok (.iload_n 1, 1) := by decide +kernel
theorem dX1_offByApart_19 : decode cX1_offByApart 19 = .ok (.iadd, 1) := by decide +kernel
theorem dX1_offByApart_20 : decode cX1_offByApart 20 = .ok (.aload_n 0, 1) := by decide +kernel
theorem dX1_offByApart_21 : decode cX1_offByApart 21 = .ok (.getfield 27, 3) := by decide +kernel
theorem dX1_offByApart_24 : decode cX1_offByApart 24 = .ok (.iconst 1, 1) := by decide +kernel
theorem dX1_offByApart_25 : decode cX1_offByApart 25 = .ok (.isub, 1) := by decide +kernel
theorem dX1_offByApart_26 : decode cX1_offByApart 26 = .ok (.invokestatic 63, 3) := by decide +kernel
theorem dX1_offByApart_29 : decode cX1_offByApart 29 = .ok (.invokestatic 74, 3) := by decide +kernel
theorem dX1_offByApart_32 : decode cX1_offByApart 32 = .ok (.iadd, 1) := by decide +kernel
theorem dX1_offByApart_33 : decode cX1_offByApart 33 = .ok (.istore_n 2, 1) := by decide +kernel
theorem dX1_offByApart_34 : decode cX1_offByApart 34 = .ok (.iload_n 3, 1) := by decide +kernel
theorem dX1_offByApart_35 : decode cX1_offByApart 35 = .ok (.iconst 1, 1) := by decide +kernel
theorem dX1_offByApart_36 : decode cX1_offByApart 36 = .ok (.iload_n 1, 1) := by decide +kernel
theorem dX1_offByApart_37 : decode cX1_offByApart 37 = .ok (.invokestatic 71, 3) := by decide +kernel
theorem dX1_offByApart_40 : decode cX1_offByApart 40 = .ok (.iadd, 1) := by decide +kernel
theorem dX1_offByApart_41 : decode cX1_offByApart 41 = .ok (.istore_n 3, 1) := by decide +kernel
theorem dX1_offByApart_42 : decode cX1_offByApart 42 = .ok (.goto (-38), 3) := by decide +kernel
theorem dX1_offByApart_45 : decode cX1_offByApart 45 = .ok (.iload_n 2, 1) := by decide +kernel
theorem dX1_offByApart_46 : decode cX1_offByApart 46 = .ok (.ireturn, 1) := by decide +kernel
set_option maxRecDepth 100000 in
set_option maxHeartbeats 4000000 in
theorem c_X1_offByApart {l : Launch} {D : q_D} (τ : q_T) (σ : q_V) (a0 : Nat) (x1 : Int32) (hI : q_I τ σ) (tA0 : τ a0 = some (6, 1)) (rA1 : q_r x1 1 16) : q_Cp l D yX1_offByApart cX1_offByApart 4 (some .int) 3 68 τ σ [.ref a0, .int x1] (fun r => q_r r (-2147483648) 2147483647) := by
  refine q_meti rfl (Nat.le_of_ble_eq_true rfl) (fun X hG hE => ?_)
  show q_O X 0 0 τ σ 0 [(0, .ref a0), (1, .int x1)] []
  refine q_iconst (pc := 0) hG dX1_offByApart_0 ki_0 ?_
  refine q_istore_n (pc := 1) [(2, .int 0), (0, .ref a0), (1, .int x1)] hG dX1_offByApart_1 (by decide) rfl ?_
  refine q_iconst (pc := 2) hG dX1_offByApart_2 ki_0 ?_
  refine q_istore_n (pc := 3) [(3, .int 0), (2, .int 0), (0, .ref a0), (1, .int x1)] hG dX1_offByApart_3 (by decide) rfl ?_
  have J4 : ∀ (n4 : Nat) (p4_2 : Int32) (p4_3 : Int32), (q_r p4_3 0 78) → ((78 - p4_3.toInt).toNat < n4) → q_O X 0 0 τ σ 4 [(0, .ref a0), (1, .int x1), (2, .int p4_2), (3, .int p4_3)] [] := by
    intro n4
    induction n4 with
    | zero => intro p4_2 p4_3 r4_3 hm4; exact absurd hm4 (Nat.not_lt_zero _)
    | succ n4 ih4 =>
      intro p4_2 p4_3 r4_3 hm4
      refine q_iload_n (pc := 4) hG dX1_offByApart_4 3 rfl ?_
      refine q_aload_n (pc := 5) hG dX1_offByApart_5 0 rfl ?_
      refine q_getI (pc := 6) hG fl_X1_27 dX1_offByApart_6 hI tA0 ff_6_0 (fun v6 f6 g6 => ?_)
      refine q_iconst (pc := 9) hG dX1_offByApart_9 ki_1 ?_
      refine q_isub (pc := 10) hG dX1_offByApart_10 (fun v10 e10 => ?_)
      refine q_icmp_ge (pc := 11) hG 45 dX1_offByApart_11 rfl ?_ ?_
      · intro c11
        have r_1 := (q_subN (lo := 7) (hi := 63) e10 g6 rl_1 (by decide)).2
        refine q_iload_n (pc := 45) hG dX1_offByApart_45 2 rfl ?_
        exact q_irt hG hE dX1_offByApart_46 ⟨rfl, (q_r_any p4_2)⟩
      intro c11
      have r_2 := (q_subN (lo := 7) (hi := 63) e10 g6 rl_1 (by decide)).2
      refine q_iload_n (pc := 14) hG dX1_offByApart_14 2 rfl ?_
      refine q_aload_n (pc := 15) hG dX1_offByApart_15 0 rfl ?_
      refine q_iload_n (pc := 16) hG dX1_offByApart_16 3 rfl ?_
      refine q_iload_n (pc := 17) hG dX1_offByApart_17 3 rfl ?_
      refine q_iload_n (pc := 18) hG dX1_offByApart_18 1 rfl ?_
      refine q_iadd (pc := 19) hG dX1_offByApart_19 (fun v19 e19 => ?_)
      have r_3 := q_rlt r4_3 r_2 c11 62 (by decide)
      refine q_aload_n (pc := 20) hG dX1_offByApart_20 0 rfl ?_
      refine q_getV (pc := 21) (v := .int v6) hG fl_X1_27 dX1_offByApart_21 tA0 f6 ?_
      refine q_iconst (pc := 24) hG dX1_offByApart_24 ki_1 ?_
      refine q_isub (pc := 25) hG dX1_offByApart_25 (fun v25 e25 => ?_)
      rw [e25.trans e10.symm]
      refine q_pS (pc := 26) [.int v19, .int v10] [.int p4_3, .ref a0, .int p4_2] hG (c_J9_min_7cf53 τ σ v19 v10 hI) my_J9_min_7cf53 w250 w549 dX1_offByApart_26 rfl rfl (Nat.le_of_ble_eq_true rfl) (by decide) (fun v26 p26 => ?_)
      have r_4 := (q_addN (lo := 1) (hi := 78) e19 r_3 rA1 (by decide)).2
      have r_5 := q_minN (lo := 1) (hi := 63) p26.2.2 r_4 r_2 (by decide)
      refine q_pS (pc := 29) [.ref a0, .int p4_3, .int v26] [.int p4_2] hG (c_X1_offBetween τ σ a0 p4_3 v26 hI tA0 (q_r.mono r_3 (by decide)) (q_r.mono r_5 (by decide))) my_X1_offBetween w561 w560 dX1_offByApart_29 rfl rfl (Nat.le_of_ble_eq_true rfl) (by decide) (fun v29 p29 => ?_)
      refine q_iadd (pc := 32) hG dX1_offByApart_32 (fun v32 e32 => ?_)
      refine q_istore_n (pc := 33) [(2, .int v32), (0, .ref a0), (1, .int x1), (3, .int p4_3)] hG dX1_offByApart_33 (by decide) rfl ?_
      refine q_iload_n (pc := 34) hG dX1_offByApart_34 3 rfl ?_
      refine q_iconst (pc := 35) hG dX1_offByApart_35 ki_1 ?_
      refine q_iload_n (pc := 36) hG dX1_offByApart_36 2 rfl ?_
      refine q_pS (pc := 37) [.int 1, .int x1] [.int p4_3] hG (c_J9_max_7cf53 τ σ 1 x1 hI) my_J9_max_7cf53 w262 w556 dX1_offByApart_37 rfl rfl (Nat.le_of_ble_eq_true rfl) (by decide) (fun v37 p37 => ?_)
      refine q_iadd (pc := 40) hG dX1_offByApart_40 (fun v40 e40 => ?_)
      have r_6 := q_maxN (lo := 1) (hi := 16) p37.2.2 rl_1 rA1 (by decide)
      refine q_istore_n (pc := 41) [(3, .int v40), (2, .int v32), (0, .ref a0), (1, .int x1)] hG dX1_offByApart_41 (by decide) rfl ?_
      refine q_goto (pc := 42) 4 hG dX1_offByApart_42 rfl ?_
      refine q_lv [2, 3, 1, 0] rfl ?_
      have r_7 := (q_addN (lo := 1) (hi := 78) e40 r_3 r_6 (by decide)).2
      exact ih4 v32 v40 (q_r.mono r_7 (by decide)) (q_measU hm4 (by have o0 := c11; have o1 := (q_addN (lo := 1) (hi := 78) e19 r_3 rA1 (by decide)).1; have o2 := p26.2.2; have o3 := p37.2.2; have o4 := (q_addN (lo := 1) (hi := 78) e40 r_3 r_6 (by decide)).1; have o5 := (q_subN (lo := 7) (hi := 63) e10 g6 rl_1 (by decide)).1; have o6 := r_3; have o7 := r_2; have o8 := r_4; have o9 := r_5; have o10 := r_6; have o11 := r_7; have o12 := g6; have o13 := rA1; have l14 := tl_1; unfold q_r at o6 o7 o8 o9 o10 o11 o12 o13; omega) (r_7).2)
  refine q_lv [2, 3, 1, 0] rfl ?_
  exact J4 _ 0 0 (q_r.mono rl_0 (by decide)) (Nat.lt_succ_self _)
theorem dX1_makeSmooth_0 : decode cX1_makeSmooth 0 = .ok (.aload_n 1, 1) := by decide +kernel
theorem dX1_makeSmooth_1 : decode cX1_makeSmooth 1 = .ok (.getfield 27, 3) := by decide +kernel
theorem dX1_makeSmooth_4 : decode cX1_makeSmooth 4 = .ok (.iconst 1, 1) := by decide +kernel
theorem dX1_makeSmooth_5 : decode cX1_makeSmooth 5 = .ok (.isub, 1) := by decide +kernel
theorem dX1_makeSmooth_6 : decode cX1_makeSmooth 6 = .ok (.istore_n 3, 1) := by decide +kernel
theorem dX1_makeSmooth_7 : decode cX1_makeSmooth 7 = .ok (.iload_n 3, 1) := by decide +kernel
theorem dX1_makeSmooth_8 : decode cX1_makeSmooth 8 = .ok (.istore 4, 2) := by decide +kernel
theorem dX1_makeSmooth_10 : decode cX1_makeSmooth 10 = .ok (.iload 4, 2) := by decide +kernel
theorem dX1_makeSmooth_12 : decode cX1_makeSmooth 12 = .ok (.ifCond .lt 109, 3) := by decide +kernel
theorem dX1_makeSmooth_15 : decode cX1_makeSmooth 15 = .ok (.aload_n 0, 1) := by decide +kernel
theorem dX1_makeSmooth_16 : decode cX1_makeSmooth 16 = .ok (.getfield 11, 3) := by decide +kernel
theorem dX1_makeSmooth_19 : decode cX1_makeSmooth 19 = .ok (.iconst 0, 1) := by decide +kernel
theorem dX1_makeSmooth_20 : decode cX1_makeSmooth 20 = .ok (.aload_n 0, 1) := by decide +kernel
theorem dX1_makeSmooth_21 : decode cX1_makeSmooth 21 = .ok (.getfield 15, 3) := by decide +kernel
theorem dX1_makeSmooth_24 : decode cX1_makeSmooth 24 = .ok (.iconst 0, 1) := by decide +kernel
theorem dX1_makeSmooth_25 : decode cX1_makeSmooth 25 = .ok (.bipush 61, 2) := by decide +kernel
theorem dX1_makeSmooth_27 : decode cX1_makeSmooth 27 = .ok (.invokestatic 33, 3) := by decide +kernel
theorem dX1_makeSmooth_30 : decode cX1_makeSmooth 30 = .ok (.iconst 0, 1) := by decide +kernel
theorem dX1_makeSmooth_31 : decode cX1_makeSmooth 31 = .ok (.istore 5, 2) := by decide +kernel
theorem dX1_makeSmooth_33 : decode cX1_makeSmooth 33 = .ok (.iload 5, 2) := by decide +kernel
theorem dX1_makeSmooth_35 : decode cX1_makeSmooth 35 = .ok (.bipush 61, 2) := by decide +kernel
theorem dX1_makeSmooth_37 : decode cX1_makeSmooth 37 = .ok (.if_icmp .ge 67, 3) := by decide +kernel
theorem dX1_makeSmooth_40 : decode cX1_makeSmooth 40 = .ok (.iload 4, 2) := by decide +kernel
theorem dX1_makeSmooth_42 : decode cX1_makeSmooth 42 = .ok (.iload_n 3, 1) := by decide +kernel
theorem dX1_makeSmooth_43 : decode cX1_makeSmooth 43 = .ok (.if_icmp .ne 7, 3) := by decide +kernel
theorem dX1_makeSmooth_46 : decode cX1_makeSmooth 46 = .ok (.iconst 0, 1) := by decide +kernel
theorem dX1_makeSmooth_47 : decode cX1_makeSmooth 47 = .ok (.goto 23, 3) := by decide +kernel
theorem dX1_makeSmooth_50 : decode cX1_makeSmooth 50 = .ok (.aload_n 0, 1) := by decide +kernel
theorem dX1_makeSmooth_51 : decode cX1_makeSmooth 51 = .ok (.getfield 15, 3) := by decide +kernel
theorem dX1_makeSmooth_54 : decode cX1_makeSmooth 54 = .ok (.aload_n 0, 1) := by decide +kernel
theorem dX1_makeSmooth_55 : decode cX1_makeSmooth 55 = .ok (.getfield 18, 3) := by decide +kernel
theorem dX1_makeSmooth_58 : decode cX1_makeSmooth 58 = .ok (.iload 4, 2) := by decide +kernel
theorem dX1_makeSmooth_60 : decode cX1_makeSmooth 60 = .ok (.iconst 1, 1) := by decide +kernel
theorem dX1_makeSmooth_61 : decode cX1_makeSmooth 61 = .ok (.iadd, 1) := by decide +kernel
theorem dX1_makeSmooth_62 : decode cX1_makeSmooth 62 = .ok (.iaload, 1) := by decide +kernel
theorem dX1_makeSmooth_63 : decode cX1_makeSmooth 63 = .ok (.iload 5, 2) := by decide +kernel
theorem dX1_makeSmooth_65 : decode cX1_makeSmooth 65 = .ok (.iload_n 2, 1) := by decide +kernel
theorem dX1_makeSmooth_66 : decode cX1_makeSmooth 66 = .ok (.invokestatic 39, 3) := by decide +kernel
theorem dX1_makeSmooth_69 : decode cX1_makeSmooth 69 = .ok (.iaload, 1) := by decide +kernel
theorem dX1_makeSmooth_70 : decode cX1_makeSmooth 70 = .ok (.istore 6, 2) := by decide +kernel
theorem dX1_makeSmooth_72 : decode cX1_makeSmooth 72 = .ok (.aload_n 0, 1) := by decide +kernel
theorem dX1_makeSmooth_73 : decode cX1_makeSmooth 73 = .ok (.getfield 11, 3) := by decide +kernel
theorem dX1_makeSmooth_76 : decode cX1_makeSmooth 76 = .ok (.iload 5, 2) := by decide +kernel
theorem dX1_makeSmooth_78 : decode cX1_makeSmooth 78 = .ok (.iload 5, 2) := by decide +kernel
theorem dX1_makeSmooth_80 : decode cX1_makeSmooth 80 = .ok (.bipush 30, 2) := by decide +kernel
theorem dX1_makeSmooth_82 : decode cX1_makeSmooth 82 = .ok (.isub, 1) := by decide +kernel
theorem dX1_makeSmooth_83 : decode cX1_makeSmooth 83 = .ok (.aload_n 1, 1) := by decide +kernel
theorem dX1_makeSmooth_84 : decode cX1_makeSmooth 84 = .ok (.getfield 43, 3) := by decide +kernel
theorem dX1_makeSmooth_87 : decode cX1_makeSmooth 87 = .ok (.iload 4, 2) := by decide +kernel
theorem dX1_makeSmooth_89 : decode cX1_makeSmooth 89 = .ok (.iaload, 1) := by decide +kernel
theorem dX1_makeSmooth_90 : decode cX1_makeSmooth 90 = .ok (.isub, 1) := by decide +kernel
theorem dX1_makeSmooth_91 : decode cX1_makeSmooth 91 = .ok (.invokestatic 46, 3) := by decide +kernel
theorem dX1_makeSmooth_94 : decode cX1_makeSmooth 94 = .ok (.iload 6, 2) := by decide +kernel
theorem dX1_makeSmooth_96 : decode cX1_makeSmooth 96 = .ok (.iadd, 1) := by decide +kernel
theorem dX1_makeSmooth_97 : decode cX1_makeSmooth 97 = .ok (.iastore, 1) := by decide +kernel
theorem dX1_makeSmooth_98 : decode cX1_makeSmooth 98 = .ok (.iinc 5 1, 3) := by decide +kernel
theorem dX1_makeSmooth_101 : decode cX1_makeSmooth 101 = .ok (.goto (-68), 3) := by decide +kernel
theorem dX1_makeSmooth_104 : decode cX1_makeSmooth 104 = .ok (.aload_n 0, 1) := by decide +kernel
theorem dX1_makeSmooth_105 : decode cX1_makeSmooth 105 = .ok (.getfield 18, 3) := by decide +kernel
theorem dX1_makeSmooth_108 : decode cX1_makeSmooth 108 = .ok (.iload 4, 2) := by decide +kernel
theorem dX1_makeSmooth_110 : decode cX1_makeSmooth 110 = .ok (.aload_n 0, 1) := by decide +kernel
theorem dX1_makeSmooth_111 : decode cX1_makeSmooth 111 = .ok (.invokevirtual 52, 3) := by decide +kernel
theorem dX1_makeSmooth_114 : decode cX1_makeSmooth 114 = .ok (.iastore, 1) := by decide +kernel
theorem dX1_makeSmooth_115 : decode cX1_makeSmooth 115 = .ok (.iinc 4 (-1), 3) := by decide +kernel
theorem dX1_makeSmooth_118 : decode cX1_makeSmooth 118 = .ok (.goto (-108), 3) := by decide +kernel
theorem dX1_makeSmooth_121 : decode cX1_makeSmooth 121 = .ok (.aload_n 0, 1) := by decide +kernel
theorem dX1_makeSmooth_122 : decode cX1_makeSmooth 122 = .ok (.getfield 18, 3) := by decide +kernel
theorem dX1_makeSmooth_125 : decode cX1_makeSmooth 125 = .ok (.iconst 0, 1) := by decide +kernel
theorem dX1_makeSmooth_126 : decode cX1_makeSmooth 126 = .ok (.iaload, 1) := by decide +kernel
theorem dX1_makeSmooth_127 : decode cX1_makeSmooth 127 = .ok (.istore 4, 2) := by decide +kernel
theorem dX1_makeSmooth_129 : decode cX1_makeSmooth 129 = .ok (.iconst 0, 1) := by decide +kernel
theorem dX1_makeSmooth_130 : decode cX1_makeSmooth 130 = .ok (.istore 5, 2) := by decide +kernel
theorem dX1_makeSmooth_132 : decode cX1_makeSmooth 132 = .ok (.iload 5, 2) := by decide +kernel
theorem dX1_makeSmooth_134 : decode cX1_makeSmooth 134 = .ok (.iload_n 3, 1) := by decide +kernel
theorem dX1_makeSmooth_135 : decode cX1_makeSmooth 135 = .ok (.if_icmp .gt 46, 3) := by decide +kernel
theorem dX1_makeSmooth_138 : decode cX1_makeSmooth 138 = .ok (.iload 5, 2) := by decide +kernel
theorem dX1_makeSmooth_140 : decode cX1_makeSmooth 140 = .ok (.ifCond .ne 8, 3) := by decide +kernel
theorem dX1_makeSmooth_143 : decode cX1_makeSmooth 143 = .ok (.iload 4, 2) := by decide +kernel
theorem dX1_makeSmooth_145 : decode cX1_makeSmooth 145 = .ok (.goto 16, 3) := by decide +kernel
theorem dX1_makeSmooth_148 : decode cX1_makeSmooth 148 = .ok (.aload_n 0, 1) := by decide +kernel
theorem dX1_makeSmooth_149 : decode cX1_makeSmooth 149 = .ok (.getfield 18, 3) := by decide +kernel
theorem dX1_makeSmooth_152 : decode cX1_makeSmooth 152 = .ok (.iload 5, 2) := by decide +kernel
theorem dX1_makeSmooth_154 : decode cX1_makeSmooth 154 = .ok (.iaload, 1) := by decide +kernel
theorem dX1_makeSmooth_155 : decode cX1_makeSmooth 155 = .ok (.iload 4, 2) := by decide +kernel
theorem dX1_makeSmooth_157 : decode cX1_makeSmooth 157 = .ok (.iload_n 2, 1) := by decide +kernel
theorem dX1_makeSmooth_158 : decode cX1_makeSmooth 158 = .ok (.invokestatic 39, 3) := by decide +kernel
theorem dX1_makeSmooth_161 : decode cX1_makeSmooth 161 = .ok (.istore 4, 2) := by decide +kernel
theorem dX1_makeSmooth_163 : decode cX1_makeSmooth 163 = .ok (.aload_n 0, 1) := by decide +kernel
theorem dX1_makeSmooth_164 : decode cX1_makeSmooth 164 = .ok (.getfield 24, 3) := by decide +kernel
theorem dX1_makeSmooth_167 : decode cX1_makeSmooth 167 = .ok (.iload 5, 2) := by decide +kernel
theorem dX1_makeSmooth_169 : decode cX1_makeSmooth 169 = .ok (.iload 4, 2) := by decide +kernel
theorem dX1_makeSmooth_171 : decode cX1_makeSmooth 171 = .ok (.bipush 30, 2) := by decide +kernel
theorem dX1_makeSmooth_173 : decode cX1_makeSmooth 173 = .ok (.isub, 1) := by decide +kernel
theorem dX1_makeSmooth_174 : decode cX1_makeSmooth 174 = .ok (.iastore, 1) := by decide +kernel
theorem dX1_makeSmooth_175 : decode cX1_makeSmooth 175 = .ok (.iinc 5 1, 3) := by decide +kernel
theorem dX1_makeSmooth_178 : decode cX1_makeSmooth 178 = .ok (.goto (-46), 3) := by decide +kernel
theorem dX1_makeSmooth_181 : decode cX1_makeSmooth 181 = .ok (.aload_n 0, 1) := by decide +kernel
theorem dX1_makeSmooth_182 : decode cX1_makeSmooth 182 = .ok (.getfield 11, 3) := by decide +kernel
theorem dX1_makeSmooth_185 : decode cX1_makeSmooth 185 = .ok (.aload_n 0, 1) := by decide +kernel
theorem dX1_makeSmooth_186 : decode cX1_makeSmooth 186 = .ok (.getfield 18, 3) := by decide +kernel
theorem dX1_makeSmooth_189 : decode cX1_makeSmooth 189 = .ok (.iconst 0, 1) := by decide +kernel
theorem dX1_makeSmooth_190 : decode cX1_makeSmooth 190 = .ok (.iaload, 1) := by decide +kernel
theorem dX1_makeSmooth_191 : decode cX1_makeSmooth 191 = .ok (.iaload, 1) := by decide +kernel
theorem dX1_makeSmooth_192 : decode cX1_makeSmooth 192 = .ok (.ireturn, 1) := by decide +kernel
def md_X1_makeSmooth : List (Nat × Nat) := [(132, 0), (133, 0), (134, 0), (136, 0)]
set_option maxRecDepth 100000 in
set_option maxHeartbeats 4000000 in
theorem c_X1_makeSmooth {l : Launch} {D : q_D} (τ : q_T) (σ : q_V) (a0 : Nat) (a1 : Nat) (x2 : Int32) (hI : q_I τ σ) (tA0 : τ a0 = some (1, 1)) (tA1 : τ a1 = some (6, 1)) (rA2 : q_r x2 0 9) : q_Ci l D yX1_makeSmooth cX1_makeSmooth 7 (some .int) 3 65 τ σ [.ref a0, .ref a1, .int x2] (fun r σ1 => q_S md_X1_makeSmooth τ σ σ1 ∧ (q_r r (-2147483648) 2147483647)) := by
  refine q_meti rfl (Nat.le_of_ble_eq_true rfl) (fun X hG hE => ?_)
  show q_O X 0 0 τ σ 0 [(0, .ref a0), (1, .ref a1), (2, .int x2)] []
  have hS0 : q_S md_X1_makeSmooth τ σ σ := q_S.rf hI
  refine q_aload_n (pc := 0) hG dX1_makeSmooth_0 1 rfl ?_
  refine q_getI (pc := 1) hG fl_X1_27 dX1_makeSmooth_1 hI tA1 ff_6_0 (fun v1 f1 g1 => ?_)
  refine q_iconst (pc := 4) hG dX1_makeSmooth_4 ki_1 ?_
  refine q_isub (pc := 5) hG dX1_makeSmooth_5 (fun v5 e5 => ?_)
  refine q_istore_n (pc := 6) [(3, .int v5), (0, .ref a0), (1, .ref a1), (2, .int x2)] hG dX1_makeSmooth_6 (by decide) rfl ?_
  refine q_iload_n (pc := 7) hG dX1_makeSmooth_7 0 rfl ?_
  refine q_istore (pc := 8) [(4, .int v5), (3, .int v5), (0, .ref a0), (1, .ref a1), (2, .int x2)] hG dX1_makeSmooth_8 (by decide) rfl ?_
  have J10 : ∀ (n10 : Nat) (p10_4 : Int32) (σ10 : q_V), (q_r p10_4 (-1) 63) → (q_S md_X1_makeSmooth τ σ σ10) → (p10_4.toInt ≤ v5.toInt) → ((p10_4.toInt - (-1)).toNat < n10) → q_O X 0 0 τ σ10 10 [(0, .ref a0), (1, .ref a1), (2, .int x2), (3, .int v5), (4, .int p10_4)] [] := by
    intro n10
    induction n10 with
    | zero => intro p10_4 σ10 r10_4 hS10 iM10 hm10; exact absurd hm10 (Nat.not_lt_zero _)
    | succ n10 ih10 =>
      intro p10_4 σ10 r10_4 hS10 iM10 hm10
      refine q_iload (pc := 10) hG dX1_makeSmooth_10 4 rfl ?_
      refine q_if_lt (pc := 12) hG 121 dX1_makeSmooth_12 rfl ?_ ?_
      · intro c12
        refine q_aload_n (pc := 121) hG dX1_makeSmooth_121 0 rfl ?_
        refine q_getR (pc := 122) (k2 := 134) (n2 := 64) hG fl_X1_18 dX1_makeSmooth_122 hS10.1 tA0 ff_1_2 (fun b122 f122 T122 => ?_)
        have f_1 := (hS10.2 _ _ _ _ tA0 rfl).symm.trans f122
        refine q_iconst (pc := 125) hG dX1_makeSmooth_125 ki_0 ?_
        refine q_iald (pc := 126) hG dX1_makeSmooth_126 hS10.1 ai_134 T122 (q_ix rl_0 (by decide)) (fun v126 f126 g126 => ?_)
        refine q_istore (pc := 127) [(4, .int v126), (0, .ref a0), (1, .ref a1), (2, .int x2), (3, .int v5)] hG dX1_makeSmooth_127 (by decide) rfl ?_
        refine q_iconst (pc := 129) hG dX1_makeSmooth_129 ki_0 ?_
        refine q_istore (pc := 130) [(5, .int 0), (4, .int v126), (0, .ref a0), (1, .ref a1), (2, .int x2), (3, .int v5)] hG dX1_makeSmooth_130 (by decide) rfl ?_
        have J132 : ∀ (n132 : Nat) (p132_4 : Int32) (p132_5 : Int32) (σ132 : q_V), (q_r p132_4 0 60) → (q_r p132_5 0 64) → (q_S md_X1_makeSmooth τ σ σ132) → ((64 - p132_5.toInt).toNat < n132) → q_O X 0 0 τ σ132 132 [(0, .ref a0), (2, .int x2), (3, .int v5), (4, .int p132_4), (5, .int p132_5)] [] := by
          intro n132
          induction n132 with
          | zero => intro p132_4 p132_5 σ132 r132_4 r132_5 hS132 hm132; exact absurd hm132 (Nat.not_lt_zero _)
          | succ n132 ih132 =>
            intro p132_4 p132_5 σ132 r132_4 r132_5 hS132 hm132
            refine q_iload (pc := 132) hG dX1_makeSmooth_132 4 rfl ?_
            refine q_iload_n (pc := 134) hG dX1_makeSmooth_134 2 rfl ?_
            refine q_icmp_gt (pc := 135) hG 181 dX1_makeSmooth_135 rfl ?_ ?_
            · intro c135
              have r_2 := (q_subN (lo := 7) (hi := 63) e5 g1 rl_1 (by decide)).2
              refine q_aload_n (pc := 181) hG dX1_makeSmooth_181 0 rfl ?_
              refine q_getR (pc := 182) (k2 := 132) (n2 := 61) hG fl_X1_11 dX1_makeSmooth_182 hS132.1 tA0 ff_1_0 (fun b182 f182 T182 => ?_)
              have f_3 := (hS132.2 _ _ _ _ tA0 rfl).symm.trans f182
              refine q_aload_n (pc := 185) hG dX1_makeSmooth_185 0 rfl ?_
              refine q_getV (pc := 186) (v := .ref b122) hG fl_X1_18 dX1_makeSmooth_186 tA0 (hS132.same tA0 rfl f_1) ?_
              refine q_iconst (pc := 189) hG dX1_makeSmooth_189 ki_0 ?_
              refine q_iald (pc := 190) hG dX1_makeSmooth_190 hS132.1 ai_134 T122 (q_ix rl_0 (by decide)) (fun v190 f190 g190 => ?_)
              refine q_iald (pc := 191) hG dX1_makeSmooth_191 hS132.1 ai_132 T182 (q_ix g190 (by decide)) (fun v191 f191 g191 => ?_)
              exact q_irt hG hE dX1_makeSmooth_192 ⟨hS132, g191⟩
            intro c135
            have r_4 := (q_subN (lo := 7) (hi := 63) e5 g1 rl_1 (by decide)).2
            refine q_iload (pc := 138) hG dX1_makeSmooth_138 4 rfl ?_
            have J161 : ∀ (p161_s0 : Int32), (q_r p161_s0 0 60) → q_O X 0 0 τ σ132 161 [(0, .ref a0), (2, .int x2), (3, .int v5), (5, .int p132_5)] [.int p161_s0] := by
              intro p161_s0 r161_s0
              refine q_istore (pc := 161) [(4, .int p161_s0), (0, .ref a0), (2, .int x2), (3, .int v5), (5, .int p132_5)] hG dX1_makeSmooth_161 (by decide) rfl ?_
              refine q_aload_n (pc := 163) hG dX1_makeSmooth_163 1 rfl ?_
              refine q_getR (pc := 164) (k2 := 136) (n2 := 64) hG fl_X1_24 dX1_makeSmooth_164 hS132.1 tA0 ff_1_4 (fun b164 f164 T164 => ?_)
              have f_5 := (hS132.2 _ _ _ _ tA0 rfl).symm.trans f164
              refine q_iload (pc := 167) hG dX1_makeSmooth_167 4 rfl ?_
              refine q_iload (pc := 169) hG dX1_makeSmooth_169 0 rfl ?_
              refine q_bipush (pc := 171) hG dX1_makeSmooth_171 kb_30 ?_
              refine q_isub (pc := 173) hG dX1_makeSmooth_173 (fun v173 e173 => ?_)
              have r_6 := q_rle r132_5 r_4 c135
              have r_7 := (q_subN (lo := (-30)) (hi := 30) e173 r161_s0 rl_30 (by decide)).2
              refine q_iast (pc := 174) hG dX1_makeSmooth_174 hS132 ai_136 T164 (q_ix r_6 (by decide)) r_7 (by decide) rfl (fun s174 u174 w174 => ?_)
              have m174 : s174 b164 p132_5.toInt.toNat = .int v173 := by rw [u174]; exact q_up_same
              obtain ⟨v175, e175⟩ : ∃ z : Int32, z = p132_5 + Int32.ofInt 1 := ⟨_, rfl⟩
              have h175 := q_incN (lo := 1) (hi := 64) r_6 (by decide) (by decide) e175
              refine q_iinc (pc := 175) [(5, .int v175), (4, .int p161_s0), (0, .ref a0), (2, .int x2), (3, .int v5)] hG dX1_makeSmooth_175 4 rfl e175 (by decide) rfl ?_
              refine q_goto (pc := 178) 132 hG dX1_makeSmooth_178 rfl ?_
              refine q_lv [2, 3, 4, 1, 0] rfl ?_
              have r_8 := q_zlt r10_4 c12
              exact ih132 p161_s0 v175 s174 r161_s0 (q_r.mono h175.2 (by decide)) w174 (q_measU hm132 (by have o0 := c135; have o1 := h175.1; have o2 := (q_subN (lo := 7) (hi := 63) e5 g1 rl_1 (by decide)).1; have o3 := iM10; have o4 := c12; have o5 := r_8; have o6 := r_6; have o7 := g1; have o8 := h175.2; have o9 := r_4; have l10 := tl_1; unfold q_r at o5 o6 o7 o8 o9; omega) (h175.2).2)
            refine q_if_ne (pc := 140) hG 148 dX1_makeSmooth_140 rfl ?_ ?_
            · intro c140
              have r_9 := q_rle r132_5 r_4 c135
              refine q_aload_n (pc := 148) hG dX1_makeSmooth_148 0 rfl ?_
              refine q_getV (pc := 149) (v := .ref b122) hG fl_X1_18 dX1_makeSmooth_149 tA0 (hS132.same tA0 rfl f_1) ?_
              refine q_iload (pc := 152) hG dX1_makeSmooth_152 4 rfl ?_
              have r_10 := q_neL (c := 1) r_9 c140 (by decide)
              refine q_iald (pc := 154) hG dX1_makeSmooth_154 hS132.1 ai_134 T122 (q_ix r_10 (by decide)) (fun v154 f154 g154 => ?_)
              refine q_iload (pc := 155) hG dX1_makeSmooth_155 3 rfl ?_
              refine q_iload_n (pc := 157) hG dX1_makeSmooth_157 1 rfl ?_
              refine q_pS (pc := 158) [.int v154, .int p132_4, .int x2] [] hG (c_X1_nearest τ σ132 v154 p132_4 x2 hS132.1 g154 r132_4 rA2) my_X1_nearest w533 w532 dX1_makeSmooth_158 rfl rfl (Nat.le_of_ble_eq_true rfl) (by decide) (fun v158 p158 => ?_)
              refine q_lv [0, 1, 2, 4] rfl ?_
              exact J161 v158 p158
            intro c140
            have r_11 := q_rle r132_5 r_4 c135
            refine q_iload (pc := 143) hG dX1_makeSmooth_143 3 rfl ?_
            refine q_goto (pc := 145) 161 hG dX1_makeSmooth_145 rfl ?_
            refine q_lv [0, 1, 2, 4] rfl ?_
            exact J161 p132_4 r132_4
        refine q_lv [2, 4, 5, 1, 0] rfl ?_
        exact J132 _ v126 0 σ10 g126 (q_r.mono rl_0 (by decide)) hS10 (Nat.lt_succ_self _)
      intro c12
      refine q_aload_n (pc := 15) hG dX1_makeSmooth_15 0 rfl ?_
      refine q_getR (pc := 16) (k2 := 132) (n2 := 61) hG fl_X1_11 dX1_makeSmooth_16 hS10.1 tA0 ff_1_0 (fun b16 f16 T16 => ?_)
      have f_12 := (hS10.2 _ _ _ _ tA0 rfl).symm.trans f16
      refine q_iconst (pc := 19) hG dX1_makeSmooth_19 ki_0 ?_
      refine q_aload_n (pc := 20) hG dX1_makeSmooth_20 0 rfl ?_
      refine q_getR (pc := 21) (k2 := 133) (n2 := 61) hG fl_X1_15 dX1_makeSmooth_21 hS10.1 tA0 ff_1_1 (fun b21 f21 T21 => ?_)
      have f_13 := (hS10.2 _ _ _ _ tA0 rfl).symm.trans f21
      refine q_iconst (pc := 24) hG dX1_makeSmooth_24 ki_0 ?_
      refine q_bipush (pc := 25) hG dX1_makeSmooth_25 kb_61 ?_
      refine q_copy (pc := 27) 61 hG w531 w494 w493 w14 dX1_makeSmooth_27 hS10 T16 T21 ai_132 ai_133 (by decide) tl_61 (by decide) rfl ⟨by decide, by decide⟩ (Nat.le_of_ble_eq_true rfl) (fun s27 u27 w27 => ?_)
      refine q_iconst (pc := 30) hG dX1_makeSmooth_30 ki_0 ?_
      refine q_istore (pc := 31) [(5, .int 0), (0, .ref a0), (1, .ref a1), (2, .int x2), (3, .int v5), (4, .int p10_4)] hG dX1_makeSmooth_31 (by decide) rfl ?_
      have J33 : ∀ (n33 : Nat) (p33_5 : Int32) (σ33 : q_V), (q_r p33_5 0 61) → (q_S md_X1_makeSmooth τ σ σ33) → ((61 - p33_5.toInt).toNat < n33) → q_O X 0 0 τ σ33 33 [(0, .ref a0), (1, .ref a1), (2, .int x2), (3, .int v5), (4, .int p10_4), (5, .int p33_5)] [] := by
        intro n33
        induction n33 with
        | zero => intro p33_5 σ33 r33_5 hS33 hm33; exact absurd hm33 (Nat.not_lt_zero _)
        | succ n33 ih33 =>
          intro p33_5 σ33 r33_5 hS33 hm33
          refine q_iload (pc := 33) hG dX1_makeSmooth_33 5 rfl ?_
          refine q_bipush (pc := 35) hG dX1_makeSmooth_35 kb_61 ?_
          refine q_icmp_ge (pc := 37) hG 104 dX1_makeSmooth_37 rfl ?_ ?_
          · intro c37
            refine q_aload_n (pc := 104) hG dX1_makeSmooth_104 0 rfl ?_
            refine q_getR (pc := 105) (k2 := 134) (n2 := 64) hG fl_X1_18 dX1_makeSmooth_105 hS33.1 tA0 ff_1_2 (fun b105 f105 T105 => ?_)
            have f_14 := (hS33.2 _ _ _ _ tA0 rfl).symm.trans f105
            refine q_iload (pc := 108) hG dX1_makeSmooth_108 4 rfl ?_
            refine q_aload_n (pc := 110) hG dX1_makeSmooth_110 0 rfl ?_
            refine q_pV (pc := 111) [] [.int p10_4, .ref b105] hG (c_X1_lowestBest τ σ33 a0 hS33.1 tA0) my_X1_lowestBest mv_X1_lowestBest w536 dX1_makeSmooth_111 tA0 (by decide) rfl rfl (Nat.le_of_ble_eq_true rfl) (by decide) (fun v111 p111 => ?_)
            have r_15 := q_zge r10_4 c12
            refine q_iast (pc := 114) hG dX1_makeSmooth_114 hS33 ai_134 T105 (q_ix r_15 (by decide)) p111 (by decide) rfl (fun s114 u114 w114 => ?_)
            have m114 : s114 b105 p10_4.toInt.toNat = .int v111 := by rw [u114]; exact q_up_same
            obtain ⟨v115, e115⟩ : ∃ z : Int32, z = p10_4 + Int32.ofInt (-1) := ⟨_, rfl⟩
            have h115 := q_incN (lo := (-1)) (hi := 62) r_15 (by decide) (by decide) e115
            refine q_iinc (pc := 115) [(4, .int v115), (0, .ref a0), (1, .ref a1), (2, .int x2), (3, .int v5), (5, .int p33_5)] hG dX1_makeSmooth_115 4 rfl e115 (by decide) rfl ?_
            refine q_goto (pc := 118) 10 hG dX1_makeSmooth_118 rfl ?_
            refine q_lv [1, 2, 3, 4, 0] rfl ?_
            have r_16 := (q_subN (lo := 7) (hi := 63) e5 g1 rl_1 (by decide)).2
            exact ih10 v115 s114 (q_r.mono h115.2 (by decide)) w114 (by have o0 := (q_subN (lo := 7) (hi := 63) e5 g1 rl_1 (by decide)).1; have o1 := iM10; have o2 := c12; have o3 := h115.1; have o4 := r_15; have o5 := g1; have o6 := h115.2; have o7 := r_16; have l8 := tl_1; unfold q_r at o4 o5 o6 o7; omega) (q_measD hm10 (by have o0 := iM10; have o1 := c12; have o2 := h115.1; have o3 := (q_subN (lo := 7) (hi := 63) e5 g1 rl_1 (by decide)).1; have o4 := r_15; have o5 := g1; have o6 := h115.2; have o7 := r_16; have l8 := tl_1; unfold q_r at o4 o5 o6 o7; omega) (h115.2).1)
          intro c37
          refine q_iload (pc := 40) hG dX1_makeSmooth_40 4 rfl ?_
          refine q_iload_n (pc := 42) hG dX1_makeSmooth_42 3 rfl ?_
          have J70 : ∀ (p70_s0 : Int32), q_O X 0 0 τ σ33 70 [(0, .ref a0), (1, .ref a1), (2, .int x2), (3, .int v5), (4, .int p10_4), (5, .int p33_5)] [.int p70_s0] := by
            intro p70_s0
            refine q_istore (pc := 70) [(6, .int p70_s0), (0, .ref a0), (1, .ref a1), (2, .int x2), (3, .int v5), (4, .int p10_4), (5, .int p33_5)] hG dX1_makeSmooth_70 (by decide) rfl ?_
            refine q_aload_n (pc := 72) hG dX1_makeSmooth_72 1 rfl ?_
            refine q_getV (pc := 73) (v := .ref b16) hG fl_X1_11 dX1_makeSmooth_73 tA0 (hS33.same tA0 rfl f_12) ?_
            refine q_iload (pc := 76) hG dX1_makeSmooth_76 6 rfl ?_
            refine q_iload (pc := 78) hG dX1_makeSmooth_78 6 rfl ?_
            refine q_bipush (pc := 80) hG dX1_makeSmooth_80 kb_30 ?_
            refine q_isub (pc := 82) hG dX1_makeSmooth_82 (fun v82 e82 => ?_)
            have r_17 := q_rlt r33_5 rl_61 c37 60 (by decide)
            refine q_aload_n (pc := 83) hG dX1_makeSmooth_83 2 rfl ?_
            refine q_getR (pc := 84) (k2 := 118) (n2 := 64) hG fl_X1_43 dX1_makeSmooth_84 hS33.1 tA1 ff_6_1 (fun b84 f84 T84 => ?_)
            have f_18 := (hS33.2 _ _ _ _ tA1 rfl).symm.trans f84
            refine q_iload (pc := 87) hG dX1_makeSmooth_87 5 rfl ?_
            have r_19 := q_zge r10_4 c12
            refine q_iald (pc := 89) hG dX1_makeSmooth_89 hS33.1 ai_118 T84 (q_ix r_19 (by decide)) (fun v89 f89 g89 => ?_)
            have f_20 := (hS33.2 _ _ _ _ T84 rfl).symm.trans f89
            refine q_isub (pc := 90) hG dX1_makeSmooth_90 (fun v90 e90 => ?_)
            refine q_pS (pc := 91) [.int v90] [.int p33_5, .ref b16] hG (c_J9_abs_0f7a4 τ σ33 v90 hS33.1) my_J9_abs_0f7a4 w271 w535 dX1_makeSmooth_91 rfl rfl (Nat.le_of_ble_eq_true rfl) (by decide) (fun v91 p91 => ?_)
            refine q_iload (pc := 94) hG dX1_makeSmooth_94 0 rfl ?_
            refine q_iadd (pc := 96) hG dX1_makeSmooth_96 (fun v96 e96 => ?_)
            refine q_iast (pc := 97) hG dX1_makeSmooth_97 hS33 ai_132 T16 (q_ix r_17 (by decide)) (q_r_any v96) (by decide) rfl (fun s97 u97 w97 => ?_)
            have m97 : s97 b16 p33_5.toInt.toNat = .int v96 := by rw [u97]; exact q_up_same
            obtain ⟨v98, e98⟩ : ∃ z : Int32, z = p33_5 + Int32.ofInt 1 := ⟨_, rfl⟩
            have h98 := q_incN (lo := 1) (hi := 61) r_17 (by decide) (by decide) e98
            refine q_iinc (pc := 98) [(5, .int v98), (6, .int p70_s0), (0, .ref a0), (1, .ref a1), (2, .int x2), (3, .int v5), (4, .int p10_4)] hG dX1_makeSmooth_98 6 rfl e98 (by decide) rfl ?_
            refine q_goto (pc := 101) 33 hG dX1_makeSmooth_101 rfl ?_
            refine q_lv [2, 3, 4, 5, 6, 0] rfl ?_
            have r_21 := (q_subN (lo := (-30)) (hi := 30) e82 r_17 rl_30 (by decide)).2
            exact ih33 v98 s97 (q_r.mono h98.2 (by decide)) w97 (q_measU hm33 (by have o0 := c37; have o1 := (q_subN (lo := (-30)) (hi := 30) e82 r_17 rl_30 (by decide)).1; have o2 := h98.1; have o3 := r_17; have o4 := r_21; have o5 := h98.2; have l6 := tl_30; have l7 := tl_61; unfold q_r at o3 o4 o5; omega) (h98.2).2)
          refine q_icmp_ne (pc := 43) hG 50 dX1_makeSmooth_43 rfl ?_ ?_
          · intro c43
            have r_22 := q_zge r10_4 c12
            have r_23 := (q_subN (lo := 7) (hi := 63) e5 g1 rl_1 (by decide)).2
            refine q_aload_n (pc := 50) hG dX1_makeSmooth_50 0 rfl ?_
            refine q_getV (pc := 51) (v := .ref b21) hG fl_X1_15 dX1_makeSmooth_51 tA0 (hS33.same tA0 rfl f_13) ?_
            refine q_aload_n (pc := 54) hG dX1_makeSmooth_54 0 rfl ?_
            refine q_getR (pc := 55) (k2 := 134) (n2 := 64) hG fl_X1_18 dX1_makeSmooth_55 hS33.1 tA0 ff_1_2 (fun b55 f55 T55 => ?_)
            have f_24 := (hS33.2 _ _ _ _ tA0 rfl).symm.trans f55
            refine q_iload (pc := 58) hG dX1_makeSmooth_58 4 rfl ?_
            refine q_iconst (pc := 60) hG dX1_makeSmooth_60 ki_1 ?_
            refine q_iadd (pc := 61) hG dX1_makeSmooth_61 (fun v61 e61 => ?_)
            have r_25 := (q_addN (lo := 1) (hi := 64) e61 r_22 rl_1 (by decide)).2
            refine q_iald (pc := 62) hG dX1_makeSmooth_62 hS33.1 ai_134 T55 (by have o0 := (q_addN (lo := 1) (hi := 64) e61 r_22 rl_1 (by decide)).1; have o1 := iM10; have o2 := c12; have o3 := c43; have o4 := (q_subN (lo := 7) (hi := 63) e5 g1 rl_1 (by decide)).1; have o5 := r_22; have o6 := g1; have o7 := r_23; have o8 := r_25; have l9 := tl_1; unfold q_r at o5 o6 o7 o8; omega) (fun v62 f62 g62 => ?_)
            refine q_iload (pc := 63) hG dX1_makeSmooth_63 5 rfl ?_
            refine q_iload_n (pc := 65) hG dX1_makeSmooth_65 2 rfl ?_
            have r_26 := q_rlt r33_5 rl_61 c37 60 (by decide)
            refine q_pS (pc := 66) [.int v62, .int p33_5, .int x2] [.ref b21] hG (c_X1_nearest τ σ33 v62 p33_5 x2 hS33.1 g62 r_26 rA2) my_X1_nearest w533 w532 dX1_makeSmooth_66 rfl rfl (Nat.le_of_ble_eq_true rfl) (by decide) (fun v66 p66 => ?_)
            refine q_iald (pc := 69) hG dX1_makeSmooth_69 hS33.1 ai_133 T21 (q_ix p66 (by decide)) (fun v69 f69 g69 => ?_)
            refine q_lv [0, 1, 2, 3, 4, 5] rfl ?_
            exact J70 v69
          intro c43
          have r_27 := q_zge r10_4 c12
          have r_28 := (q_subN (lo := 7) (hi := 63) e5 g1 rl_1 (by decide)).2
          refine q_iconst (pc := 46) hG dX1_makeSmooth_46 ki_0 ?_
          refine q_goto (pc := 47) 70 hG dX1_makeSmooth_47 rfl ?_
          refine q_lv [0, 1, 2, 3, 4, 5] rfl ?_
          exact J70 0
      refine q_lv [1, 2, 3, 4, 5, 0] rfl ?_
      exact J33 _ 0 s27 (q_r.mono rl_0 (by decide)) w27 (Nat.lt_succ_self _)
  refine q_lv [2, 3, 4, 1, 0] rfl ?_
  have r_29 := (q_subN (lo := 7) (hi := 63) e5 g1 rl_1 (by decide)).2
  exact J10 _ v5 σ (q_r.mono r_29 (by decide)) hS0 (by have o0 := (q_subN (lo := 7) (hi := 63) e5 g1 rl_1 (by decide)).1; have o1 := g1; have o2 := r_29; have l3 := tl_1; unfold q_r at o1 o2; omega) (Nat.lt_succ_self _)
theorem dX1_pin_0 : decode cX1_pin 0 = .ok (.aload_n 1, 1) := by decide +kernel
theorem dX1_pin_1 : decode cX1_pin 1 = .ok (.getfield 27, 3) := by decide +kernel
theorem dX1_pin_4 : decode cX1_pin 4 = .ok (.iconst 1, 1) := by decide +kernel
theorem dX1_pin_5 : decode cX1_pin 5 = .ok (.isub, 1) := by decide +kernel
theorem dX1_pin_6 : decode cX1_pin 6 = .ok (.istore_n 3, 1) := by decide +kernel
theorem dX1_pin_7 : decode cX1_pin 7 = .ok (.aload_n 0, 1) := by decide +kernel
theorem dX1_pin_8 : decode cX1_pin 8 = .ok (.getfield 21, 3) := by decide +kernel
theorem dX1_pin_11 : decode cX1_pin 11 = .ok (.iload_n 3, 1) := by decide +kernel
theorem dX1_pin_12 : decode cX1_pin 12 = .ok (.iconst 0, 1) := by decide +kernel
theorem dX1_pin_13 : decode cX1_pin 13 = .ok (.iastore, 1) := by decide +kernel
theorem dX1_pin_14 : decode cX1_pin 14 = .ok (.iload_n 3, 1) := by decide +kernel
theorem dX1_pin_15 : decode cX1_pin 15 = .ok (.iconst 1, 1) := by decide +kernel
theorem dX1_pin_16 : decode cX1_pin 16 = .ok (.isub, 1) := by decide +kernel
theorem dX1_pin_17 : decode cX1_pin 17 = .ok (.istore 4, 2) := by decide +kernel
theorem dX1_pin_19 : decode cX1_pin 19 = .ok (.iload 4, 2) := by decide +kernel
theorem dX1_pin_21 : decode cX1_pin 21 = .ok (.ifCond .lt 83, 3) := by decide +kernel
theorem dX1_pin_24 : decode cX1_pin 24 = .ok (.aload_n 0, 1) := by decide +kernel
theorem dX1_pin_25 : decode cX1_pin 25 = .ok (.getfield 21, 3) := by decide +kernel
theorem dX1_pin_28 : decode cX1_pin 28 = .ok (.iload 4, 2) := by decide +kernel
theorem dX1_pin_30 : decode cX1_pin 30 = .ok (.ldc 78, 2) := by decide +kernel
theorem dX1_pin_32 : decode cX1_pin 32 = .ok (.iastore, 1) := by decide +kernel
theorem dX1_pin_33 : decode cX1_pin 33 = .ok (.iload 4, 2) := by decide +kernel
theorem dX1_pin_35 : decode cX1_pin 35 = .ok (.iconst 1, 1) := by decide +kernel
theorem dX1_pin_36 : decode cX1_pin 36 = .ok (.iadd, 1) := by decide +kernel
theorem dX1_pin_37 : decode cX1_pin 37 = .ok (.istore 5, 2) := by decide +kernel
theorem dX1_pin_39 : decode cX1_pin 39 = .ok (.iload 5, 2) := by decide +kernel
theorem dX1_pin_41 : decode cX1_pin 41 = .ok (.iload_n 3, 1) := by decide +kernel
theorem dX1_pin_42 : decode cX1_pin 42 = .ok (.if_icmp .gt 56, 3) := by decide +kernel
theorem dX1_pin_45 : decode cX1_pin 45 = .ok (.aload_n 0, 1) := by decide +kernel
theorem dX1_pin_46 : decode cX1_pin 46 = .ok (.getfield 21, 3) := by decide +kernel
theorem dX1_pin_49 : decode cX1_pin 49 = .ok (.iload 5, 2) := by decide +kernel
theorem dX1_pin_51 : decode cX1_pin 51 = .ok (.iaload, 1) := by decide +kernel
theorem dX1_pin_52 : decode cX1_pin 52 = .ok (.iconst 1, 1) := by decide +kernel
theorem dX1_pin_53 : decode cX1_pin 53 = .ok (.iadd, 1) := by decide +kernel
theorem dX1_pin_54 : decode cX1_pin 54 = .ok (.aload_n 0, 1) := by decide +kernel
theorem dX1_pin_55 : decode cX1_pin 55 = .ok (.getfield 21, 3) := by decide +kernel
theorem dX1_pin_58 : decode cX1_pin 58 = .ok (.iload 4, 2) := by decide +kernel
theorem dX1_pin_60 : decode cX1_pin 60 = .ok (.iaload, 1) := by decide +kernel
theorem dX1_pin_61 : decode cX1_pin 61 = .ok (.if_icmp .ge 31, 3) := by decide +kernel
theorem dX1_pin_64 : decode cX1_pin 64 = .ok (.aload_n 1, 1) := by decide +kernel
theorem dX1_pin_65 : decode cX1_pin 65 = .ok (.iload 4, 2) := by decide +kernel
theorem dX1_pin_67 : decode cX1_pin 67 = .ok (.iload 5, 2) := by decide +kernel
theorem dX1_pin_69 : decode cX1_pin 69 = .ok (.iload_n 2, 1) := by decide +kernel
theorem dX1_pin_70 : decode cX1_pin 70 = .ok (.invokestatic 67, 3) := by decide +kernel
theorem dX1_pin_73 : decode cX1_pin 73 = .ok (.ifCond .eq 19, 3) := by decide +kernel
theorem dX1_pin_76 : decode cX1_pin 76 = .ok (.aload_n 0, 1) := by decide +kernel
theorem dX1_pin_77 : decode cX1_pin 77 = .ok (.getfield 21, 3) := by decide +kernel
theorem dX1_pin_80 : decode cX1_pin 80 = .ok (.iload 4, 2) := by decide +kernel
theorem dX1_pin_82 : decode cX1_pin 82 = .ok (.aload_n 0, 1) := by decide +kernel
theorem dX1_pin_83 : decode cX1_pin 83 = .ok (.getfield 21, 3) := by decide +kernel
theorem dX1_pin_86 : decode cX1_pin 86 = .ok (.iload 5, 2) := by decide +kernel
theorem dX1_pin_88 : decode cX1_pin 88 = .ok (.iaload, 1) := by decide +kernel
theorem dX1_pin_89 : decode cX1_pin 89 = .ok (.iconst 1, 1) := by decide +kernel
theorem dX1_pin_90 : decode cX1_pin 90 = .ok (.iadd, 1) := by decide +kernel
theorem dX1_pin_91 : decode cX1_pin 91 = .ok (.iastore, 1) := by decide +kernel
theorem dX1_pin_92 : decode cX1_pin 92 = .ok (.iinc 5 1, 3) := by decide +kernel
theorem dX1_pin_95 : decode cX1_pin 95 = .ok (.goto (-56), 3) := by decide +kernel
theorem dX1_pin_98 : decode cX1_pin 98 = .ok (.iinc 4 (-1), 3) := by decide +kernel
theorem dX1_pin_101 : decode cX1_pin 101 = .ok (.goto (-82), 3) := by decide +kernel
theorem dX1_pin_104 : decode cX1_pin 104 = .ok (.iconst 1, 1) := by decide +kernel
theorem dX1_pin_105 : decode cX1_pin 105 = .ok (.istore 4, 2) := by decide +kernel
theorem dX1_pin_107 : decode cX1_pin 107 = .ok (.aload_n 0, 1) := by decide +kernel
theorem dX1_pin_108 : decode cX1_pin 108 = .ok (.getfield 24, 3) := by decide +kernel
theorem dX1_pin_111 : decode cX1_pin 111 = .ok (.iconst 0, 1) := by decide +kernel
theorem dX1_pin_112 : decode cX1_pin 112 = .ok (.iconst 0, 1) := by decide +kernel
theorem dX1_pin_113 : decode cX1_pin 113 = .ok (.iastore, 1) := by decide +kernel
theorem dX1_pin_114 : decode cX1_pin 114 = .ok (.iconst 1, 1) := by decide +kernel
theorem dX1_pin_115 : decode cX1_pin 115 = .ok (.istore 5, 2) := by decide +kernel
theorem dX1_pin_117 : decode cX1_pin 117 = .ok (.iload 5, 2) := by decide +kernel
theorem dX1_pin_119 : decode cX1_pin 119 = .ok (.iload_n 3, 1) := by decide +kernel
theorem dX1_pin_120 : decode cX1_pin 120 = .ok (.if_icmp .gt 63, 3) := by decide +kernel
theorem dX1_pin_123 : decode cX1_pin 123 = .ok (.aload_n 0, 1) := by decide +kernel
theorem dX1_pin_124 : decode cX1_pin 124 = .ok (.getfield 24, 3) := by decide +kernel
theorem dX1_pin_127 : decode cX1_pin 127 = .ok (.iload 4, 2) := by decide +kernel
theorem dX1_pin_129 : decode cX1_pin 129 = .ok (.iconst 1, 1) := by decide +kernel
theorem dX1_pin_130 : decode cX1_pin 130 = .ok (.isub, 1) := by decide +kernel
theorem dX1_pin_131 : decode cX1_pin 131 = .ok (.iaload, 1) := by decide +kernel
theorem dX1_pin_132 : decode cX1_pin 132 = .ok (.istore 6, 2) := by decide +kernel
theorem dX1_pin_134 : decode cX1_pin 134 = .ok (.aload_n 0, 1) := by decide +kernel
theorem dX1_pin_135 : decode cX1_pin 135 = .ok (.getfield 21, 3) := by decide +kernel
theorem dX1_pin_138 : decode cX1_pin 138 = .ok (.iload 5, 2) := by decide +kernel
theorem dX1_pin_140 : decode cX1_pin 140 = .ok (.iaload, 1) := by decide +kernel
theorem dX1_pin_141 : decode cX1_pin 141 = .ok (.aload_n 0, 1) := by decide +kernel
theorem dX1_pin_142 : decode cX1_pin 142 = .ok (.getfield 21, 3) := by decide +kernel
theorem dX1_pin_145 : decode cX1_pin 145 = .ok (.iload 6, 2) := by decide +kernel
theorem dX1_pin_147 : decode cX1_pin 147 = .ok (.iaload, 1) := by decide +kernel
theorem dX1_pin_148 : decode cX1_pin 148 = .ok (.iconst 1, 1) := by decide +kernel
theorem dX1_pin_149 : decode cX1_pin 149 = .ok (.isub, 1) := by decide +kernel
theorem dX1_pin_150 : decode cX1_pin 150 = .ok (.if_icmp .ne 27, 3) := by decide +kernel
theorem dX1_pin_153 : decode cX1_pin 153 = .ok (.aload_n 1, 1) := by decide +kernel
theorem dX1_pin_154 : decode cX1_pin 154 = .ok (.iload 6, 2) := by decide +kernel
theorem dX1_pin_156 : decode cX1_pin 156 = .ok (.iload 5, 2) := by decide +kernel
theorem dX1_pin_158 : decode cX1_pin 158 = .ok (.iload_n 2, 1) := by decide +kernel
theorem dX1_pin_159 : decode cX1_pin 159 = .ok (.invokestatic 67, 3) := by decide +kernel
theorem dX1_pin_162 : decode cX1_pin 162 = .ok (.ifCond .eq 15, 3) := by decide +kernel
theorem dX1_pin_165 : decode cX1_pin 165 = .ok (.aload_n 0, 1) := by decide +kernel
theorem dX1_pin_166 : decode cX1_pin 166 = .ok (.getfield 24, 3) := by decide +kernel
theorem dX1_pin_169 : decode cX1_pin 169 = .ok (.iload 4, 2) := by decide +kernel
theorem dX1_pin_171 : decode cX1_pin 171 = .ok (.iload 5, 2) := by decide +kernel
theorem dX1_pin_173 : decode cX1_pin 173 = .ok (.iastore, 1) := by decide +kernel
theorem dX1_pin_174 : decode cX1_pin 174 = .ok (.iinc 4 1, 3) := by decide +kernel
theorem dX1_pin_177 : decode cX1_pin 177 = .ok (.iinc 5 1, 3) := by decide +kernel
theorem dX1_pin_180 : decode cX1_pin 180 = .ok (.goto (-63), 3) := by decide +kernel
theorem dX1_pin_183 : decode cX1_pin 183 = .ok (.iload 4, 2) := by decide +kernel
theorem dX1_pin_185 : decode cX1_pin 185 = .ok (.ireturn, 1) := by decide +kernel
def md_X1_pin : List (Nat × Nat) := [(135, 0), (136, 0)]
set_option maxRecDepth 100000 in
set_option maxHeartbeats 4000000 in
theorem c_X1_pin {l : Launch} {D : q_D} (τ : q_T) (σ : q_V) (a0 : Nat) (a1 : Nat) (x2 : Int32) (hI : q_I τ σ) (tA0 : τ a0 = some (1, 1)) (tA1 : τ a1 = some (6, 1)) : q_Ci l D yX1_pin cX1_pin 7 (some .int) 3 68 τ σ [.ref a0, .ref a1, .int x2] (fun r σ1 => q_S md_X1_pin τ σ σ1 ∧ (q_r r 1 64) ∧ (∀ bc : Nat, σ a0 4 = .ref bc → q_ct σ1 bc r)) := by
  refine q_meti rfl (Nat.le_of_ble_eq_true rfl) (fun X hG hE => ?_)
  show q_O X 0 0 τ σ 0 [(0, .ref a0), (1, .ref a1), (2, .int x2)] []
  have hS0 : q_S md_X1_pin τ σ σ := q_S.rf hI
  refine q_aload_n (pc := 0) hG dX1_pin_0 1 rfl ?_
  refine q_getI (pc := 1) hG fl_X1_27 dX1_pin_1 hI tA1 ff_6_0 (fun v1 f1 g1 => ?_)
  refine q_iconst (pc := 4) hG dX1_pin_4 ki_1 ?_
  refine q_isub (pc := 5) hG dX1_pin_5 (fun v5 e5 => ?_)
  refine q_istore_n (pc := 6) [(3, .int v5), (0, .ref a0), (1, .ref a1), (2, .int x2)] hG dX1_pin_6 (by decide) rfl ?_
  refine q_aload_n (pc := 7) hG dX1_pin_7 1 rfl ?_
  refine q_getR (pc := 8) (k2 := 135) (n2 := 64) hG fl_X1_21 dX1_pin_8 hI tA0 ff_1_3 (fun b8 f8 T8 => ?_)
  refine q_iload_n (pc := 11) hG dX1_pin_11 0 rfl ?_
  refine q_iconst (pc := 12) hG dX1_pin_12 ki_0 ?_
  have r_1 := (q_subN (lo := 7) (hi := 63) e5 g1 rl_1 (by decide)).2
  refine q_iast (pc := 13) hG dX1_pin_13 hS0 ai_135 T8 (q_ix r_1 (by decide)) rl_0 (by decide) rfl (fun s13 u13 w13 => ?_)
  have m13 : s13 b8 v5.toInt.toNat = .int 0 := by rw [u13]; exact q_up_same
  refine q_iload_n (pc := 14) hG dX1_pin_14 0 rfl ?_
  refine q_iconst (pc := 15) hG dX1_pin_15 ki_1 ?_
  refine q_isub (pc := 16) hG dX1_pin_16 (fun v16 e16 => ?_)
  refine q_istore (pc := 17) [(4, .int v16), (3, .int v5), (0, .ref a0), (1, .ref a1), (2, .int x2)] hG dX1_pin_17 (by decide) rfl ?_
  have J19 : ∀ (n19 : Nat) (p19_4 : Int32) (σ19 : q_V), (q_r p19_4 (-1) 62) → (q_S md_X1_pin τ σ σ19) → ((p19_4.toInt - (-1)).toNat < n19) → q_O X 0 0 τ σ19 19 [(0, .ref a0), (1, .ref a1), (2, .int x2), (3, .int v5), (4, .int p19_4)] [] := by
    intro n19
    induction n19 with
    | zero => intro p19_4 σ19 r19_4 hS19 hm19; exact absurd hm19 (Nat.not_lt_zero _)
    | succ n19 ih19 =>
      intro p19_4 σ19 r19_4 hS19 hm19
      refine q_iload (pc := 19) hG dX1_pin_19 4 rfl ?_
      refine q_if_lt (pc := 21) hG 104 dX1_pin_21 rfl ?_ ?_
      · intro c21
        refine q_iconst (pc := 104) hG dX1_pin_104 ki_1 ?_
        refine q_istore (pc := 105) [(4, .int 1), (0, .ref a0), (1, .ref a1), (2, .int x2), (3, .int v5)] hG dX1_pin_105 (by decide) rfl ?_
        refine q_aload_n (pc := 107) hG dX1_pin_107 1 rfl ?_
        refine q_getR (pc := 108) (k2 := 136) (n2 := 64) hG fl_X1_24 dX1_pin_108 hS19.1 tA0 ff_1_4 (fun b108 f108 T108 => ?_)
        have f_2 := (hS19.2 _ _ _ _ tA0 rfl).symm.trans f108
        refine q_iconst (pc := 111) hG dX1_pin_111 ki_0 ?_
        refine q_iconst (pc := 112) hG dX1_pin_112 ki_0 ?_
        refine q_iast (pc := 113) hG dX1_pin_113 hS19 ai_136 T108 (q_ix rl_0 (by decide)) rl_0 (by decide) rfl (fun s113 u113 w113 => ?_)
        have m113 : s113 b108 (0 : Int32).toInt.toNat = .int 0 := by rw [u113]; exact q_up_same
        refine q_iconst (pc := 114) hG dX1_pin_114 ki_1 ?_
        refine q_istore (pc := 115) [(5, .int 1), (4, .int 1), (0, .ref a0), (1, .ref a1), (2, .int x2), (3, .int v5)] hG dX1_pin_115 (by decide) rfl ?_
        have J117 : ∀ (n117 : Nat) (p117_4 : Int32) (p117_5 : Int32) (σ117 : q_V), (q_r p117_4 1 64) → (q_r p117_5 1 64) → (q_S md_X1_pin τ σ σ117) → (p117_4.toInt ≤ p117_5.toInt) → (q_ct σ117 b108 p117_4) → ((64 - p117_5.toInt).toNat < n117) → q_O X 0 0 τ σ117 117 [(0, .ref a0), (1, .ref a1), (2, .int x2), (3, .int v5), (4, .int p117_4), (5, .int p117_5)] [] := by
          intro n117
          induction n117 with
          | zero => intro p117_4 p117_5 σ117 r117_4 r117_5 hS117 iN117 iC117 hm117; exact absurd hm117 (Nat.not_lt_zero _)
          | succ n117 ih117 =>
            intro p117_4 p117_5 σ117 r117_4 r117_5 hS117 iN117 iC117 hm117
            refine q_iload (pc := 117) hG dX1_pin_117 5 rfl ?_
            refine q_iload_n (pc := 119) hG dX1_pin_119 3 rfl ?_
            refine q_icmp_gt (pc := 120) hG 183 dX1_pin_120 rfl ?_ ?_
            · intro c120
              refine q_iload (pc := 183) hG dX1_pin_183 4 rfl ?_
              exact q_irt hG hE dX1_pin_185 ⟨hS117, r117_4, (fun bc hbc => by have q := hbc.symm.trans f_2; cases q; exact iC117)⟩
            intro c120
            refine q_aload_n (pc := 123) hG dX1_pin_123 0 rfl ?_
            refine q_getV (pc := 124) (v := .ref b108) hG fl_X1_24 dX1_pin_124 tA0 (hS117.same tA0 rfl f_2) ?_
            refine q_iload (pc := 127) hG dX1_pin_127 4 rfl ?_
            refine q_iconst (pc := 129) hG dX1_pin_129 ki_1 ?_
            refine q_isub (pc := 130) hG dX1_pin_130 (fun v130 e130 => ?_)
            have r_3 := (q_subN (lo := 0) (hi := 63) e130 r117_4 rl_1 (by decide)).2
            refine q_iald (pc := 131) hG dX1_pin_131 hS117.1 ai_136 T108 (q_ix r_3 (by decide)) (fun v131 f131 g131 => ?_)
            have r_5 := q_rle r117_5 r_1 c120
            have r_6 := (q_subN (lo := 6) (hi := 62) e16 r_1 rl_1 (by decide)).2
            have r_4 := iC117.at (by have o0 := iN117; have o1 := c120; have o2 := (q_subN (lo := 0) (hi := 63) e130 r117_4 rl_1 (by decide)).1; have o3 := (q_subN (lo := 7) (hi := 63) e5 g1 rl_1 (by decide)).1; have o4 := (q_subN (lo := 6) (hi := 62) e16 r_1 rl_1 (by decide)).1; have o5 := r117_4; have o6 := r_5; have o7 := g1; have o8 := r_3; have o9 := r_6; have o10 := r_1; have l11 := tl_1; unfold q_r at o5 o6 o7 o8 o9 o10; omega) f131
            refine q_istore (pc := 132) [(6, .int v131), (0, .ref a0), (1, .ref a1), (2, .int x2), (3, .int v5), (4, .int p117_4), (5, .int p117_5)] hG dX1_pin_132 (by decide) rfl ?_
            refine q_aload_n (pc := 134) hG dX1_pin_134 1 rfl ?_
            refine q_getV (pc := 135) (v := .ref b8) hG fl_X1_21 dX1_pin_135 tA0 (hS117.same tA0 rfl f8) ?_
            refine q_iload (pc := 138) hG dX1_pin_138 6 rfl ?_
            refine q_iald (pc := 140) hG dX1_pin_140 hS117.1 ai_135 T8 (q_ix r_5 (by decide)) (fun v140 f140 g140 => ?_)
            refine q_aload_n (pc := 141) hG dX1_pin_141 1 rfl ?_
            refine q_getV (pc := 142) (v := .ref b8) hG fl_X1_21 dX1_pin_142 tA0 (hS117.same tA0 rfl f8) ?_
            refine q_iload (pc := 145) hG dX1_pin_145 0 rfl ?_
            refine q_iald (pc := 147) hG dX1_pin_147 hS117.1 ai_135 T8 (q_ix r_4 (by decide)) (fun v147 f147 g147 => ?_)
            refine q_iconst (pc := 148) hG dX1_pin_148 ki_1 ?_
            refine q_isub (pc := 149) hG dX1_pin_149 (fun v149 e149 => ?_)
            have J177 : ∀ (p177_4 : Int32) (σ177 : q_V), (q_r p177_4 1 64) → (q_S md_X1_pin τ σ σ177) → (p177_4.toInt ≤ p117_5.toInt + 1) → (q_ct σ177 b108 p177_4) → q_O X 0 0 τ σ177 177 [(0, .ref a0), (1, .ref a1), (2, .int x2), (3, .int v5), (4, .int p177_4), (5, .int p117_5)] [] := by
              intro p177_4 σ177 r177_4 hS177 iN177 iC177
              obtain ⟨v177, e177⟩ : ∃ z : Int32, z = p117_5 + Int32.ofInt 1 := ⟨_, rfl⟩
              have h177 := q_incN (lo := 2) (hi := 64) r_5 (by decide) (by decide) e177
              refine q_iinc (pc := 177) [(5, .int v177), (0, .ref a0), (1, .ref a1), (2, .int x2), (3, .int v5), (4, .int p177_4)] hG dX1_pin_177 5 rfl e177 (by decide) rfl ?_
              refine q_goto (pc := 180) 117 hG dX1_pin_180 rfl ?_
              refine q_lv [1, 2, 3, 4, 5, 0] rfl ?_
              exact ih117 p177_4 v177 σ177 r177_4 (q_r.mono h177.2 (by decide)) hS177 (by have o0 := iN177; have o1 := h177.1; have o2 := iN117; have o3 := c120; have o4 := (q_subN (lo := 0) (hi := 63) e130 r117_4 rl_1 (by decide)).1; have o5 := (q_subN (lo := 7) (hi := 63) e5 g1 rl_1 (by decide)).1; have o6 := (q_subN (lo := 6) (hi := 62) e16 r_1 rl_1 (by decide)).1; have o7 := r117_4; have o8 := r_5; have o9 := r177_4; have o10 := g1; have o11 := r_3; have o12 := r_6; have o13 := h177.2; have o14 := r_1; have l15 := tl_1; unfold q_r at o7 o8 o9 o10 o11 o12 o13 o14; omega) iC177 (q_measU hm117 (by have o0 := iN117; have o1 := c120; have o2 := (q_subN (lo := 0) (hi := 63) e130 r117_4 rl_1 (by decide)).1; have o3 := iN177; have o4 := h177.1; have o5 := (q_subN (lo := 7) (hi := 63) e5 g1 rl_1 (by decide)).1; have o6 := (q_subN (lo := 6) (hi := 62) e16 r_1 rl_1 (by decide)).1; have o7 := r117_4; have o8 := r_5; have o9 := r177_4; have o10 := g1; have o11 := r_3; have o12 := r_6; have o13 := h177.2; have o14 := r_1; have l15 := tl_1; unfold q_r at o7 o8 o9 o10 o11 o12 o13 o14; omega) (h177.2).2)
            refine q_icmp_ne (pc := 150) hG 177 dX1_pin_150 rfl ?_ ?_
            · intro c150
              refine q_lv [1, 2, 3, 4, 5, 6] rfl ?_
              exact J177 p117_4 σ117 r117_4 hS117 (by have o0 := iN117; have o1 := c120; have o2 := (q_subN (lo := 0) (hi := 63) e130 r117_4 rl_1 (by decide)).1; have o3 := (q_subN (lo := 7) (hi := 63) e5 g1 rl_1 (by decide)).1; have o4 := (q_subN (lo := 6) (hi := 62) e16 r_1 rl_1 (by decide)).1; have o5 := r117_4; have o6 := r_5; have o7 := g1; have o8 := r_3; have o9 := r_6; have o10 := r_1; have l11 := tl_1; unfold q_r at o5 o6 o7 o8 o9 o10; omega) iC117
            intro c150
            refine q_aload_n (pc := 153) hG dX1_pin_153 2 rfl ?_
            refine q_iload (pc := 154) hG dX1_pin_154 0 rfl ?_
            refine q_iload (pc := 156) hG dX1_pin_156 6 rfl ?_
            refine q_iload_n (pc := 158) hG dX1_pin_158 3 rfl ?_
            refine q_pS (pc := 159) [.ref a1, .int v131, .int p117_5, .int x2] [] hG (c_X1_fitsBetween τ σ117 a1 v131 p117_5 x2 hS117.1 tA1 r_4 (q_r.mono r_5 (by decide))) my_X1_fitsBetween w551 w550 dX1_pin_159 rfl rfl (Nat.le_of_ble_eq_true rfl) (by decide) (fun v159 p159 => ?_)
            refine q_if_eq (pc := 162) hG 177 dX1_pin_162 rfl ?_ ?_
            · intro c162
              refine q_lv [1, 2, 3, 4, 5, 6] rfl ?_
              exact J177 p117_4 σ117 r117_4 hS117 (by have o0 := iN117; have o1 := c120; have o2 := (q_subN (lo := 0) (hi := 63) e130 r117_4 rl_1 (by decide)).1; have o3 := (q_subN (lo := 7) (hi := 63) e5 g1 rl_1 (by decide)).1; have o4 := (q_subN (lo := 6) (hi := 62) e16 r_1 rl_1 (by decide)).1; have o5 := r117_4; have o6 := r_5; have o7 := g1; have o8 := r_3; have o9 := r_6; have o10 := r_1; have l11 := tl_1; unfold q_r at o5 o6 o7 o8 o9 o10; omega) iC117
            intro c162
            refine q_aload_n (pc := 165) hG dX1_pin_165 1 rfl ?_
            refine q_getV (pc := 166) (v := .ref b108) hG fl_X1_24 dX1_pin_166 tA0 (hS117.same tA0 rfl f_2) ?_
            refine q_iload (pc := 169) hG dX1_pin_169 5 rfl ?_
            refine q_iload (pc := 171) hG dX1_pin_171 6 rfl ?_
            refine q_iast (pc := 173) hG dX1_pin_173 hS117 ai_136 T108 (by have o0 := iN117; have o1 := c120; have o2 := (q_subN (lo := 0) (hi := 63) e130 r117_4 rl_1 (by decide)).1; have o3 := (q_subN (lo := 7) (hi := 63) e5 g1 rl_1 (by decide)).1; have o4 := (q_subN (lo := 6) (hi := 62) e16 r_1 rl_1 (by decide)).1; have o5 := r117_4; have o6 := r_5; have o7 := g1; have o8 := r_3; have o9 := r_6; have o10 := r_1; have l11 := tl_1; unfold q_r at o5 o6 o7 o8 o9 o10; omega) r_5 (by decide) rfl (fun s173 u173 w173 => ?_)
            have m173 : s173 b108 p117_4.toInt.toNat = .int p117_5 := by rw [u173]; exact q_up_same
            obtain ⟨v174, e174⟩ : ∃ z : Int32, z = p117_4 + Int32.ofInt 1 := ⟨_, rfl⟩
            have h174 := q_incN (lo := 2) (hi := 65) r117_4 (by decide) (by decide) e174
            refine q_iinc (pc := 174) [(4, .int v174), (6, .int v131), (0, .ref a0), (1, .ref a1), (2, .int x2), (3, .int v5), (5, .int p117_5)] hG dX1_pin_174 5 rfl e174 (by decide) rfl ?_
            refine q_lv [2, 3, 4, 5, 0, 6] rfl ?_
            exact J177 v174 s173 (show q_r v174 1 64 from ⟨(by have o0 := h174.1; have o1 := iN117; have o2 := c120; have o3 := (q_subN (lo := 0) (hi := 63) e130 r117_4 rl_1 (by decide)).1; have o4 := (q_subN (lo := 7) (hi := 63) e5 g1 rl_1 (by decide)).1; have o5 := (q_subN (lo := 6) (hi := 62) e16 r_1 rl_1 (by decide)).1; have o6 := r117_4; have o7 := r_5; have o8 := g1; have o9 := r_3; have o10 := r_6; have o11 := h174.2; have o12 := r_1; have l13 := tl_1; unfold q_r at o6 o7 o8 o9 o10 o11 o12; omega), (by have o0 := h174.1; have o1 := iN117; have o2 := c120; have o3 := (q_subN (lo := 0) (hi := 63) e130 r117_4 rl_1 (by decide)).1; have o4 := (q_subN (lo := 7) (hi := 63) e5 g1 rl_1 (by decide)).1; have o5 := (q_subN (lo := 6) (hi := 62) e16 r_1 rl_1 (by decide)).1; have o6 := r117_4; have o7 := r_5; have o8 := g1; have o9 := r_3; have o10 := r_6; have o11 := h174.2; have o12 := r_1; have l13 := tl_1; unfold q_r at o6 o7 o8 o9 o10 o11 o12; omega)⟩) w173 (by have o0 := iN117; have o1 := c120; have o2 := (q_subN (lo := 0) (hi := 63) e130 r117_4 rl_1 (by decide)).1; have o3 := h174.1; have o4 := (q_subN (lo := 7) (hi := 63) e5 g1 rl_1 (by decide)).1; have o5 := (q_subN (lo := 6) (hi := 62) e16 r_1 rl_1 (by decide)).1; have o6 := r117_4; have o7 := r_5; have o8 := g1; have o9 := r_3; have o10 := r_6; have o11 := h174.2; have o12 := r_1; have l13 := tl_1; unfold q_r at o6 o7 o8 o9 o10 o11 o12; omega) (iC117.more u173 (q_r.mono r_5 (by decide)) (by have o0 := iN117; have o1 := c120; have o2 := (q_subN (lo := 0) (hi := 63) e130 r117_4 rl_1 (by decide)).1; have o3 := h174.1; have o4 := (q_subN (lo := 7) (hi := 63) e5 g1 rl_1 (by decide)).1; have o5 := (q_subN (lo := 6) (hi := 62) e16 r_1 rl_1 (by decide)).1; have o6 := r117_4; have o7 := r_5; have o8 := g1; have o9 := r_3; have o10 := r_6; have o11 := h174.2; have o12 := r_1; have l13 := tl_1; unfold q_r at o6 o7 o8 o9 o10 o11 o12; omega) (by have o0 := iN117; have o1 := c120; have o2 := (q_subN (lo := 0) (hi := 63) e130 r117_4 rl_1 (by decide)).1; have o3 := h174.1; have o4 := (q_subN (lo := 7) (hi := 63) e5 g1 rl_1 (by decide)).1; have o5 := (q_subN (lo := 6) (hi := 62) e16 r_1 rl_1 (by decide)).1; have o6 := r117_4; have o7 := r_5; have o8 := g1; have o9 := r_3; have o10 := r_6; have o11 := h174.2; have o12 := r_1; have l13 := tl_1; unfold q_r at o6 o7 o8 o9 o10 o11 o12; omega))
        refine q_lv [2, 3, 4, 5, 1, 0] rfl ?_
        exact J117 _ 1 1 s113 (q_r.mono rl_1 (by decide)) (q_r.mono rl_1 (by decide)) w113 (by have l0 := tl_1; omega) (q_ct.one m113) (Nat.lt_succ_self _)
      intro c21
      refine q_aload_n (pc := 24) hG dX1_pin_24 0 rfl ?_
      refine q_getV (pc := 25) (v := .ref b8) hG fl_X1_21 dX1_pin_25 tA0 (hS19.same tA0 rfl f8) ?_
      refine q_iload (pc := 28) hG dX1_pin_28 4 rfl ?_
      refine q_ldc (pc := 30) hG w642 dX1_pin_30 ?_
      have r_7 := q_zge r19_4 c21
      refine q_iast (pc := 32) hG dX1_pin_32 hS19 ai_135 T8 (q_ix r_7 (by decide)) rl_1000000 (by decide) rfl (fun s32 u32 w32 => ?_)
      have m32 : s32 b8 p19_4.toInt.toNat = .int 1000000 := by rw [u32]; exact q_up_same
      refine q_iload (pc := 33) hG dX1_pin_33 4 rfl ?_
      refine q_iconst (pc := 35) hG dX1_pin_35 ki_1 ?_
      refine q_iadd (pc := 36) hG dX1_pin_36 (fun v36 e36 => ?_)
      refine q_istore (pc := 37) [(5, .int v36), (0, .ref a0), (1, .ref a1), (2, .int x2), (3, .int v5), (4, .int p19_4)] hG dX1_pin_37 (by decide) rfl ?_
      have J39 : ∀ (n39 : Nat) (p39_5 : Int32) (σ39 : q_V), (q_r p39_5 1 64) → (q_S md_X1_pin τ σ σ39) → ((64 - p39_5.toInt).toNat < n39) → q_O X 0 0 τ σ39 39 [(0, .ref a0), (1, .ref a1), (2, .int x2), (3, .int v5), (4, .int p19_4), (5, .int p39_5)] [] := by
        intro n39
        induction n39 with
        | zero => intro p39_5 σ39 r39_5 hS39 hm39; exact absurd hm39 (Nat.not_lt_zero _)
        | succ n39 ih39 =>
          intro p39_5 σ39 r39_5 hS39 hm39
          refine q_iload (pc := 39) hG dX1_pin_39 5 rfl ?_
          refine q_iload_n (pc := 41) hG dX1_pin_41 3 rfl ?_
          refine q_icmp_gt (pc := 42) hG 98 dX1_pin_42 rfl ?_ ?_
          · intro c42
            obtain ⟨v98, e98⟩ : ∃ z : Int32, z = p19_4 + Int32.ofInt (-1) := ⟨_, rfl⟩
            have h98 := q_incN (lo := (-1)) (hi := 61) r_7 (by decide) (by decide) e98
            refine q_iinc (pc := 98) [(4, .int v98), (0, .ref a0), (1, .ref a1), (2, .int x2), (3, .int v5), (5, .int p39_5)] hG dX1_pin_98 4 rfl e98 (by decide) rfl ?_
            refine q_goto (pc := 101) 19 hG dX1_pin_101 rfl ?_
            refine q_lv [1, 2, 3, 4, 0] rfl ?_
            have r_8 := (q_addN (lo := 1) (hi := 63) e36 r_7 rl_1 (by decide)).2
            exact ih19 v98 σ39 (q_r.mono h98.2 (by decide)) hS39 (q_measD hm19 (by have o0 := c21; have o1 := (q_addN (lo := 1) (hi := 63) e36 r_7 rl_1 (by decide)).1; have o2 := h98.1; have o3 := r_7; have o4 := r_8; have o5 := h98.2; have l6 := tl_1; unfold q_r at o3 o4 o5; omega) (h98.2).1)
          intro c42
          refine q_aload_n (pc := 45) hG dX1_pin_45 0 rfl ?_
          refine q_getV (pc := 46) (v := .ref b8) hG fl_X1_21 dX1_pin_46 tA0 (hS39.same tA0 rfl f8) ?_
          refine q_iload (pc := 49) hG dX1_pin_49 5 rfl ?_
          have r_9 := q_rle r39_5 r_1 c42
          refine q_iald (pc := 51) hG dX1_pin_51 hS39.1 ai_135 T8 (q_ix r_9 (by decide)) (fun v51 f51 g51 => ?_)
          refine q_iconst (pc := 52) hG dX1_pin_52 ki_1 ?_
          refine q_iadd (pc := 53) hG dX1_pin_53 (fun v53 e53 => ?_)
          refine q_aload_n (pc := 54) hG dX1_pin_54 0 rfl ?_
          refine q_getV (pc := 55) (v := .ref b8) hG fl_X1_21 dX1_pin_55 tA0 (hS39.same tA0 rfl f8) ?_
          refine q_iload (pc := 58) hG dX1_pin_58 4 rfl ?_
          refine q_iald (pc := 60) hG dX1_pin_60 hS39.1 ai_135 T8 (q_ix r_7 (by decide)) (fun v60 f60 g60 => ?_)
          have J92 : ∀ (σ92 : q_V), (q_S md_X1_pin τ σ σ92) → q_O X 0 0 τ σ92 92 [(0, .ref a0), (1, .ref a1), (2, .int x2), (3, .int v5), (4, .int p19_4), (5, .int p39_5)] [] := by
            intro σ92 hS92
            obtain ⟨v92, e92⟩ : ∃ z : Int32, z = p39_5 + Int32.ofInt 1 := ⟨_, rfl⟩
            have h92 := q_incN (lo := 2) (hi := 64) r_9 (by decide) (by decide) e92
            refine q_iinc (pc := 92) [(5, .int v92), (0, .ref a0), (1, .ref a1), (2, .int x2), (3, .int v5), (4, .int p19_4)] hG dX1_pin_92 5 rfl e92 (by decide) rfl ?_
            refine q_goto (pc := 95) 39 hG dX1_pin_95 rfl ?_
            refine q_lv [1, 2, 3, 4, 5, 0] rfl ?_
            have r_10 := (q_subN (lo := 6) (hi := 62) e16 r_1 rl_1 (by decide)).2
            exact ih39 v92 σ92 (q_r.mono h92.2 (by decide)) hS92 (q_measU hm39 (by have o0 := c42; have o1 := h92.1; have o2 := (q_subN (lo := 7) (hi := 63) e5 g1 rl_1 (by decide)).1; have o3 := (q_subN (lo := 6) (hi := 62) e16 r_1 rl_1 (by decide)).1; have o4 := r_9; have o5 := g1; have o6 := r_10; have o7 := r_1; have o8 := h92.2; have l9 := tl_1; unfold q_r at o4 o5 o6 o7 o8; omega) (h92.2).2)
          refine q_icmp_ge (pc := 61) hG 92 dX1_pin_61 rfl ?_ ?_
          · intro c61
            refine q_lv [0, 1, 2, 3, 4, 5] rfl ?_
            exact J92 σ39 hS39
          intro c61
          refine q_aload_n (pc := 64) hG dX1_pin_64 1 rfl ?_
          refine q_iload (pc := 65) hG dX1_pin_65 4 rfl ?_
          refine q_iload (pc := 67) hG dX1_pin_67 5 rfl ?_
          refine q_iload_n (pc := 69) hG dX1_pin_69 2 rfl ?_
          refine q_pS (pc := 70) [.ref a1, .int p19_4, .int p39_5, .int x2] [] hG (c_X1_fitsBetween τ σ39 a1 p19_4 p39_5 x2 hS39.1 tA1 (q_r.mono r_7 (by decide)) (q_r.mono r_9 (by decide))) my_X1_fitsBetween w551 w550 dX1_pin_70 rfl rfl (Nat.le_of_ble_eq_true rfl) (by decide) (fun v70 p70 => ?_)
          refine q_if_eq (pc := 73) hG 92 dX1_pin_73 rfl ?_ ?_
          · intro c73
            refine q_lv [0, 1, 2, 3, 4, 5] rfl ?_
            exact J92 σ39 hS39
          intro c73
          refine q_aload_n (pc := 76) hG dX1_pin_76 0 rfl ?_
          refine q_getV (pc := 77) (v := .ref b8) hG fl_X1_21 dX1_pin_77 tA0 (hS39.same tA0 rfl f8) ?_
          refine q_iload (pc := 80) hG dX1_pin_80 4 rfl ?_
          refine q_aload_n (pc := 82) hG dX1_pin_82 0 rfl ?_
          refine q_getV (pc := 83) (v := .ref b8) hG fl_X1_21 dX1_pin_83 tA0 (hS39.same tA0 rfl f8) ?_
          refine q_iload (pc := 86) hG dX1_pin_86 5 rfl ?_
          refine q_ialdV (pc := 88) (v := .int v51) hG dX1_pin_88 T8 (by decide) (by decide) (q_ix r_9 (by decide)) f51 ?_
          refine q_iconst (pc := 89) hG dX1_pin_89 ki_1 ?_
          refine q_iadd (pc := 90) hG dX1_pin_90 (fun v90 e90 => ?_)
          rw [e90.trans e53.symm]
          have r_11 := q_rlt (q_r_any v53) g60 c61 2147483646 (by decide)
          refine q_iast (pc := 91) hG dX1_pin_91 hS39 ai_135 T8 (q_ix r_7 (by decide)) r_11 (by decide) rfl (fun s91 u91 w91 => ?_)
          have m91 : s91 b8 p19_4.toInt.toNat = .int v53 := by rw [u91]; exact q_up_same
          refine q_lv [0, 1, 2, 3, 4, 5] rfl ?_
          exact J92 s91 w91
      refine q_lv [1, 2, 3, 4, 5, 0] rfl ?_
      have r_12 := (q_addN (lo := 1) (hi := 63) e36 r_7 rl_1 (by decide)).2
      exact J39 _ v36 s32 (q_r.mono r_12 (by decide)) w32 (Nat.lt_succ_self _)
  refine q_lv [2, 3, 4, 1, 0] rfl ?_
  have r_13 := (q_subN (lo := 6) (hi := 62) e16 r_1 rl_1 (by decide)).2
  exact J19 _ v16 s13 (q_r.mono r_13 (by decide)) w13 (Nat.lt_succ_self _)
theorem dX1_offByPins_0 : decode cX1_offByPins 0 = .ok (.iconst 0, 1) := by decide +kernel
theorem dX1_offByPins_1 : decode cX1_offByPins 1 = .ok (.istore_n 3, 1) := by decide +kernel
theorem dX1_offByPins_2 : decode cX1_offByPins 2 = .ok (.iconst 1, 1) := by decide +kernel
theorem dX1_offByPins_3 : decode cX1_offByPins 3 = .ok (.istore 4, 2) := by decide +kernel
theorem dX1_offByPins_5 : decode cX1_offByPins 5 = .ok (.iload 4, 2) := by decide +kernel
theorem dX1_offByPins_7 : decode cX1_offByPins 7 = .ok (.iload_n 2, 1) := by decide +kernel
theorem dX1_offByPins_8 : decode cX1_offByPins 8 = .ok (.if_icmp .ge 39, 3) := by decide +kernel
theorem dX1_offByPins_11 : decode cX1_offByPins 11 = .ok (.iload 4, 2) := by decide +kernel
theorem dX1_offByPins_13 : decode cX1_offByPins 13 = .ok (.bipush 64, 2) := by decide +kernel
theorem dX1_offByPins_15 : decode cX1_offByPins 15 = .ok (.if_icmp .ge 32, 3) := by decide +kernel
theorem dX1_offByPins_18 : decode cX1_offByPins 18 = .ok (.iload_n 3, 1) := by decide +kernel
theorem dX1_offByPins_19 : decode cX1_offByPins 19 = .ok (.aload_n 1, 1) := by decide +kernel
theorem dX1_offByPins_20 : decode cX1_offByPins 20 = .ok (.aload_n 0, 1) := by decide +kernel
theorem dX1_offByPins_21 : decode cX1_offByPins 21 = .ok (.getfield 24, 3) := by decide +kernel
theorem dX1_offByPins_24 : decode cX1_offByPins 24 = .ok (.iload 4, 2) := by decide +kernel
theorem dX1_offByPins_26 : decode cX1_offByPins 26 = .ok (.iconst 1, 1) := by decide +kernel
theorem dX1_offByPins_27 : decode cX1_offByPins 27 = .ok (.isub, 1) := by decide +kernel
theorem dX1_offByPins_28 : decode cX1_offByPins 28 = .ok (.iaload, 1) := by decide +kernel
theorem dX1_offByPins_29 : decode cX1_offByPins 29 = .ok (.aload_n 0, 1) := by decide +kernel
theorem dX1_offByPins_30 : decode cX1_offByPins 30 = .ok (.getfield 24, 3) := by decide +kernel
theorem dX1_offByPins_33 : decode cX1_offByPins 33 = .ok (.iload 4, 2) := by decide +kernel
theorem dX1_offByPins_35 : decode cX1_offByPins 35 = .ok (.iaload, 1) := by decide +kernel
theorem dX1_offByPins_36 : decode cX1_offByPins 36 = .ok (.invokestatic 74, 3) := by decide +kernel
theorem dX1_offByPins_39 : decode cX1_offByPins 39 = .ok (.iadd, 1) := by decide +kernel
theorem dX1_offByPins_40 : decode cX1_offByPins 40 = .ok (.istore_n 3, 1) := by decide +kernel
theorem dX1_offByPins_41 : decode cX1_offByPins 41 = .ok (.iinc 4 1, 3) := by decide +kernel
theorem dX1_offByPins_44 : decode cX1_offByPins 44 = .ok (.goto (-39), 3) := by decide +kernel
theorem dX1_offByPins_47 : decode cX1_offByPins 47 = .ok (.iload_n 3, 1) := by decide +kernel
theorem dX1_offByPins_48 : decode cX1_offByPins 48 = .ok (.ireturn, 1) := by decide +kernel
set_option maxRecDepth 100000 in
set_option maxHeartbeats 4000000 in
theorem c_X1_offByPins {l : Launch} {D : q_D} (τ : q_T) (σ : q_V) (a0 : Nat) (a1 : Nat) (x2 : Int32) (hI : q_I τ σ) (tA0 : τ a0 = some (1, 1)) (tA1 : τ a1 = some (6, 1)) (rA2 : q_r x2 1 64) (bc : Nat) (hbc : σ a0 4 = .ref bc) (Tc : τ bc = some (136, 64)) (hct : q_ct σ bc x2) : q_Cp l D yX1_offByPins cX1_offByPins 5 (some .int) 3 68 τ σ [.ref a0, .ref a1, .int x2] (fun r => q_r r (-2147483648) 2147483647) := by
  refine q_meti rfl (Nat.le_of_ble_eq_true rfl) (fun X hG hE => ?_)
  show q_O X 0 0 τ σ 0 [(0, .ref a0), (1, .ref a1), (2, .int x2)] []
  refine q_iconst (pc := 0) hG dX1_offByPins_0 ki_0 ?_
  refine q_istore_n (pc := 1) [(3, .int 0), (0, .ref a0), (1, .ref a1), (2, .int x2)] hG dX1_offByPins_1 (by decide) rfl ?_
  refine q_iconst (pc := 2) hG dX1_offByPins_2 ki_1 ?_
  refine q_istore (pc := 3) [(4, .int 1), (3, .int 0), (0, .ref a0), (1, .ref a1), (2, .int x2)] hG dX1_offByPins_3 (by decide) rfl ?_
  have J5 : ∀ (n5 : Nat) (p5_3 : Int32) (p5_4 : Int32), (q_r p5_4 1 64) → ((64 - p5_4.toInt).toNat < n5) → q_O X 0 0 τ σ 5 [(0, .ref a0), (1, .ref a1), (2, .int x2), (3, .int p5_3), (4, .int p5_4)] [] := by
    intro n5
    induction n5 with
    | zero => intro p5_3 p5_4 r5_4 hm5; exact absurd hm5 (Nat.not_lt_zero _)
    | succ n5 ih5 =>
      intro p5_3 p5_4 r5_4 hm5
      refine q_iload (pc := 5) hG dX1_offByPins_5 4 rfl ?_
      refine q_iload_n (pc := 7) hG dX1_offByPins_7 2 rfl ?_
      refine q_icmp_ge (pc := 8) hG 47 dX1_offByPins_8 rfl ?_ ?_
      · intro c8
        refine q_iload_n (pc := 47) hG dX1_offByPins_47 3 rfl ?_
        exact q_irt hG hE dX1_offByPins_48 ⟨rfl, (q_r_any p5_3)⟩
      intro c8
      refine q_iload (pc := 11) hG dX1_offByPins_11 4 rfl ?_
      refine q_bipush (pc := 13) hG dX1_offByPins_13 kb_64 ?_
      refine q_icmp_ge (pc := 15) hG 47 dX1_offByPins_15 rfl ?_ ?_
      · intro c15
        have r_1 := q_rlt r5_4 rA2 c8 63 (by decide)
        exact absurd c15 (by have l0 := tl_64; have q0 := r_1; unfold q_r at q0; omega)
      intro c15
      have r_2 := q_rlt r5_4 rA2 c8 63 (by decide)
      refine q_iload_n (pc := 18) hG dX1_offByPins_18 3 rfl ?_
      refine q_aload_n (pc := 19) hG dX1_offByPins_19 1 rfl ?_
      refine q_aload_n (pc := 20) hG dX1_offByPins_20 0 rfl ?_
      refine q_getV (pc := 21) (v := .ref bc) hG fl_X1_24 dX1_offByPins_21 tA0 hbc ?_
      refine q_iload (pc := 24) hG dX1_offByPins_24 4 rfl ?_
      refine q_iconst (pc := 26) hG dX1_offByPins_26 ki_1 ?_
      refine q_isub (pc := 27) hG dX1_offByPins_27 (fun v27 e27 => ?_)
      have r_3 := (q_subN (lo := 0) (hi := 62) e27 r_2 rl_1 (by decide)).2
      refine q_iald (pc := 28) hG dX1_offByPins_28 hI ai_136 Tc (q_ix r_3 (by decide)) (fun v28 f28 g28 => ?_)
      have r_5 := q_rgt rA2 r5_4 c8 2 (by decide)
      have r_4 := hct.at (by have o0 := c8; have o1 := c15; have o2 := (q_subN (lo := 0) (hi := 62) e27 r_2 rl_1 (by decide)).1; have o3 := r_2; have o4 := r_3; have o5 := r_5; have l6 := tl_1; have l7 := tl_64; unfold q_r at o3 o4 o5; omega) f28
      refine q_aload_n (pc := 29) hG dX1_offByPins_29 0 rfl ?_
      refine q_getV (pc := 30) (v := .ref bc) hG fl_X1_24 dX1_offByPins_30 tA0 hbc ?_
      refine q_iload (pc := 33) hG dX1_offByPins_33 4 rfl ?_
      refine q_iald (pc := 35) hG dX1_offByPins_35 hI ai_136 Tc (q_ix r_2 (by decide)) (fun v35 f35 g35 => ?_)
      have r_6 := hct.at (by have o0 := c8; have o1 := c15; have o2 := (q_subN (lo := 0) (hi := 62) e27 r_2 rl_1 (by decide)).1; have o3 := r_2; have o4 := r_3; have o5 := r_5; have l6 := tl_1; have l7 := tl_64; unfold q_r at o3 o4 o5; omega) f35
      refine q_pS (pc := 36) [.ref a1, .int v28, .int v35] [.int p5_3] hG (c_X1_offBetween τ σ a1 v28 v35 hI tA1 r_4 r_6) my_X1_offBetween w561 w560 dX1_offByPins_36 rfl rfl (Nat.le_of_ble_eq_true rfl) (by decide) (fun v36 p36 => ?_)
      refine q_iadd (pc := 39) hG dX1_offByPins_39 (fun v39 e39 => ?_)
      refine q_istore_n (pc := 40) [(3, .int v39), (0, .ref a0), (1, .ref a1), (2, .int x2), (4, .int p5_4)] hG dX1_offByPins_40 (by decide) rfl ?_
      obtain ⟨v41, e41⟩ : ∃ z : Int32, z = p5_4 + Int32.ofInt 1 := ⟨_, rfl⟩
      have h41 := q_incN (lo := 2) (hi := 64) r_2 (by decide) (by decide) e41
      refine q_iinc (pc := 41) [(4, .int v41), (3, .int v39), (0, .ref a0), (1, .ref a1), (2, .int x2)] hG dX1_offByPins_41 4 rfl e41 (by decide) rfl ?_
      refine q_goto (pc := 44) 5 hG dX1_offByPins_44 rfl ?_
      refine q_lv [2, 3, 4, 1, 0] rfl ?_
      exact ih5 v39 v41 (q_r.mono h41.2 (by decide)) (q_measU hm5 (by have o0 := c8; have o1 := c15; have o2 := (q_subN (lo := 0) (hi := 62) e27 r_2 rl_1 (by decide)).1; have o3 := h41.1; have o4 := r_2; have o5 := r_3; have o6 := h41.2; have o7 := r_5; have l8 := tl_1; have l9 := tl_64; unfold q_r at o4 o5 o6 o7; omega) (h41.2).2)
  refine q_lv [2, 3, 4, 1, 0] rfl ?_
  exact J5 _ 0 1 (q_r.mono rl_1 (by decide)) (Nat.lt_succ_self _)
