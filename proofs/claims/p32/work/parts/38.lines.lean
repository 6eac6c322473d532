/-! laid by wip/p2/build.py -/
theorem dX12_isDot_0 : decode cX12_isDot 0 = .ok (.iload_n 1, 1) := by decide +kernel
theorem dX12_isDot_1 : decode cX12_isDot 1 = .ok (.ifCond .lt 19, 3) := by decide +kernel
theorem dX12_isDot_4 : decode cX12_isDot 4 = .ok (.iload_n 1, 1) := by decide +kernel
theorem dX12_isDot_5 : decode cX12_isDot 5 = .ok (.aload_n 0, 1) := by decide +kernel
theorem dX12_isDot_6 : decode cX12_isDot 6 = .ok (.getfield 7, 3) := by decide +kernel
theorem dX12_isDot_9 : decode cX12_isDot 9 = .ok (.sipush 512, 3) := by decide +kernel
theorem dX12_isDot_12 : decode cX12_isDot 12 = .ok (.iaload, 1) := by decide +kernel
theorem dX12_isDot_13 : decode cX12_isDot 13 = .ok (.if_icmp .ge 7, 3) := by decide +kernel
theorem dX12_isDot_16 : decode cX12_isDot 16 = .ok (.iconst 1, 1) := by decide +kernel
theorem dX12_isDot_17 : decode cX12_isDot 17 = .ok (.goto 4, 3) := by decide +kernel
theorem dX12_isDot_20 : decode cX12_isDot 20 = .ok (.iconst 0, 1) := by decide +kernel
theorem dX12_isDot_21 : decode cX12_isDot 21 = .ok (.ireturn, 1) := by decide +kernel
set_option maxRecDepth 100000 in
set_option maxHeartbeats 4000000 in
theorem c_X12_isDot {l : Launch} {D : q_D} (τ : q_T) (σ : q_V) (a0 : Nat) (x1 : Int32) (hI : q_I τ σ) (tA0 : τ a0 = some (10, 1)) : q_Cp l D yX12_isDot cX12_isDot 2 (some .boolean) 0 0 τ σ [.ref a0, .int x1] (fun r => (q_r r 0 1) ∧ (r.toInt = f_X12_isDot (fx_N σ) a0 x1.toInt) ∧ (r.toInt = 1 → 0 ≤ x1.toInt ∧ x1.toInt ≤ 63 ∧ ∀ (bn : Nat) (d : Int32), σ a0 0 = .ref bn → σ bn 512 = .int d → x1.toInt < d.toInt) ∧ (∀ (bn : Nat) (d : Int32), σ a0 0 = .ref bn → σ bn (512 : Int32).toInt.toNat = .int d → (r.toInt = 1 ↔ (0 ≤ x1.toInt ∧ x1.toInt < d.toInt)))) := by
  refine q_meti rfl (Nat.le_of_ble_eq_true rfl) (fun X hG hE => ?_)
  show q_O X 0 0 τ σ 0 [(0, .ref a0), (1, .int x1)] []
  obtain ⟨Fv, hF⟩ : ∃ z, fx_eq z (f_X12_isDot (fx_N σ) a0 x1.toInt) := ⟨_, fx_rf⟩
  have hF0 := hF
  unfold f_X12_isDot at hF
  obtain ⟨q_1b, q_1f, q_1T⟩ := (hI a0 10 1 tA0 0 (by decide)).ref (k := 100) (n := 549) rfl
  replace hF := fx_R hF q_1f rfl
  obtain ⟨q_2v, q_2f, q_2r⟩ := (hI q_1b 100 549 q_1T 512 (by decide)).int (lo := 8) (hi := 64) rfl
  have q_2g : σ q_1b (512 : Int32).toInt.toNat = .int q_2v := q_2f
  replace hF := fx_I hF q_2g (congrArg Int.toNat tl_512)
  refine q_iload_n (pc := 0) hG dX12_isDot_0 1 rfl ?_
  refine q_if_lt (pc := 1) hG 20 dX12_isDot_1 rfl ?_ ?_
  · intro c1
    replace hF := fx_lt1 hF rfl rfl c1
    refine q_iconst (pc := 20) hG dX12_isDot_20 ki_0 ?_
    have r_3 := q_zlt (q_r_any x1) c1
    exact q_zrt hG hE dX12_isDot_21 (q_r.mono rl_0 (by decide)) ⟨rfl, (q_r.mono rl_0 (by decide)), (by rw [tl_0]; exact fx_end hF hF0), (fun q => ⟨(by have o0 := c1; have o1 := r_3; have l2 := tl_0; have o3 := q; unfold q_r at o1; omega), (by have o0 := c1; have o1 := r_3; have l2 := tl_0; have o3 := q; unfold q_r at o1; omega), fun bn d e1 e2 => absurd q (by rw [tl_0]; decide)⟩), (fun bn d e1 e2 => by cases e1.symm.trans q_1f; cases e2.symm.trans q_2g; exact (by have o0 := c1; have o1 := q_2r; have o2 := r_3; have l3 := tl_0; unfold q_r at o1 o2; omega))⟩
  intro c1
  replace hF := fx_lt2 hF rfl rfl c1
  refine q_iload_n (pc := 4) hG dX12_isDot_4 1 rfl ?_
  refine q_aload_n (pc := 5) hG dX12_isDot_5 0 rfl ?_
  refine q_getV (pc := 6) (v := .ref q_1b) hG fl_X12_7 dX12_isDot_6 tA0 q_1f ?_
  refine q_sipush (pc := 9) hG dX12_isDot_9 ks_512 ?_
  refine q_ialdV (pc := 12) (v := .int q_2v) hG dX12_isDot_12 q_1T (by decide) (by decide) (q_ix rl_512 (by decide)) q_2g ?_
  refine q_icmp_ge (pc := 13) hG 20 dX12_isDot_13 rfl ?_ ?_
  · intro c13
    have r_4 := q_zge (q_r_any x1) c1
    replace hF := fx_lt2 hF rfl rfl c13
    refine q_iconst (pc := 20) hG dX12_isDot_20 ki_0 ?_
    have r_5 := q_rge r_4 q_2r c13
    exact q_zrt hG hE dX12_isDot_21 (q_r.mono rl_0 (by decide)) ⟨rfl, (q_r.mono rl_0 (by decide)), (by rw [tl_0]; exact fx_end hF hF0), (fun q => ⟨(by have o0 := c1; have o1 := c13; have o2 := q_2r; have o3 := r_5; have l4 := tl_0; have o5 := q; unfold q_r at o2 o3; omega), (by have o0 := c1; have o1 := c13; have o2 := q_2r; have o3 := r_5; have l4 := tl_0; have o5 := q; unfold q_r at o2 o3; omega), fun bn d e1 e2 => absurd q (by rw [tl_0]; decide)⟩), (fun bn d e1 e2 => by cases e1.symm.trans q_1f; cases e2.symm.trans q_2g; exact (by have o0 := c1; have o1 := c13; have o2 := q_2r; have o3 := r_5; have l4 := tl_0; unfold q_r at o2 o3; omega))⟩
  intro c13
  have r_6 := q_zge (q_r_any x1) c1
  replace hF := fx_lt1 hF rfl rfl c13
  refine q_iconst (pc := 16) hG dX12_isDot_16 ki_1 ?_
  refine q_goto (pc := 17) 21 hG dX12_isDot_17 rfl ?_
  have r_7 := q_rlt r_6 q_2r c13 63 (by decide)
  exact q_zrt hG hE dX12_isDot_21 (q_r.mono rl_1 (by decide)) ⟨rfl, (q_r.mono rl_1 (by decide)), (by rw [tl_1]; exact fx_end hF hF0), (fun q => ⟨(by have o0 := c1; have o1 := c13; have o2 := q_2r; have o3 := r_7; have l4 := tl_1; have o5 := q; unfold q_r at o2 o3; omega), (by have o0 := c1; have o1 := c13; have o2 := q_2r; have o3 := r_7; have l4 := tl_1; have o5 := q; unfold q_r at o2 o3; omega), fun bn d e1 e2 => (by have e3 := e1.symm.trans q_1f; cases e3; have e4 := e2.symm.trans (show σ _ 512 = _ from q_2g); cases e4; exact (by have o0 := c1; have o1 := c13; have o2 := q_2r; have o3 := r_7; unfold q_r at o2 o3; omega))⟩), (fun bn d e1 e2 => by cases e1.symm.trans q_1f; cases e2.symm.trans q_2g; exact (by have o0 := c1; have o1 := c13; have o2 := q_2r; have o3 := r_7; have l4 := tl_1; unfold q_r at o2 o3; omega))⟩
theorem dX12_straight_0 : decode cX12_straight 0 = .ok (.iload_n 3, 1) := by decide +kernel
theorem dX12_straight_1 : decode cX12_straight 1 = .ok (.iload_n 1, 1) := by decide +kernel
theorem dX12_straight_2 : decode cX12_straight 2 = .ok (.if_icmp .ne 12, 3) := by decide +kernel
theorem dX12_straight_5 : decode cX12_straight 5 = .ok (.aload_n 0, 1) := by decide +kernel
theorem dX12_straight_6 : decode cX12_straight 6 = .ok (.getfield 7, 3) := by decide +kernel
theorem dX12_straight_9 : decode cX12_straight 9 = .ok (.iconst 0, 1) := by decide +kernel
theorem dX12_straight_10 : decode cX12_straight 10 = .ok (.iload_n 1, 1) := by decide +kernel
theorem dX12_straight_11 : decode cX12_straight 11 = .ok (.iadd, 1) := by decide +kernel
theorem dX12_straight_12 : decode cX12_straight 12 = .ok (.iaload, 1) := by decide +kernel
theorem dX12_straight_13 : decode cX12_straight 13 = .ok (.ireturn, 1) := by decide +kernel
theorem dX12_straight_14 : decode cX12_straight 14 = .ok (.aload_n 0, 1) := by decide +kernel
theorem dX12_straight_15 : decode cX12_straight 15 = .ok (.getfield 7, 3) := by decide +kernel
theorem dX12_straight_18 : decode cX12_straight 18 = .ok (.iconst 0, 1) := by decide +kernel
theorem dX12_straight_19 : decode cX12_straight 19 = .ok (.iload_n 1, 1) := by decide +kernel
theorem dX12_straight_20 : decode cX12_straight 20 = .ok (.iadd, 1) := by decide +kernel
theorem dX12_straight_21 : decode cX12_straight 21 = .ok (.iaload, 1) := by decide +kernel
theorem dX12_straight_22 : decode cX12_straight 22 = .ok (.aload_n 0, 1) := by decide +kernel
theorem dX12_straight_23 : decode cX12_straight 23 = .ok (.getfield 7, 3) := by decide +kernel
theorem dX12_straight_26 : decode cX12_straight 26 = .ok (.iconst 0, 1) := by decide +kernel
theorem dX12_straight_27 : decode cX12_straight 27 = .ok (.iload_n 2, 1) := by decide +kernel
theorem dX12_straight_28 : decode cX12_straight 28 = .ok (.iadd, 1) := by decide +kernel
theorem dX12_straight_29 : decode cX12_straight 29 = .ok (.iaload, 1) := by decide +kernel
theorem dX12_straight_30 : decode cX12_straight 30 = .ok (.aload_n 0, 1) := by decide +kernel
theorem dX12_straight_31 : decode cX12_straight 31 = .ok (.getfield 7, 3) := by decide +kernel
theorem dX12_straight_34 : decode cX12_straight 34 = .ok (.iconst 0, 1) := by decide +kernel
theorem dX12_straight_35 : decode cX12_straight 35 = .ok (.iload_n 1, 1) := by decide +kernel
theorem dX12_straight_36 : decode cX12_straight 36 = .ok (.iadd, 1) := by decide +kernel
theorem dX12_straight_37 : decode cX12_straight 37 = .ok (.iaload, 1) := by decide +kernel
theorem dX12_straight_38 : decode cX12_straight 38 = .ok (.isub, 1) := by decide +kernel
theorem dX12_straight_39 : decode cX12_straight 39 = .ok (.iload_n 3, 1) := by decide +kernel
theorem dX12_straight_40 : decode cX12_straight 40 = .ok (.iload_n 1, 1) := by decide +kernel
theorem dX12_straight_41 : decode cX12_straight 41 = .ok (.isub, 1) := by decide +kernel
theorem dX12_straight_42 : decode cX12_straight 42 = .ok (.imul, 1) := by decide +kernel
theorem dX12_straight_43 : decode cX12_straight 43 = .ok (.iload_n 2, 1) := by decide +kernel
theorem dX12_straight_44 : decode cX12_straight 44 = .ok (.iload_n 1, 1) := by decide +kernel
theorem dX12_straight_45 : decode cX12_straight 45 = .ok (.isub, 1) := by decide +kernel
theorem dX12_straight_46 : decode cX12_straight 46 = .ok (.idiv, 1) := by decide +kernel
theorem dX12_straight_47 : decode cX12_straight 47 = .ok (.iadd, 1) := by decide +kernel
theorem dX12_straight_48 : decode cX12_straight 48 = .ok (.ireturn, 1) := by decide +kernel
set_option maxRecDepth 100000 in
set_option maxHeartbeats 4000000 in
theorem c_X12_straight {l : Launch} {D : q_D} (τ : q_T) (σ : q_V) (a0 : Nat) (x1 : Int32) (x2 : Int32) (x3 : Int32) (hI : q_I τ σ) (tA0 : τ a0 = some (10, 1)) (rA1 : q_r x1 0 63) (rA2 : q_r x2 0 63) (rA3 : q_r x3 0 63) (hlt : x1.toInt < x2.toInt) : q_Cp l D yX12_straight cX12_straight 4 (some .int) 0 0 τ σ [.ref a0, .int x1, .int x2, .int x3] (fun r => (q_r r (-2147483648) 2147483647) ∧ (∀ bn : Nat, σ a0 0 = .ref bn → r = q_str (σ bn) x1 x2 x3)) := by
  refine q_meti rfl (Nat.le_of_ble_eq_true rfl) (fun X hG hE => ?_)
  show q_O X 0 0 τ σ 0 [(0, .ref a0), (1, .int x1), (2, .int x2), (3, .int x3)] []
  obtain ⟨q_1b, q_1f, q_1T⟩ := (hI a0 10 1 tA0 0 (by decide)).ref (k := 100) (n := 549) rfl
  refine q_iload_n (pc := 0) hG dX12_straight_0 3 rfl ?_
  refine q_iload_n (pc := 1) hG dX12_straight_1 1 rfl ?_
  refine q_icmp_ne (pc := 2) hG 14 dX12_straight_2 rfl ?_ ?_
  · intro c2
    refine q_aload_n (pc := 14) hG dX12_straight_14 0 rfl ?_
    refine q_getV (pc := 15) (v := .ref q_1b) hG fl_X12_7 dX12_straight_15 tA0 q_1f ?_
    refine q_iconst (pc := 18) hG dX12_straight_18 ki_0 ?_
    refine q_iload_n (pc := 19) hG dX12_straight_19 1 rfl ?_
    refine q_iadd (pc := 20) hG dX12_straight_20 (fun v20 e20 => ?_)
    have r_2 := (q_addN (lo := 0) (hi := 63) e20 rl_0 rA1 (by decide)).2
    refine q_naldc (pc := 21) (a1 := -99) (a2 := 99) hG dX12_straight_21 hI q_1T (q_ix r_2 (by decide)) (q_nkerb r_2 (by decide)) (fun v21 f21 g21 => ?_)
    refine q_aload_n (pc := 22) hG dX12_straight_22 0 rfl ?_
    refine q_getV (pc := 23) (v := .ref q_1b) hG fl_X12_7 dX12_straight_23 tA0 q_1f ?_
    refine q_iconst (pc := 26) hG dX12_straight_26 ki_0 ?_
    refine q_iload_n (pc := 27) hG dX12_straight_27 2 rfl ?_
    refine q_iadd (pc := 28) hG dX12_straight_28 (fun v28 e28 => ?_)
    have r_3 := (q_addN (lo := 0) (hi := 63) e28 rl_0 rA2 (by decide)).2
    refine q_naldc (pc := 29) (a1 := -99) (a2 := 99) hG dX12_straight_29 hI q_1T (q_ix r_3 (by decide)) (q_nkerb r_3 (by decide)) (fun v29 f29 g29 => ?_)
    refine q_aload_n (pc := 30) hG dX12_straight_30 0 rfl ?_
    refine q_getV (pc := 31) (v := .ref q_1b) hG fl_X12_7 dX12_straight_31 tA0 q_1f ?_
    refine q_iconst (pc := 34) hG dX12_straight_34 ki_0 ?_
    refine q_iload_n (pc := 35) hG dX12_straight_35 1 rfl ?_
    refine q_iadd (pc := 36) hG dX12_straight_36 (fun v36 e36 => ?_)
    rw [e36.trans e20.symm]
    refine q_ialdV (pc := 37) (v := .int v21) hG dX12_straight_37 q_1T (by decide) (by decide) (q_ix r_2 (by decide)) f21 ?_
    refine q_isub (pc := 38) hG dX12_straight_38 (fun v38 e38 => ?_)
    refine q_iload_n (pc := 39) hG dX12_straight_39 3 rfl ?_
    refine q_iload_n (pc := 40) hG dX12_straight_40 1 rfl ?_
    refine q_isub (pc := 41) hG dX12_straight_41 (fun v41 e41 => ?_)
    refine q_imul (pc := 42) hG dX12_straight_42 (fun v42 e42 => ?_)
    have r_4 := (q_subN (lo := (-198)) (hi := 198) e38 g29 g21 (by decide)).2
    have r_5 := (q_subN (lo := (-63)) (hi := 63) e41 rA3 rA1 (by decide)).2
    refine q_iload_n (pc := 43) hG dX12_straight_43 2 rfl ?_
    refine q_iload_n (pc := 44) hG dX12_straight_44 1 rfl ?_
    refine q_isub (pc := 45) hG dX12_straight_45 (fun v45 e45 => ?_)
    have r_6 := (q_mulN (lo := (-12474)) (hi := 12474) e42 r_4 r_5 (by decide)).2
    have r_7 := (q_subN (lo := (-63)) (hi := 63) e45 rA2 rA1 (by decide)).2
    refine q_idiv (pc := 46) hG dX12_straight_46 (q_nz (by have o0 := (q_subN (lo := (-63)) (hi := 63) e45 rA2 rA1 (by decide)).1; have o1 := hlt; have o2 := c2; have o3 := (q_addN (lo := 0) (hi := 63) e20 rl_0 rA1 (by decide)).1; have o4 := (q_addN (lo := 0) (hi := 63) e28 rl_0 rA2 (by decide)).1; have o5 := (q_subN (lo := (-63)) (hi := 63) e41 rA3 rA1 (by decide)).1; have o6 := (q_mulN (lo := (-12474)) (hi := 12474) e42 r_4 r_5 (by decide)).1; have o7 := (q_subN (lo := (-198)) (hi := 198) e38 g29 g21 (by decide)).1; have o8 := r_2; have o9 := g21; have o10 := r_3; have o11 := g29; have o12 := r_4; have o13 := r_5; have o14 := r_6; have o15 := r_7; have o16 := rA1; have o17 := rA2; have o18 := rA3; have l19 := tl_0; unfold q_r at o8 o9 o10 o11 o12 o13 o14 o15 o16 o17 o18; omega)) (fun v46 e46 => ?_)
    refine q_iadd (pc := 47) hG dX12_straight_47 (fun v47 e47 => ?_)
    exact q_irt hG hE dX12_straight_48 ⟨rfl, (q_r_any v47), (fun bn hbn => by cases hbn.symm.trans q_1f; unfold q_str; rw [if_neg (by have o0 := hlt; have o1 := c2; have o2 := (q_addN (lo := 0) (hi := 63) e20 rl_0 rA1 (by decide)).1; have o3 := (q_addN (lo := 0) (hi := 63) e28 rl_0 rA2 (by decide)).1; have o4 := (q_subN (lo := (-63)) (hi := 63) e41 rA3 rA1 (by decide)).1; have o5 := (q_mulN (lo := (-12474)) (hi := 12474) e42 r_4 r_5 (by decide)).1; have o6 := (q_subN (lo := (-63)) (hi := 63) e45 rA2 rA1 (by decide)).1; have o7 := (q_subN (lo := (-198)) (hi := 198) e38 g29 g21 (by decide)).1; have o8 := r_2; have o9 := g21; have o10 := r_3; have o11 := g29; have o12 := r_4; have o13 := r_5; have o14 := r_6; have o15 := r_7; have o16 := rA1; have o17 := rA2; have o18 := rA3; have l19 := tl_0; unfold q_r at o8 o9 o10 o11 o12 o13 o14 o15 o16 o17 o18; omega), show q_i32 (σ q_1b x1.toInt.toNat) = v21 from (by rw [← show v20.toInt = x1.toInt from (by have o0 := hlt; have o1 := c2; have o2 := (q_addN (lo := 0) (hi := 63) e20 rl_0 rA1 (by decide)).1; have o3 := (q_addN (lo := 0) (hi := 63) e28 rl_0 rA2 (by decide)).1; have o4 := (q_subN (lo := (-63)) (hi := 63) e41 rA3 rA1 (by decide)).1; have o5 := (q_mulN (lo := (-12474)) (hi := 12474) e42 r_4 r_5 (by decide)).1; have o6 := (q_subN (lo := (-63)) (hi := 63) e45 rA2 rA1 (by decide)).1; have o7 := (q_subN (lo := (-198)) (hi := 198) e38 g29 g21 (by decide)).1; have o8 := r_2; have o9 := g21; have o10 := r_3; have o11 := g29; have o12 := r_4; have o13 := r_5; have o14 := r_6; have o15 := r_7; have o16 := rA1; have o17 := rA2; have o18 := rA3; have l19 := tl_0; unfold q_r at o8 o9 o10 o11 o12 o13 o14 o15 o16 o17 o18; omega)]; exact q_i32_at f21), show q_i32 (σ q_1b x2.toInt.toNat) = v29 from (by rw [← show v28.toInt = x2.toInt from (by have o0 := hlt; have o1 := c2; have o2 := (q_addN (lo := 0) (hi := 63) e20 rl_0 rA1 (by decide)).1; have o3 := (q_addN (lo := 0) (hi := 63) e28 rl_0 rA2 (by decide)).1; have o4 := (q_subN (lo := (-63)) (hi := 63) e41 rA3 rA1 (by decide)).1; have o5 := (q_mulN (lo := (-12474)) (hi := 12474) e42 r_4 r_5 (by decide)).1; have o6 := (q_subN (lo := (-63)) (hi := 63) e45 rA2 rA1 (by decide)).1; have o7 := (q_subN (lo := (-198)) (hi := 198) e38 g29 g21 (by decide)).1; have o8 := r_2; have o9 := g21; have o10 := r_3; have o11 := g29; have o12 := r_4; have o13 := r_5; have o14 := r_6; have o15 := r_7; have o16 := rA1; have o17 := rA2; have o18 := rA3; have l19 := tl_0; unfold q_r at o8 o9 o10 o11 o12 o13 o14 o15 o16 o17 o18; omega)]; exact q_i32_at f29), e47, e46, e42, e38, e41, e45])⟩
  intro c2
  refine q_aload_n (pc := 5) hG dX12_straight_5 0 rfl ?_
  refine q_getV (pc := 6) (v := .ref q_1b) hG fl_X12_7 dX12_straight_6 tA0 q_1f ?_
  refine q_iconst (pc := 9) hG dX12_straight_9 ki_0 ?_
  refine q_iload_n (pc := 10) hG dX12_straight_10 1 rfl ?_
  refine q_iadd (pc := 11) hG dX12_straight_11 (fun v11 e11 => ?_)
  have r_8 := (q_addN (lo := 0) (hi := 63) e11 rl_0 rA1 (by decide)).2
  refine q_naldc (pc := 12) (a1 := -99) (a2 := 99) hG dX12_straight_12 hI q_1T (q_ix r_8 (by decide)) (q_nkerb r_8 (by decide)) (fun v12 f12 g12 => ?_)
  exact q_irt hG hE dX12_straight_13 ⟨rfl, (q_r.mono g12 (by decide)), (fun bn hbn => by cases hbn.symm.trans q_1f; unfold q_str; rw [if_pos (by have o0 := hlt; have o1 := c2; have o2 := (q_addN (lo := 0) (hi := 63) e11 rl_0 rA1 (by decide)).1; have o3 := r_8; have o4 := rA1; have o5 := rA2; have o6 := rA3; have l7 := tl_0; unfold q_r at o3 o4 o5 o6; omega), ← show v11.toInt = x1.toInt from (by have o0 := hlt; have o1 := c2; have o2 := (q_addN (lo := 0) (hi := 63) e11 rl_0 rA1 (by decide)).1; have o3 := r_8; have o4 := rA1; have o5 := rA2; have o6 := rA3; have l7 := tl_0; unfold q_r at o3 o4 o5 o6; omega)]; exact (q_i32_at f12).symm)⟩
theorem dX12_worst_0 : decode cX12_worst 0 = .ok (.iconst 0, 1) := by decide +kernel
theorem dX12_worst_1 : decode cX12_worst 1 = .ok (.istore_n 3, 1) := by decide +kernel
theorem dX12_worst_2 : decode cX12_worst 2 = .ok (.iload_n 1, 1) := by decide +kernel
theorem dX12_worst_3 : decode cX12_worst 3 = .ok (.iconst 1, 1) := by decide +kernel
theorem dX12_worst_4 : decode cX12_worst 4 = .ok (.iadd, 1) := by decide +kernel
theorem dX12_worst_5 : decode cX12_worst 5 = .ok (.istore 4, 2) := by decide +kernel
theorem dX12_worst_7 : decode cX12_worst 7 = .ok (.iload 4, 2) := by decide +kernel
theorem dX12_worst_9 : decode cX12_worst 9 = .ok (.iload_n 2, 1) := by decide +kernel
theorem dX12_worst_10 : decode cX12_worst 10 = .ok (.if_icmp .ge 35, 3) := by decide +kernel
theorem dX12_worst_13 : decode cX12_worst 13 = .ok (.iload_n 3, 1) := by decide +kernel
theorem dX12_worst_14 : decode cX12_worst 14 = .ok (.aload_n 0, 1) := by decide +kernel
theorem dX12_worst_15 : decode cX12_worst 15 = .ok (.iload_n 1, 1) := by decide +kernel
theorem dX12_worst_16 : decode cX12_worst 16 = .ok (.iload_n 2, 1) := by decide +kernel
theorem dX12_worst_17 : decode cX12_worst 17 = .ok (.iload 4, 2) := by decide +kernel
theorem dX12_worst_19 : decode cX12_worst 19 = .ok (.invokevirtual 325, 3) := by decide +kernel
theorem dX12_worst_22 : decode cX12_worst 22 = .ok (.aload_n 0, 1) := by decide +kernel
theorem dX12_worst_23 : decode cX12_worst 23 = .ok (.getfield 7, 3) := by decide +kernel
theorem dX12_worst_26 : decode cX12_worst 26 = .ok (.iconst 0, 1) := by decide +kernel
theorem dX12_worst_27 : decode cX12_worst 27 = .ok (.iload 4, 2) := by decide +kernel
theorem dX12_worst_29 : decode cX12_worst 29 = .ok (.iadd, 1) := by decide +kernel
theorem dX12_worst_30 : decode cX12_worst 30 = .ok (.iaload, 1) := by decide +kernel
theorem dX12_worst_31 : decode cX12_worst 31 = .ok (.isub, 1) := by decide +kernel
theorem dX12_worst_32 : decode cX12_worst 32 = .ok (.invokestatic 218, 3) := by decide +kernel
theorem dX12_worst_35 : decode cX12_worst 35 = .ok (.invokestatic 260, 3) := by decide +kernel
theorem dX12_worst_38 : decode cX12_worst 38 = .ok (.istore_n 3, 1) := by decide +kernel
theorem dX12_worst_39 : decode cX12_worst 39 = .ok (.iinc 4 1, 3) := by decide +kernel
theorem dX12_worst_42 : decode cX12_worst 42 = .ok (.goto (-35), 3) := by decide +kernel
theorem dX12_worst_45 : decode cX12_worst 45 = .ok (.iload_n 3, 1) := by decide +kernel
theorem dX12_worst_46 : decode cX12_worst 46 = .ok (.ireturn, 1) := by decide +kernel
set_option maxRecDepth 100000 in
set_option maxHeartbeats 4000000 in
theorem c_X12_worst {l : Launch} {D : q_D} (τ : q_T) (σ : q_V) (a0 : Nat) (x1 : Int32) (x2 : Int32) (hI : q_I τ σ) (tA0 : τ a0 = some (10, 1)) (rA1 : q_r x1 0 63) (rA2 : q_r x2 0 63) : q_Cp l D yX12_worst cX12_worst 5 (some .int) 1 23 τ σ [.ref a0, .int x1, .int x2] (fun r => (q_r r 0 2147483647) ∧ (∀ bn : Nat, σ a0 0 = .ref bn → r.toInt = q_wz (σ bn) x1.toInt x2.toInt)) := by
  refine q_meti rfl (Nat.le_of_ble_eq_true rfl) (fun X hG hE => ?_)
  show q_O X 0 0 τ σ 0 [(0, .ref a0), (1, .int x1), (2, .int x2)] []
  obtain ⟨q_1b, q_1f, q_1T⟩ := (hI a0 10 1 tA0 0 (by decide)).ref (k := 100) (n := 549) rfl
  refine q_iconst (pc := 0) hG dX12_worst_0 ki_0 ?_
  refine q_istore_n (pc := 1) [(3, .int 0), (0, .ref a0), (1, .int x1), (2, .int x2)] hG dX12_worst_1 (by decide) rfl ?_
  refine q_iload_n (pc := 2) hG dX12_worst_2 2 rfl ?_
  refine q_iconst (pc := 3) hG dX12_worst_3 ki_1 ?_
  refine q_iadd (pc := 4) hG dX12_worst_4 (fun v4 e4 => ?_)
  refine q_istore (pc := 5) [(4, .int v4), (3, .int 0), (0, .ref a0), (1, .int x1), (2, .int x2)] hG dX12_worst_5 (by decide) rfl ?_
  have J7 : ∀ (n7 : Nat) (p7_3 : Int32) (p7_4 : Int32), (q_r p7_3 0 2147483647) → (q_r p7_4 1 64) → (x1.toInt < p7_4.toInt) → (p7_4.toInt ≤ x2.toInt ∨ p7_4.toInt = x1.toInt + 1) → (p7_3 = q_wo (σ q_1b) x1 x2 (p7_4.toInt - x1.toInt - 1).toNat) → ((64 - p7_4.toInt).toNat < n7) → q_O X 0 0 τ σ 7 [(0, .ref a0), (1, .int x1), (2, .int x2), (3, .int p7_3), (4, .int p7_4)] [] := by
    intro n7
    induction n7 with
    | zero => intro p7_3 p7_4 r7_3 r7_4 iW iY7 iX7 hm7; exact absurd hm7 (Nat.not_lt_zero _)
    | succ n7 ih7 =>
      intro p7_3 p7_4 r7_3 r7_4 iW iY7 iX7 hm7
      refine q_iload (pc := 7) hG dX12_worst_7 4 rfl ?_
      refine q_iload_n (pc := 9) hG dX12_worst_9 2 rfl ?_
      refine q_icmp_ge (pc := 10) hG 45 dX12_worst_10 rfl ?_ ?_
      · intro c10
        refine q_iload_n (pc := 45) hG dX12_worst_45 3 rfl ?_
        have r_2 := (q_addN (lo := 1) (hi := 64) e4 rA1 rl_1 (by decide)).2
        exact q_irt hG hE dX12_worst_46 ⟨rfl, r7_3, (fun bn hbn => by cases hbn.symm.trans q_1f; exact q_wz_of (iX7.trans (by rw [show (p7_4.toInt - x1.toInt - 1).toNat = (x2.toInt - x1.toInt - 1).toNat from (by have o0 := (q_addN (lo := 1) (hi := 64) e4 rA1 rl_1 (by decide)).1; have o1 := iW; have o2 := iY7; have o3 := c10; have o4 := r7_4; have o5 := r_2; have o6 := rA1; have o7 := rA2; have l8 := tl_1; unfold q_r at o4 o5 o6 o7; omega)])))⟩
      intro c10
      refine q_iload_n (pc := 13) hG dX12_worst_13 3 rfl ?_
      refine q_aload_n (pc := 14) hG dX12_worst_14 0 rfl ?_
      refine q_iload_n (pc := 15) hG dX12_worst_15 1 rfl ?_
      refine q_iload_n (pc := 16) hG dX12_worst_16 2 rfl ?_
      refine q_iload (pc := 17) hG dX12_worst_17 4 rfl ?_
      have r_3 := q_rgt rA2 r7_4 c10 2 (by decide)
      have r_4 := q_rlt r7_4 rA2 c10 62 (by decide)
      have r_5 := (q_addN (lo := 1) (hi := 64) e4 rA1 rl_1 (by decide)).2
      refine q_pV (pc := 19) [.int x1, .int x2, .int p7_4] [.int p7_3] hG (c_X12_straight τ σ a0 x1 x2 p7_4 hI tA0 rA1 (q_r.mono r_3 (by decide)) (q_r.mono r_4 (by decide)) (by have o0 := (q_addN (lo := 1) (hi := 64) e4 rA1 rl_1 (by decide)).1; have o1 := iW; have o2 := iY7; have o3 := c10; have o4 := r_4; have o5 := r_5; have o6 := rA1; have o7 := r_3; have l8 := tl_1; unfold q_r at o4 o5 o6 o7; omega)) my_X12_straight mv_X12_straight w1058 dX12_worst_19 tA0 (by decide) rfl rfl (Nat.le_of_ble_eq_true rfl) (by decide) (fun v19 p19 => ?_)
      refine q_aload_n (pc := 22) hG dX12_worst_22 0 rfl ?_
      refine q_getV (pc := 23) (v := .ref q_1b) hG fl_X12_7 dX12_worst_23 tA0 q_1f ?_
      refine q_iconst (pc := 26) hG dX12_worst_26 ki_0 ?_
      refine q_iload (pc := 27) hG dX12_worst_27 4 rfl ?_
      refine q_iadd (pc := 29) hG dX12_worst_29 (fun v29 e29 => ?_)
      have r_6 := (q_addN (lo := 1) (hi := 62) e29 rl_0 r_4 (by decide)).2
      refine q_naldc (pc := 30) (a1 := -99) (a2 := 99) hG dX12_worst_30 hI q_1T (q_ix r_6 (by decide)) (q_nkerb r_6 (by decide)) (fun v30 f30 g30 => ?_)
      refine q_isub (pc := 31) hG dX12_worst_31 (fun v31 e31 => ?_)
      refine q_pS (pc := 32) [.int v31] [.int p7_3] hG (c_X12_size τ σ v31 hI) my_X12_size w895 w894 dX12_worst_32 rfl rfl (Nat.le_of_ble_eq_true rfl) (by decide) (fun v32 p32 => ?_)
      refine q_pS (pc := 35) [.int p7_3, .int v32] [] hG (c_X12_max τ σ p7_3 v32 hI) my_X12_max w1003 w1002 dX12_worst_35 rfl rfl (Nat.le_of_ble_eq_true rfl) (by decide) (fun v35 p35 => ?_)
      refine q_istore_n (pc := 38) [(3, .int v35), (0, .ref a0), (1, .int x1), (2, .int x2), (4, .int p7_4)] hG dX12_worst_38 (by decide) rfl ?_
      obtain ⟨v39, e39⟩ : ∃ z : Int32, z = p7_4 + Int32.ofInt 1 := ⟨_, rfl⟩
      have h39 := q_incN (lo := 2) (hi := 63) r_4 (by decide) (by decide) e39
      refine q_iinc (pc := 39) [(4, .int v39), (3, .int v35), (0, .ref a0), (1, .int x1), (2, .int x2)] hG dX12_worst_39 4 rfl e39 (by decide) rfl ?_
      refine q_goto (pc := 42) 7 hG dX12_worst_42 rfl ?_
      refine q_lv [2, 3, 4, 1, 0] rfl ?_
      have r_7 := q_maxN (lo := 0) (hi := 2147483647) p35.2.2.1 r7_3 p32.1 (by decide)
      exact ih7 v35 v39 r_7 (q_r.mono h39.2 (by decide)) (by have o0 := (q_addN (lo := 1) (hi := 64) e4 rA1 rl_1 (by decide)).1; have o1 := iW; have o2 := iY7; have o3 := c10; have o4 := (q_addN (lo := 1) (hi := 62) e29 rl_0 r_4 (by decide)).1; have o5 := h39.1; have o6 := r_4; have o7 := r_6; have o8 := h39.2; have o9 := r_5; have o10 := rA1; have o11 := r_3; have l12 := tl_0; have l13 := tl_1; unfold q_r at o6 o7 o8 o9 o10 o11; omega) (by have o0 := (q_addN (lo := 1) (hi := 64) e4 rA1 rl_1 (by decide)).1; have o1 := iW; have o2 := iY7; have o3 := c10; have o4 := (q_addN (lo := 1) (hi := 62) e29 rl_0 r_4 (by decide)).1; have o5 := h39.1; have o6 := r_4; have o7 := r_6; have o8 := h39.2; have o9 := r_5; have o10 := rA1; have o11 := r_3; have l12 := tl_0; have l13 := tl_1; unfold q_r at o6 o7 o8 o9 o10 o11; omega) (by rw [show v39.toInt = p7_4.toInt + 1 from (by have o0 := iW; have o1 := iY7; have o2 := c10; have o3 := (q_addN (lo := 1) (hi := 62) e29 rl_0 r_4 (by decide)).1; have o4 := h39.1; have o5 := (q_addN (lo := 1) (hi := 64) e4 rA1 rl_1 (by decide)).1; have o6 := r_4; have o7 := r_6; have o8 := h39.2; have o9 := r_5; have o10 := rA1; have o11 := r_3; have l12 := tl_0; have l13 := tl_1; unfold q_r at o6 o7 o8 o9 o10 o11; omega)]; exact q_wo_s iX7 (by have o0 := (q_addN (lo := 1) (hi := 64) e4 rA1 rl_1 (by decide)).1; have o1 := iW; have o2 := iY7; have o3 := c10; have o4 := (q_addN (lo := 1) (hi := 62) e29 rl_0 r_4 (by decide)).1; have o5 := h39.1; have o6 := r_4; have o7 := r_6; have o8 := h39.2; have o9 := r_5; have o10 := rA1; have o11 := r_3; have l12 := tl_0; have l13 := tl_1; unfold q_r at o6 o7 o8 o9 o10 o11; omega) (by rw [p35.2.2.2, p32.2.2.2, e31, (p19.2 q_1b q_1f), show q_i32 (σ q_1b p7_4.toInt.toNat) = v30 from (by rw [← show v29.toInt = p7_4.toInt from (by have o0 := iW; have o1 := iY7; have o2 := c10; have o3 := (q_addN (lo := 1) (hi := 62) e29 rl_0 r_4 (by decide)).1; have o4 := h39.1; have o5 := (q_addN (lo := 1) (hi := 64) e4 rA1 rl_1 (by decide)).1; have o6 := r_4; have o7 := r_6; have o8 := h39.2; have o9 := r_5; have o10 := rA1; have o11 := r_3; have l12 := tl_0; have l13 := tl_1; unfold q_r at o6 o7 o8 o9 o10 o11; omega)]; exact q_i32_at f30)])) (q_measU hm7 (by have o0 := iW; have o1 := iY7; have o2 := c10; have o3 := (q_addN (lo := 1) (hi := 62) e29 rl_0 r_4 (by decide)).1; have o4 := h39.1; have o5 := (q_addN (lo := 1) (hi := 64) e4 rA1 rl_1 (by decide)).1; have o6 := r_4; have o7 := r_6; have o8 := h39.2; have o9 := r_5; have o10 := rA1; have o11 := r_3; have l12 := tl_0; have l13 := tl_1; unfold q_r at o6 o7 o8 o9 o10 o11; omega) (q_r.mono h39.2 (by decide : ((-2147483648) : Int) ≤ 2 ∧ (63 : Int) ≤ 64)).2)
  refine q_lv [2, 3, 4, 1, 0] rfl ?_
  have r_8 := (q_addN (lo := 1) (hi := 64) e4 rA1 rl_1 (by decide)).2
  exact J7 _ 0 v4 (q_r.mono rl_0 (by decide)) r_8 (by have o0 := (q_addN (lo := 1) (hi := 64) e4 rA1 rl_1 (by decide)).1; have o1 := r_8; have o2 := rA1; have l3 := tl_1; unfold q_r at o1 o2; omega) (by have o0 := (q_addN (lo := 1) (hi := 64) e4 rA1 rl_1 (by decide)).1; have o1 := r_8; have o2 := rA1; have o3 := rA2; have l4 := tl_1; unfold q_r at o1 o2 o3; omega) (by rw [show (v4.toInt - x1.toInt - 1).toNat = 0 from (by have o0 := (q_addN (lo := 1) (hi := 64) e4 rA1 rl_1 (by decide)).1; have o1 := r_8; have o2 := rA1; have l3 := tl_1; unfold q_r at o1 o2; omega)]; rfl) (Nat.lt_succ_self _)
theorem dX12_wearIn_0 : decode cX12_wearIn 0 = .ok (.iconst 0, 1) := by decide +kernel
theorem dX12_wearIn_1 : decode cX12_wearIn 1 = .ok (.istore_n 3, 1) := by decide +kernel
theorem dX12_wearIn_2 : decode cX12_wearIn 2 = .ok (.iload_n 1, 1) := by decide +kernel
theorem dX12_wearIn_3 : decode cX12_wearIn 3 = .ok (.istore 4, 2) := by decide +kernel
theorem dX12_wearIn_5 : decode cX12_wearIn 5 = .ok (.iload 4, 2) := by decide +kernel
theorem dX12_wearIn_7 : decode cX12_wearIn 7 = .ok (.iload_n 1, 1) := by decide +kernel
theorem dX12_wearIn_8 : decode cX12_wearIn 8 = .ok (.iload_n 2, 1) := by decide +kernel
theorem dX12_wearIn_9 : decode cX12_wearIn 9 = .ok (.iadd, 1) := by decide +kernel
theorem dX12_wearIn_10 : decode cX12_wearIn 10 = .ok (.if_icmp .ge 23, 3) := by decide +kernel
theorem dX12_wearIn_13 : decode cX12_wearIn 13 = .ok (.iload_n 3, 1) := by decide +kernel
theorem dX12_wearIn_14 : decode cX12_wearIn 14 = .ok (.aload_n 0, 1) := by decide +kernel
theorem dX12_wearIn_15 : decode cX12_wearIn 15 = .ok (.getfield 7, 3) := by decide +kernel
theorem dX12_wearIn_18 : decode cX12_wearIn 18 = .ok (.sipush 128, 3) := by decide +kernel
theorem dX12_wearIn_21 : decode cX12_wearIn 21 = .ok (.iload 4, 2) := by decide +kernel
theorem dX12_wearIn_23 : decode cX12_wearIn 23 = .ok (.iadd, 1) := by decide +kernel
theorem dX12_wearIn_24 : decode cX12_wearIn 24 = .ok (.iaload, 1) := by decide +kernel
theorem dX12_wearIn_25 : decode cX12_wearIn 25 = .ok (.iadd, 1) := by decide +kernel
theorem dX12_wearIn_26 : decode cX12_wearIn 26 = .ok (.istore_n 3, 1) := by decide +kernel
theorem dX12_wearIn_27 : decode cX12_wearIn 27 = .ok (.iinc 4 1, 3) := by decide +kernel
theorem dX12_wearIn_30 : decode cX12_wearIn 30 = .ok (.goto (-25), 3) := by decide +kernel
theorem dX12_wearIn_33 : decode cX12_wearIn 33 = .ok (.iload_n 3, 1) := by decide +kernel
theorem dX12_wearIn_34 : decode cX12_wearIn 34 = .ok (.ireturn, 1) := by decide +kernel
set_option maxRecDepth 100000 in
set_option maxHeartbeats 4000000 in
theorem c_X12_wearIn {l : Launch} {D : q_D} (τ : q_T) (σ : q_V) (a0 : Nat) (x1 : Int32) (x2 : Int32) (hI : q_I τ σ) (tA0 : τ a0 = some (10, 1)) (rA1 : q_r x1 0 64) (rA2 : q_r x2 1 16) : q_Cp l D yX12_wearIn cX12_wearIn 5 (some .int) 0 0 τ σ [.ref a0, .int x1, .int x2] (fun r => (q_r r (-2147483648) 2147483647) ∧ (∀ bn : Nat, σ a0 0 = .ref bn → r = q_wi (σ bn) x1.toInt.toNat x2.toInt.toNat)) := by
  refine q_meti rfl (Nat.le_of_ble_eq_true rfl) (fun X hG hE => ?_)
  show q_O X 0 0 τ σ 0 [(0, .ref a0), (1, .int x1), (2, .int x2)] []
  obtain ⟨q_1b, q_1f, q_1T⟩ := (hI a0 10 1 tA0 0 (by decide)).ref (k := 100) (n := 549) rfl
  refine q_iconst (pc := 0) hG dX12_wearIn_0 ki_0 ?_
  refine q_istore_n (pc := 1) [(3, .int 0), (0, .ref a0), (1, .int x1), (2, .int x2)] hG dX12_wearIn_1 (by decide) rfl ?_
  refine q_iload_n (pc := 2) hG dX12_wearIn_2 2 rfl ?_
  refine q_istore (pc := 3) [(4, .int x1), (3, .int 0), (0, .ref a0), (1, .int x1), (2, .int x2)] hG dX12_wearIn_3 (by decide) rfl ?_
  have J5 : ∀ (n5 : Nat) (p5_3 : Int32) (p5_4 : Int32), (q_r p5_4 0 80) → (x1.toInt ≤ p5_4.toInt ∧ p5_4.toInt ≤ x1.toInt + x2.toInt) → (p5_3 = q_wi (σ q_1b) x1.toInt.toNat (p5_4.toInt - x1.toInt).toNat) → ((80 - p5_4.toInt).toNat < n5) → q_O X 0 0 τ σ 5 [(0, .ref a0), (1, .int x1), (2, .int x2), (3, .int p5_3), (4, .int p5_4)] [] := by
    intro n5
    induction n5 with
    | zero => intro p5_3 p5_4 r5_4 iY5 iX5 hm5; exact absurd hm5 (Nat.not_lt_zero _)
    | succ n5 ih5 =>
      intro p5_3 p5_4 r5_4 iY5 iX5 hm5
      refine q_iload (pc := 5) hG dX12_wearIn_5 4 rfl ?_
      refine q_iload_n (pc := 7) hG dX12_wearIn_7 1 rfl ?_
      refine q_iload_n (pc := 8) hG dX12_wearIn_8 2 rfl ?_
      refine q_iadd (pc := 9) hG dX12_wearIn_9 (fun v9 e9 => ?_)
      refine q_icmp_ge (pc := 10) hG 33 dX12_wearIn_10 rfl ?_ ?_
      · intro c10
        have r_2 := (q_addN (lo := 1) (hi := 80) e9 rA1 rA2 (by decide)).2
        refine q_iload_n (pc := 33) hG dX12_wearIn_33 3 rfl ?_
        have r_3 := q_rge r5_4 r_2 c10
        exact q_irt hG hE dX12_wearIn_34 ⟨rfl, (q_r_any p5_3), (fun bn hbn => by cases hbn.symm.trans q_1f; exact iX5.trans (by rw [show (p5_4.toInt - x1.toInt).toNat = x2.toInt.toNat from (by have o0 := iY5; have o1 := (q_addN (lo := 1) (hi := 80) e9 rA1 rA2 (by decide)).1; have o2 := c10; have o3 := r_3; have o4 := r_2; have o5 := rA1; have o6 := rA2; unfold q_r at o3 o4 o5 o6; omega)]))⟩
      intro c10
      have r_4 := (q_addN (lo := 1) (hi := 80) e9 rA1 rA2 (by decide)).2
      refine q_iload_n (pc := 13) hG dX12_wearIn_13 3 rfl ?_
      refine q_aload_n (pc := 14) hG dX12_wearIn_14 0 rfl ?_
      refine q_getV (pc := 15) (v := .ref q_1b) hG fl_X12_7 dX12_wearIn_15 tA0 q_1f ?_
      refine q_sipush (pc := 18) hG dX12_wearIn_18 ks_128 ?_
      refine q_iload (pc := 21) hG dX12_wearIn_21 4 rfl ?_
      refine q_iadd (pc := 23) hG dX12_wearIn_23 (fun v23 e23 => ?_)
      have r_5 := q_rlt r5_4 r_4 c10 79 (by decide)
      have r_6 := (q_addN (lo := 128) (hi := 207) e23 rl_128 r_5 (by decide)).2
      refine q_nald (pc := 24) hG dX12_wearIn_24 hI q_1T (q_ix r_6 (by decide)) (fun v24 f24 => ?_)
      refine q_iadd (pc := 25) hG dX12_wearIn_25 (fun v25 e25 => ?_)
      refine q_istore_n (pc := 26) [(3, .int v25), (0, .ref a0), (1, .int x1), (2, .int x2), (4, .int p5_4)] hG dX12_wearIn_26 (by decide) rfl ?_
      obtain ⟨v27, e27⟩ : ∃ z : Int32, z = p5_4 + Int32.ofInt 1 := ⟨_, rfl⟩
      have h27 := q_incN (lo := 1) (hi := 80) r_5 (by decide) (by decide) e27
      refine q_iinc (pc := 27) [(4, .int v27), (3, .int v25), (0, .ref a0), (1, .int x1), (2, .int x2)] hG dX12_wearIn_27 4 rfl e27 (by decide) rfl ?_
      refine q_goto (pc := 30) 5 hG dX12_wearIn_30 rfl ?_
      refine q_lv [2, 3, 4, 1, 0] rfl ?_
      exact ih5 v25 v27 (q_r.mono h27.2 (by decide)) (by have o0 := iY5; have o1 := (q_addN (lo := 1) (hi := 80) e9 rA1 rA2 (by decide)).1; have o2 := c10; have o3 := (q_addN (lo := 128) (hi := 207) e23 rl_128 r_5 (by decide)).1; have o4 := h27.1; have o5 := r_5; have o6 := r_6; have o7 := h27.2; have o8 := r_4; have o9 := rA1; have o10 := rA2; have l11 := tl_128; unfold q_r at o5 o6 o7 o8 o9 o10; omega) (by rw [show (v27.toInt - x1.toInt).toNat = (p5_4.toInt - x1.toInt).toNat + 1 from (by have o0 := iY5; have o1 := (q_addN (lo := 1) (hi := 80) e9 rA1 rA2 (by decide)).1; have o2 := c10; have o3 := (q_addN (lo := 128) (hi := 207) e23 rl_128 r_5 (by decide)).1; have o4 := h27.1; have o5 := r_5; have o6 := r_6; have o7 := h27.2; have o8 := r_4; have o9 := rA1; have o10 := rA2; have l11 := tl_128; unfold q_r at o5 o6 o7 o8 o9 o10; omega), e25, iX5]; show _ = q_wi _ _ _ + q_i32 (σ q_1b (128 + x1.toInt.toNat + (p5_4.toInt - x1.toInt).toNat)); rw [show 128 + x1.toInt.toNat + (p5_4.toInt - x1.toInt).toNat = v23.toInt.toNat from (by have o0 := iY5; have o1 := (q_addN (lo := 1) (hi := 80) e9 rA1 rA2 (by decide)).1; have o2 := c10; have o3 := (q_addN (lo := 128) (hi := 207) e23 rl_128 r_5 (by decide)).1; have o4 := h27.1; have o5 := r_5; have o6 := r_6; have o7 := h27.2; have o8 := r_4; have o9 := rA1; have o10 := rA2; have l11 := tl_128; unfold q_r at o5 o6 o7 o8 o9 o10; omega), q_i32_at f24]) (q_measU hm5 (by have o0 := iY5; have o1 := (q_addN (lo := 1) (hi := 80) e9 rA1 rA2 (by decide)).1; have o2 := c10; have o3 := (q_addN (lo := 128) (hi := 207) e23 rl_128 r_5 (by decide)).1; have o4 := h27.1; have o5 := r_5; have o6 := r_6; have o7 := h27.2; have o8 := r_4; have o9 := rA1; have o10 := rA2; have l11 := tl_128; unfold q_r at o5 o6 o7 o8 o9 o10; omega) (h27.2).2)
  refine q_lv [2, 3, 4, 1, 0] rfl ?_
  exact J5 _ 0 x1 (q_r.mono rA1 (by decide)) (by have o0 := rA1; have o1 := rA2; unfold q_r at o0 o1; omega) (by rw [show (x1.toInt - x1.toInt).toNat = 0 from (by have o0 := rA1; unfold q_r at o0; omega)]; rfl) (Nat.lt_succ_self _)
theorem dX12_wearFrom_0 : decode cX12_wearFrom 0 = .ok (.aload_n 0, 1) := by decide +kernel
theorem dX12_wearFrom_1 : decode cX12_wearFrom 1 = .ok (.getfield 92, 3) := by decide +kernel
theorem dX12_wearFrom_4 : decode cX12_wearFrom 4 = .ok (.bipush 65, 2) := by decide +kernel
theorem dX12_wearFrom_6 : decode cX12_wearFrom 6 = .ok (.iload_n 1, 1) := by decide +kernel
theorem dX12_wearFrom_7 : decode cX12_wearFrom 7 = .ok (.imul, 1) := by decide +kernel
theorem dX12_wearFrom_8 : decode cX12_wearFrom 8 = .ok (.iload_n 2, 1) := by decide +kernel
theorem dX12_wearFrom_9 : decode cX12_wearFrom 9 = .ok (.iadd, 1) := by decide +kernel
theorem dX12_wearFrom_10 : decode cX12_wearFrom 10 = .ok (.iaload, 1) := by decide +kernel
theorem dX12_wearFrom_11 : decode cX12_wearFrom 11 = .ok (.ireturn, 1) := by decide +kernel
set_option maxRecDepth 100000 in
set_option maxHeartbeats 4000000 in
theorem c_X12_wearFrom {l : Launch} {D : q_D} (τ : q_T) (σ : q_V) (a0 : Nat) (x1 : Int32) (x2 : Int32) (hI : q_I τ σ) (tA0 : τ a0 = some (10, 1)) (rA1 : q_r x1 0 4) (rA2 : q_r x2 0 64) : q_Cp l D yX12_wearFrom cX12_wearFrom 3 (some .int) 0 0 τ σ [.ref a0, .int x1, .int x2] (fun r => (q_r r (-2147483648) 2147483647) ∧ (∀ b : Nat, σ a0 43 = .ref b → q_i32 (σ b (65 * x1.toInt + x2.toInt).toNat) = r)) := by
  refine q_meti rfl (Nat.le_of_ble_eq_true rfl) (fun X hG hE => ?_)
  show q_O X 0 0 τ σ 0 [(0, .ref a0), (1, .int x1), (2, .int x2)] []
  refine q_aload_n (pc := 0) hG dX12_wearFrom_0 0 rfl ?_
  refine q_getR (pc := 1) (k2 := 173) (n2 := 325) hG fl_X12_92 dX12_wearFrom_1 hI tA0 ff_10_43 (fun b1 f1 T1 => ?_)
  refine q_bipush (pc := 4) hG dX12_wearFrom_4 kb_65 ?_
  refine q_iload_n (pc := 6) hG dX12_wearFrom_6 1 rfl ?_
  refine q_imul (pc := 7) hG dX12_wearFrom_7 (fun v7 e7 => ?_)
  refine q_iload_n (pc := 8) hG dX12_wearFrom_8 2 rfl ?_
  refine q_iadd (pc := 9) hG dX12_wearFrom_9 (fun v9 e9 => ?_)
  have r_1 := (q_mulN (lo := 0) (hi := 260) e7 rl_65 rA1 (by decide)).2
  have r_2 := (q_addN (lo := 0) (hi := 324) e9 r_1 rA2 (by decide)).2
  refine q_iald (pc := 10) hG dX12_wearFrom_10 hI ai_173 T1 (q_ix r_2 (by decide)) (fun v10 f10 g10 => ?_)
  exact q_irt hG hE dX12_wearFrom_11 ⟨rfl, g10, (fun b hb => by cases hb.symm.trans f1; rw [← show v9.toInt = 65 * x1.toInt + x2.toInt from (by have o0 := (by have q := (q_mulN (lo := 0) (hi := 260) e7 rl_65 rA1 (by decide)).1; rw [tl_65] at q; exact q); have o1 := (q_addN (lo := 0) (hi := 324) e9 r_1 rA2 (by decide)).1; have o2 := r_1; have o3 := r_2; have o4 := rA1; have o5 := rA2; unfold q_r at o2 o3 o4 o5; omega)]; exact q_i32_at f10)⟩
theorem dX12_offBy_0 : decode cX12_offBy 0 = .ok (.iload_n 2, 1) := by decide +kernel
theorem dX12_offBy_1 : decode cX12_offBy 1 = .ok (.aload_n 0, 1) := by decide +kernel
theorem dX12_offBy_2 : decode cX12_offBy 2 = .ok (.getfield 7, 3) := by decide +kernel
theorem dX12_offBy_5 : decode cX12_offBy 5 = .ok (.iconst 0, 1) := by decide +kernel
theorem dX12_offBy_6 : decode cX12_offBy 6 = .ok (.iload_n 1, 1) := by decide +kernel
theorem dX12_offBy_7 : decode cX12_offBy 7 = .ok (.iadd, 1) := by decide +kernel
theorem dX12_offBy_8 : decode cX12_offBy 8 = .ok (.iaload, 1) := by decide +kernel
theorem dX12_offBy_9 : decode cX12_offBy 9 = .ok (.isub, 1) := by decide +kernel
theorem dX12_offBy_10 : decode cX12_offBy 10 = .ok (.invokestatic 218, 3) := by decide +kernel
theorem dX12_offBy_13 : decode cX12_offBy 13 = .ok (.aload_n 0, 1) := by decide +kernel
theorem dX12_offBy_14 : decode cX12_offBy 14 = .ok (.getfield 65, 3) := by decide +kernel
theorem dX12_offBy_17 : decode cX12_offBy 17 = .ok (.bipush 61, 2) := by decide +kernel
theorem dX12_offBy_19 : decode cX12_offBy 19 = .ok (.iload_n 1, 1) := by decide +kernel
theorem dX12_offBy_20 : decode cX12_offBy 20 = .ok (.imul, 1) := by decide +kernel
theorem dX12_offBy_21 : decode cX12_offBy 21 = .ok (.iload_n 2, 1) := by decide +kernel
theorem dX12_offBy_22 : decode cX12_offBy 22 = .ok (.iadd, 1) := by decide +kernel
theorem dX12_offBy_23 : decode cX12_offBy 23 = .ok (.bipush 30, 2) := by decide +kernel
theorem dX12_offBy_25 : decode cX12_offBy 25 = .ok (.iadd, 1) := by decide +kernel
theorem dX12_offBy_26 : decode cX12_offBy 26 = .ok (.iaload, 1) := by decide +kernel
theorem dX12_offBy_27 : decode cX12_offBy 27 = .ok (.iadd, 1) := by decide +kernel
theorem dX12_offBy_28 : decode cX12_offBy 28 = .ok (.ireturn, 1) := by decide +kernel
set_option maxRecDepth 100000 in
set_option maxHeartbeats 4000000 in
theorem c_X12_offBy {l : Launch} {D : q_D} (τ : q_T) (σ : q_V) (a0 : Nat) (x1 : Int32) (x2 : Int32) (hI : q_I τ σ) (tA0 : τ a0 = some (10, 1)) (rA1 : q_r x1 0 63) (rA2 : q_r x2 (-30) 30) : q_Cp l D yX12_offBy cX12_offBy 3 (some .int) 1 20 τ σ [.ref a0, .int x1, .int x2] (fun r => (q_r r (-2147483648) 2147483647) ∧ (∀ bn bo : Nat, σ a0 0 = .ref bn → σ a0 30 = .ref bo → (0 ≤ q_iv (σ bo) (61 * x1.toInt + x2.toInt + 30) ∧ q_iv (σ bo) (61 * x1.toInt + x2.toInt + 30) ≤ 9000) → r.toInt = q_ob (σ bn) (σ bo) x1.toInt x2.toInt)) := by
  refine q_meti rfl (Nat.le_of_ble_eq_true rfl) (fun X hG hE => ?_)
  show q_O X 0 0 τ σ 0 [(0, .ref a0), (1, .int x1), (2, .int x2)] []
  obtain ⟨q_1b, q_1f, q_1T⟩ := (hI a0 10 1 tA0 0 (by decide)).ref (k := 100) (n := 549) rfl
  refine q_iload_n (pc := 0) hG dX12_offBy_0 2 rfl ?_
  refine q_aload_n (pc := 1) hG dX12_offBy_1 0 rfl ?_
  refine q_getV (pc := 2) (v := .ref q_1b) hG fl_X12_7 dX12_offBy_2 tA0 q_1f ?_
  refine q_iconst (pc := 5) hG dX12_offBy_5 ki_0 ?_
  refine q_iload_n (pc := 6) hG dX12_offBy_6 1 rfl ?_
  refine q_iadd (pc := 7) hG dX12_offBy_7 (fun v7 e7 => ?_)
  have r_2 := (q_addN (lo := 0) (hi := 63) e7 rl_0 rA1 (by decide)).2
  refine q_naldc (pc := 8) (a1 := -99) (a2 := 99) hG dX12_offBy_8 hI q_1T (q_ix r_2 (by decide)) (q_nkerb r_2 (by decide)) (fun v8 f8 g8 => ?_)
  refine q_isub (pc := 9) hG dX12_offBy_9 (fun v9 e9 => ?_)
  refine q_pS (pc := 10) [.int v9] [] hG (c_X12_size τ σ v9 hI) my_X12_size w895 w894 dX12_offBy_10 rfl rfl (Nat.le_of_ble_eq_true rfl) (by decide) (fun v10 p10 => ?_)
  have r_3 := (q_subN (lo := (-129)) (hi := 129) e9 rA2 g8 (by decide)).2
  refine q_aload_n (pc := 13) hG dX12_offBy_13 0 rfl ?_
  refine q_getR (pc := 14) (k2 := 164) (n2 := 3904) hG fl_X12_65 dX12_offBy_14 hI tA0 ff_10_30 (fun b14 f14 T14 => ?_)
  refine q_bipush (pc := 17) hG dX12_offBy_17 kb_61 ?_
  refine q_iload_n (pc := 19) hG dX12_offBy_19 1 rfl ?_
  refine q_imul (pc := 20) hG dX12_offBy_20 (fun v20 e20 => ?_)
  refine q_iload_n (pc := 21) hG dX12_offBy_21 2 rfl ?_
  refine q_iadd (pc := 22) hG dX12_offBy_22 (fun v22 e22 => ?_)
  have r_4 := (q_mulN (lo := 0) (hi := 3843) e20 rl_61 rA1 (by decide)).2
  refine q_bipush (pc := 23) hG dX12_offBy_23 kb_30 ?_
  refine q_iadd (pc := 25) hG dX12_offBy_25 (fun v25 e25 => ?_)
  have r_5 := (q_addN (lo := (-30)) (hi := 3873) e22 r_4 rA2 (by decide)).2
  have r_6 := (q_addN (lo := 0) (hi := 3903) e25 r_5 rl_30 (by decide)).2
  refine q_iald (pc := 26) hG dX12_offBy_26 hI ai_164 T14 (q_ix r_6 (by decide)) (fun v26 f26 g26 => ?_)
  refine q_iadd (pc := 27) hG dX12_offBy_27 (fun v27 e27 => ?_)
  have r_7 := q_absN (lo := 0) (hi := 129) p10.2.2.1 r_3 (by decide)
  exact q_irt hG hE dX12_offBy_28 ⟨rfl, (q_r_any v27), (fun bn bo hbn hbo hr => by cases hbn.symm.trans q_1f; cases hbo.symm.trans f14; have h1 : v7.toInt = x1.toInt := (by have o0 := (q_addN (lo := 0) (hi := 63) e7 rl_0 rA1 (by decide)).1; have o1 := (by have q := (q_mulN (lo := 0) (hi := 3843) e20 rl_61 rA1 (by decide)).1; rw [tl_61] at q; exact q); have o2 := (q_addN (lo := (-30)) (hi := 3873) e22 r_4 rA2 (by decide)).1; have o3 := (q_addN (lo := 0) (hi := 3903) e25 r_5 rl_30 (by decide)).1; have o4 := (q_subN (lo := (-129)) (hi := 129) e9 rA2 g8 (by decide)).1; have o5 := (p10.2.2.1 (by have q := r_3; unfold q_r at q; omega)); have o6 := r_7; have o7 := r_4; have o8 := r_5; have o9 := r_6; have o10 := r_2; have o11 := g8; have o12 := r_3; have o13 := rA1; have o14 := rA2; have l15 := tl_0; have l16 := tl_30; unfold q_r at o6 o7 o8 o9 o10 o11 o12 o13 o14; omega); have h2 : v25.toInt = 61 * x1.toInt + x2.toInt + 30 := (by have o0 := (q_addN (lo := 0) (hi := 63) e7 rl_0 rA1 (by decide)).1; have o1 := (q_subN (lo := (-129)) (hi := 129) e9 rA2 g8 (by decide)).1; have o2 := (p10.2.2.1 (by have q := r_3; unfold q_r at q; omega)); have o3 := (by have q := (q_mulN (lo := 0) (hi := 3843) e20 rl_61 rA1 (by decide)).1; rw [tl_61] at q; exact q); have o4 := (q_addN (lo := (-30)) (hi := 3873) e22 r_4 rA2 (by decide)).1; have o5 := (q_addN (lo := 0) (hi := 3903) e25 r_5 rl_30 (by decide)).1; have o6 := r_7; have o7 := r_4; have o8 := r_5; have o9 := r_6; have o10 := r_2; have o11 := g8; have o12 := r_3; have o13 := rA1; have o14 := rA2; have l15 := tl_0; have l16 := tl_30; unfold q_r at o6 o7 o8 o9 o10 o11 o12 o13 o14; omega); have f8b := f8; have f26b := f26; rw [h1] at f8b; rw [h2] at f26b; rw [q_iv_at f26b] at hr; have hs := p10.2.2.1 (by have o0 := (q_subN (lo := (-129)) (hi := 129) e9 rA2 g8 (by decide)).1; have o1 := (p10.2.2.1 (by have q := r_3; unfold q_r at q; omega)); have o2 := (q_addN (lo := (-30)) (hi := 3873) e22 r_4 rA2 (by decide)).1; have o3 := (q_addN (lo := 0) (hi := 3903) e25 r_5 rl_30 (by decide)).1; have o4 := (by have q := (q_mulN (lo := 0) (hi := 3843) e20 rl_61 rA1 (by decide)).1; rw [tl_61] at q; exact q); have o5 := (q_addN (lo := 0) (hi := 63) e7 rl_0 rA1 (by decide)).1; have o6 := r_7; have o7 := r_4; have o8 := r_5; have o9 := r_6; have o10 := r_2; have o11 := g8; have o12 := r_3; have o13 := rA1; have o14 := rA2; have l15 := tl_0; have l16 := tl_30; unfold q_r at o6 o7 o8 o9 o10 o11 o12 o13 o14; omega); have h4 : v9.toInt = x2.toInt - v8.toInt := (by have o0 := (q_subN (lo := (-129)) (hi := 129) e9 rA2 g8 (by decide)).1; have o1 := (p10.2.2.1 (by have q := r_3; unfold q_r at q; omega)); have o2 := (q_addN (lo := (-30)) (hi := 3873) e22 r_4 rA2 (by decide)).1; have o3 := (q_addN (lo := 0) (hi := 3903) e25 r_5 rl_30 (by decide)).1; have o4 := (by have q := (q_mulN (lo := 0) (hi := 3843) e20 rl_61 rA1 (by decide)).1; rw [tl_61] at q; exact q); have o5 := (q_addN (lo := 0) (hi := 63) e7 rl_0 rA1 (by decide)).1; have o6 := r_7; have o7 := r_4; have o8 := r_5; have o9 := r_6; have o10 := r_2; have o11 := g8; have o12 := r_3; have o13 := rA1; have o14 := rA2; have l15 := tl_0; have l16 := tl_30; unfold q_r at o6 o7 o8 o9 o10 o11 o12 o13 o14; omega); have h3 := (q_addN (lo := 0) (hi := 9129) e27 (show q_r v10 0 129 from ⟨(by have o0 := (p10.2.2.1 (by have q := r_3; unfold q_r at q; omega)); have o1 := (q_subN (lo := (-129)) (hi := 129) e9 rA2 g8 (by decide)).1; have o2 := (q_addN (lo := (-30)) (hi := 3873) e22 r_4 rA2 (by decide)).1; have o3 := (q_addN (lo := 0) (hi := 3903) e25 r_5 rl_30 (by decide)).1; have o4 := (by have q := (q_mulN (lo := 0) (hi := 3843) e20 rl_61 rA1 (by decide)).1; rw [tl_61] at q; exact q); have o5 := (q_addN (lo := 0) (hi := 63) e7 rl_0 rA1 (by decide)).1; have o6 := r_7; have o7 := r_4; have o8 := r_5; have o9 := r_6; have o10 := r_2; have o11 := g8; have o12 := r_3; have o13 := rA1; have o14 := rA2; have l15 := tl_0; have l16 := tl_30; unfold q_r at o6 o7 o8 o9 o10 o11 o12 o13 o14; omega), (by have o0 := (p10.2.2.1 (by have q := r_3; unfold q_r at q; omega)); have o1 := (q_subN (lo := (-129)) (hi := 129) e9 rA2 g8 (by decide)).1; have o2 := (q_addN (lo := (-30)) (hi := 3873) e22 r_4 rA2 (by decide)).1; have o3 := (q_addN (lo := 0) (hi := 3903) e25 r_5 rl_30 (by decide)).1; have o4 := (by have q := (q_mulN (lo := 0) (hi := 3843) e20 rl_61 rA1 (by decide)).1; rw [tl_61] at q; exact q); have o5 := (q_addN (lo := 0) (hi := 63) e7 rl_0 rA1 (by decide)).1; have o6 := r_7; have o7 := r_4; have o8 := r_5; have o9 := r_6; have o10 := r_2; have o11 := g8; have o12 := r_3; have o13 := rA1; have o14 := rA2; have l15 := tl_0; have l16 := tl_30; unfold q_r at o6 o7 o8 o9 o10 o11 o12 o13 o14; omega)⟩) (show q_r v26 0 9000 from hr) (by decide)).1; exact q_ob_of f8b f26b h4 hs h3)⟩
theorem dX12_offBetween_0 : decode cX12_offBetween 0 = .ok (.iconst 0, 1) := by decide +kernel
theorem dX12_offBetween_1 : decode cX12_offBetween 1 = .ok (.istore_n 3, 1) := by decide +kernel
theorem dX12_offBetween_2 : decode cX12_offBetween 2 = .ok (.iload_n 1, 1) := by decide +kernel
theorem dX12_offBetween_3 : decode cX12_offBetween 3 = .ok (.iconst 1, 1) := by decide +kernel
theorem dX12_offBetween_4 : decode cX12_offBetween 4 = .ok (.iadd, 1) := by decide +kernel
theorem dX12_offBetween_5 : decode cX12_offBetween 5 = .ok (.istore 4, 2) := by decide +kernel
theorem dX12_offBetween_7 : decode cX12_offBetween 7 = .ok (.iload 4, 2) := by decide +kernel
theorem dX12_offBetween_9 : decode cX12_offBetween 9 = .ok (.iload_n 2, 1) := by decide +kernel
theorem dX12_offBetween_10 : decode cX12_offBetween 10 = .ok (.if_icmp .ge 33, 3) := by decide +kernel
theorem dX12_offBetween_13 : decode cX12_offBetween 13 = .ok (.iload_n 3, 1) := by decide +kernel
theorem dX12_offBetween_14 : decode cX12_offBetween 14 = .ok (.aload_n 0, 1) := by decide +kernel
theorem dX12_offBetween_15 : decode cX12_offBetween 15 = .ok (.iload_n 1, 1) := by decide +kernel
theorem dX12_offBetween_16 : decode cX12_offBetween 16 = .ok (.iload_n 2, 1) := by decide +kernel
theorem dX12_offBetween_17 : decode cX12_offBetween 17 = .ok (.iload 4, 2) := by decide +kernel
theorem dX12_offBetween_19 : decode cX12_offBetween 19 = .ok (.invokevirtual 325, 3) := by decide +kernel
theorem dX12_offBetween_22 : decode cX12_offBetween 22 = .ok (.aload_n 0, 1) := by decide +kernel
theorem dX12_offBetween_23 : decode cX12_offBetween 23 = .ok (.getfield 7, 3) := by decide +kernel
theorem dX12_offBetween_26 : decode cX12_offBetween 26 = .ok (.iconst 0, 1) := by decide +kernel
theorem dX12_offBetween_27 : decode cX12_offBetween 27 = .ok (.iload 4, 2) := by decide +kernel
theorem dX12_offBetween_29 : decode cX12_offBetween 29 = .ok (.iadd, 1) := by decide +kernel
theorem dX12_offBetween_30 : decode cX12_offBetween 30 = .ok (.iaload, 1) := by decide +kernel
theorem dX12_offBetween_31 : decode cX12_offBetween 31 = .ok (.isub, 1) := by decide +kernel
theorem dX12_offBetween_32 : decode cX12_offBetween 32 = .ok (.invokestatic 218, 3) := by decide +kernel
theorem dX12_offBetween_35 : decode cX12_offBetween 35 = .ok (.iadd, 1) := by decide +kernel
theorem dX12_offBetween_36 : decode cX12_offBetween 36 = .ok (.istore_n 3, 1) := by decide +kernel
theorem dX12_offBetween_37 : decode cX12_offBetween 37 = .ok (.iinc 4 1, 3) := by decide +kernel
theorem dX12_offBetween_40 : decode cX12_offBetween 40 = .ok (.goto (-33), 3) := by decide +kernel
theorem dX12_offBetween_43 : decode cX12_offBetween 43 = .ok (.iload_n 3, 1) := by decide +kernel
theorem dX12_offBetween_44 : decode cX12_offBetween 44 = .ok (.ireturn, 1) := by decide +kernel
set_option maxRecDepth 100000 in
set_option maxHeartbeats 4000000 in
theorem c_X12_offBetween {l : Launch} {D : q_D} (τ : q_T) (σ : q_V) (a0 : Nat) (x1 : Int32) (x2 : Int32) (hI : q_I τ σ) (tA0 : τ a0 = some (10, 1)) (rA1 : q_r x1 0 63) (rA2 : q_r x2 0 63) : q_Cp l D yX12_offBetween cX12_offBetween 5 (some .int) 1 23 τ σ [.ref a0, .int x1, .int x2] (fun r => q_r r (-2147483648) 2147483647) := by
  refine q_meti rfl (Nat.le_of_ble_eq_true rfl) (fun X hG hE => ?_)
  show q_O X 0 0 τ σ 0 [(0, .ref a0), (1, .int x1), (2, .int x2)] []
  refine q_iconst (pc := 0) hG dX12_offBetween_0 ki_0 ?_
  refine q_istore_n (pc := 1) [(3, .int 0), (0, .ref a0), (1, .int x1), (2, .int x2)] hG dX12_offBetween_1 (by decide) rfl ?_
  refine q_iload_n (pc := 2) hG dX12_offBetween_2 2 rfl ?_
  refine q_iconst (pc := 3) hG dX12_offBetween_3 ki_1 ?_
  refine q_iadd (pc := 4) hG dX12_offBetween_4 (fun v4 e4 => ?_)
  refine q_istore (pc := 5) [(4, .int v4), (3, .int 0), (0, .ref a0), (1, .int x1), (2, .int x2)] hG dX12_offBetween_5 (by decide) rfl ?_
  have J7 : ∀ (n7 : Nat) (p7_3 : Int32) (p7_4 : Int32), (q_r p7_4 1 64) → (x1.toInt < p7_4.toInt) → ((64 - p7_4.toInt).toNat < n7) → q_O X 0 0 τ σ 7 [(0, .ref a0), (1, .int x1), (2, .int x2), (3, .int p7_3), (4, .int p7_4)] [] := by
    intro n7
    induction n7 with
    | zero => intro p7_3 p7_4 r7_4 iW hm7; exact absurd hm7 (Nat.not_lt_zero _)
    | succ n7 ih7 =>
      intro p7_3 p7_4 r7_4 iW hm7
      refine q_iload (pc := 7) hG dX12_offBetween_7 4 rfl ?_
      refine q_iload_n (pc := 9) hG dX12_offBetween_9 2 rfl ?_
      refine q_icmp_ge (pc := 10) hG 43 dX12_offBetween_10 rfl ?_ ?_
      · intro c10
        refine q_iload_n (pc := 43) hG dX12_offBetween_43 3 rfl ?_
        exact q_irt hG hE dX12_offBetween_44 ⟨rfl, (q_r_any p7_3)⟩
      intro c10
      refine q_iload_n (pc := 13) hG dX12_offBetween_13 3 rfl ?_
      refine q_aload_n (pc := 14) hG dX12_offBetween_14 0 rfl ?_
      refine q_iload_n (pc := 15) hG dX12_offBetween_15 1 rfl ?_
      refine q_iload_n (pc := 16) hG dX12_offBetween_16 2 rfl ?_
      refine q_iload (pc := 17) hG dX12_offBetween_17 4 rfl ?_
      have r_1 := q_rgt rA2 r7_4 c10 2 (by decide)
      have r_2 := q_rlt r7_4 rA2 c10 62 (by decide)
      have r_3 := (q_addN (lo := 1) (hi := 64) e4 rA1 rl_1 (by decide)).2
      refine q_pV (pc := 19) [.int x1, .int x2, .int p7_4] [.int p7_3] hG (c_X12_straight τ σ a0 x1 x2 p7_4 hI tA0 rA1 (q_r.mono r_1 (by decide)) (q_r.mono r_2 (by decide)) (by have o0 := (q_addN (lo := 1) (hi := 64) e4 rA1 rl_1 (by decide)).1; have o1 := iW; have o2 := c10; have o3 := r_2; have o4 := r_3; have o5 := rA1; have o6 := r_1; have l7 := tl_1; unfold q_r at o3 o4 o5 o6; omega)) my_X12_straight mv_X12_straight w1058 dX12_offBetween_19 tA0 (by decide) rfl rfl (Nat.le_of_ble_eq_true rfl) (by decide) (fun v19 p19 => ?_)
      obtain ⟨q_4b, q_4f, q_4T⟩ := (hI a0 10 1 tA0 0 (by decide)).ref (k := 100) (n := 549) rfl
      refine q_aload_n (pc := 22) hG dX12_offBetween_22 0 rfl ?_
      refine q_getV (pc := 23) (v := .ref q_4b) hG fl_X12_7 dX12_offBetween_23 tA0 q_4f ?_
      refine q_iconst (pc := 26) hG dX12_offBetween_26 ki_0 ?_
      refine q_iload (pc := 27) hG dX12_offBetween_27 4 rfl ?_
      refine q_iadd (pc := 29) hG dX12_offBetween_29 (fun v29 e29 => ?_)
      have r_5 := (q_addN (lo := 1) (hi := 62) e29 rl_0 r_2 (by decide)).2
      refine q_naldc (pc := 30) (a1 := -99) (a2 := 99) hG dX12_offBetween_30 hI q_4T (q_ix r_5 (by decide)) (q_nkerb r_5 (by decide)) (fun v30 f30 g30 => ?_)
      refine q_isub (pc := 31) hG dX12_offBetween_31 (fun v31 e31 => ?_)
      refine q_pS (pc := 32) [.int v31] [.int p7_3] hG (c_X12_size τ σ v31 hI) my_X12_size w895 w894 dX12_offBetween_32 rfl rfl (Nat.le_of_ble_eq_true rfl) (by decide) (fun v32 p32 => ?_)
      refine q_iadd (pc := 35) hG dX12_offBetween_35 (fun v35 e35 => ?_)
      refine q_istore_n (pc := 36) [(3, .int v35), (0, .ref a0), (1, .int x1), (2, .int x2), (4, .int p7_4)] hG dX12_offBetween_36 (by decide) rfl ?_
      obtain ⟨v37, e37⟩ : ∃ z : Int32, z = p7_4 + Int32.ofInt 1 := ⟨_, rfl⟩
      have h37 := q_incN (lo := 2) (hi := 63) r_2 (by decide) (by decide) e37
      refine q_iinc (pc := 37) [(4, .int v37), (3, .int v35), (0, .ref a0), (1, .int x1), (2, .int x2)] hG dX12_offBetween_37 4 rfl e37 (by decide) rfl ?_
      refine q_goto (pc := 40) 7 hG dX12_offBetween_40 rfl ?_
      refine q_lv [2, 3, 4, 1, 0] rfl ?_
      exact ih7 v35 v37 (q_r.mono h37.2 (by decide)) (by have o0 := (q_addN (lo := 1) (hi := 64) e4 rA1 rl_1 (by decide)).1; have o1 := iW; have o2 := c10; have o3 := (q_addN (lo := 1) (hi := 62) e29 rl_0 r_2 (by decide)).1; have o4 := h37.1; have o5 := r_2; have o6 := r_5; have o7 := h37.2; have o8 := r_3; have o9 := rA1; have o10 := r_1; have l11 := tl_0; have l12 := tl_1; unfold q_r at o5 o6 o7 o8 o9 o10; omega) (q_measU hm7 (by have o0 := iW; have o1 := c10; have o2 := (q_addN (lo := 1) (hi := 62) e29 rl_0 r_2 (by decide)).1; have o3 := h37.1; have o4 := (q_addN (lo := 1) (hi := 64) e4 rA1 rl_1 (by decide)).1; have o5 := r_2; have o6 := r_5; have o7 := h37.2; have o8 := r_3; have o9 := rA1; have o10 := r_1; have l11 := tl_0; have l12 := tl_1; unfold q_r at o5 o6 o7 o8 o9 o10; omega) (q_r.mono h37.2 (by decide : ((-2147483648) : Int) ≤ 2 ∧ (63 : Int) ≤ 64)).2)
  refine q_lv [2, 3, 4, 1, 0] rfl ?_
  have r_6 := (q_addN (lo := 1) (hi := 64) e4 rA1 rl_1 (by decide)).2
  exact J7 _ 0 v4 r_6 (by have o0 := (q_addN (lo := 1) (hi := 64) e4 rA1 rl_1 (by decide)).1; have o1 := r_6; have o2 := rA1; have l3 := tl_1; unfold q_r at o1 o2; omega) (Nat.lt_succ_self _)
