/-! laid by wip/p2/build.py -/
theorem dX11_road_0 : decode cX11_road 0 = .ok (.iload_n 1, 1) := by decide +kernel
theorem dX11_road_1 : decode cX11_road 1 = .ok (.bipush 8, 2) := by decide +kernel
theorem dX11_road_3 : decode cX11_road 3 = .ok (.bipush 64, 2) := by decide +kernel
theorem dX11_road_5 : decode cX11_road 5 = .ok (.invokestatic 90, 3) := by decide +kernel
theorem dX11_road_8 : decode cX11_road 8 = .ok (.ifCond .ne 5, 3) := by decide +kernel
theorem dX11_road_11 : decode cX11_road 11 = .ok (.iconst 0, 1) := by decide +kernel
theorem dX11_road_12 : decode cX11_road 12 = .ok (.ireturn, 1) := by decide +kernel
theorem dX11_road_13 : decode cX11_road 13 = .ok (.aload_n 0, 1) := by decide +kernel
theorem dX11_road_14 : decode cX11_road 14 = .ok (.getfield 41, 3) := by decide +kernel
theorem dX11_road_17 : decode cX11_road 17 = .ok (.iload_n 1, 1) := by decide +kernel
theorem dX11_road_18 : decode cX11_road 18 = .ok (.invokevirtual 94, 3) := by decide +kernel
theorem dX11_road_21 : decode cX11_road 21 = .ok (.iconst 1, 1) := by decide +kernel
theorem dX11_road_22 : decode cX11_road 22 = .ok (.ireturn, 1) := by decide +kernel
def md_X11_road : List (Nat × Nat) := [(6, 0), (118, 0), (119, 0), (120, 0), (121, 0), (122, 0), (123, 0), (124, 0), (210, 0)]
set_option maxRecDepth 100000 in
set_option maxHeartbeats 4000000 in
theorem c_X11_road {l : Launch} {D : q_D} (τ : q_T) (σ : q_V) (a0 : Nat) (x1 : Int32) (hI : q_I τ σ) (tA0 : τ a0 = some (9, 1)) : q_Ci l D yX11_road cX11_road 2 (some .boolean) 2 44 τ σ [.ref a0, .int x1] (fun r σ1 => q_S md_X11_road τ σ σ1 ∧ (q_r r 0 1) ∧ ((r.toInt, fx_N σ1) = f_X11_road (fx_N σ) a0 x1.toInt) ∧ (r.toInt = 1 ↔ (8 ≤ x1.toInt ∧ x1.toInt ≤ 64)) ∧ (∀ br : Nat, σ a0 5 = .ref br → (r.toInt = 1 → σ1 br 0 = .int x1) ∧ (r.toInt = 0 → σ1 br 0 = σ br 0) ∧ ∀ b : Nat, b ≠ br → τ b = some (6, 1) → σ1 b 0 = σ b 0) ∧ (∀ br c0 c1 c2 : Nat, σ a0 5 = .ref br → σ br 1 = .ref c0 → σ br 2 = .ref c1 → σ br 3 = .ref c2 → (r.toInt = 1 → zz_rx τ σ σ1 c0 c1 c2 ∧ zz_rz σ1 c0 c1 c2 64) ∧ (r.toInt = 0 → ∀ c : Nat, τ c = some (118, 64) → σ1 c = σ c))) := by
  refine q_meti rfl (Nat.le_of_ble_eq_true rfl) (fun X hG hE => ?_)
  show q_O X 0 0 τ σ 0 [(0, .ref a0), (1, .int x1)] []
  have hS0 : q_S md_X11_road τ σ σ := q_S.rf hI
  obtain ⟨Fv, hF⟩ : ∃ z, fx_eq z (f_X11_road (fx_N σ) a0 x1.toInt) := ⟨_, fx_rf⟩
  have hF0 := hF
  unfold f_X11_road at hF
  obtain ⟨q_1b, q_1f, q_1T⟩ := (hI a0 9 1 tA0 5 (by decide)).ref (k := 6) (n := 1) rfl
  replace hF := fx_R hF q_1f rfl
  refine q_iload_n (pc := 0) hG dX11_road_0 1 rfl ?_
  refine q_bipush (pc := 1) hG dX11_road_1 kb_8 ?_
  refine q_bipush (pc := 3) hG dX11_road_3 kb_64 ?_
  refine q_pS (pc := 5) [.int x1, .int 8, .int 64] [] hG (c_X11_isIn τ σ x1 8 64 hI) my_X11_isIn w238 w237 dX11_road_5 rfl rfl (Nat.le_of_ble_eq_true rfl) (by decide) (fun v5 p5 => ?_)
  have fq5 := p5.2.1
  rewrite [tl_8, tl_64] at fq5
  replace hF := fx_E hF fq5
  refine q_if_ne (pc := 8) hG 13 dX11_road_8 rfl ?_ ?_
  · intro c8
    have g_2 := p5.2.2.mp (q_one p5.1 c8)
    have r_3 := q_rge (q_r_any x1) rl_8 g_2.1
    replace hF := fx_eq2 hF rfl rfl c8
    refine q_aload_n (pc := 13) hG dX11_road_13 0 rfl ?_
    refine q_getV (pc := 14) (v := .ref q_1b) hG fl_X11_41 dX11_road_14 tA0 q_1f ?_
    refine q_iload_n (pc := 17) hG dX11_road_17 1 rfl ?_
    have r_4 := q_rle r_3 rl_64 g_2.2
    refine q_cVv (pc := 18) [.int x1] [] hG (c_X7_layAnew τ σ q_1b x1 hI q_1T r_4) my_X7_layAnew mv_X7_layAnew w240 dX11_road_18 q_1T (by decide) rfl rfl (Nat.le_of_ble_eq_true rfl) (by decide) (fun s18 p18 => ?_)
    have w18 := hS0.trans p18.1 rfl
    replace hF := fx_S hF p18.2.1
    refine q_iconst (pc := 21) hG dX11_road_21 ki_1 ?_
    have r_5 := q_neL (c := 1) p5.1 c8 (by decide)
    exact q_zrt hG hE dX11_road_22 (q_r.mono rl_1 (by decide)) ⟨w18, (q_r.mono rl_1 (by decide)), (by rw [tl_1]; exact fx_end hF hF0), (by have o0 := c8; have o1 := g_2.1; have o2 := g_2.2; have o3 := r_5; have o4 := r_4; have l5 := tl_1; have l6 := tl_8; have l7 := tl_64; have o8 := p5.2.2; unfold q_r at o3 o4; omega), (fun br hbr => by cases hbr.symm.trans q_1f; exact ⟨fun _ => (by exact p18.2.2.1), fun q => absurd q (by have l0 := tl_1; omega), fun b hb hT => (by exact p18.2.2.2.1 b hb hT)⟩), (fun br c0 c1 c2 hbr h0 h1 h2 => by cases hbr.symm.trans q_1f; exact ⟨fun _ => p18.2.2.2.2 c0 c1 c2 h0 h1 h2, fun q => absurd q (by have l0 := tl_1; omega)⟩)⟩
  intro c8
  replace hF := fx_eq1 hF rfl rfl c8
  refine q_iconst (pc := 11) hG dX11_road_11 ki_0 ?_
  have r_6 := q_zeq c8
  exact q_zrt hG hE dX11_road_12 (q_r.mono rl_0 (by decide)) ⟨hS0, (q_r.mono rl_0 (by decide)), (by rw [tl_0]; exact fx_end hF hF0), (by have o0 := c8; have o1 := r_6; have l2 := tl_0; have l3 := tl_8; have l4 := tl_64; have o5 := p5.2.2; unfold q_r at o1; omega), (fun br hbr => by cases hbr.symm.trans q_1f; exact ⟨fun q => absurd q (by have l0 := tl_0; omega), fun _ => rfl, fun _ _ _ => rfl⟩), (fun br c0 c1 c2 hbr h0 h1 h2 => by cases hbr.symm.trans q_1f; exact ⟨fun q => absurd q (by have l0 := tl_0; omega), fun _ => (fun c hc => rfl)⟩)⟩
theorem dX11_row_0 : decode cX11_row 0 = .ok (.iload_n 1, 1) := by decide +kernel
theorem dX11_row_1 : decode cX11_row 1 = .ok (.iconst 0, 1) := by decide +kernel
theorem dX11_row_2 : decode cX11_row 2 = .ok (.iconst 2, 1) := by decide +kernel
theorem dX11_row_3 : decode cX11_row 3 = .ok (.invokestatic 90, 3) := by decide +kernel
theorem dX11_row_6 : decode cX11_row 6 = .ok (.ifCond .eq 21, 3) := by decide +kernel
theorem dX11_row_9 : decode cX11_row 9 = .ok (.iload_n 2, 1) := by decide +kernel
theorem dX11_row_10 : decode cX11_row 10 = .ok (.iconst 1, 1) := by decide +kernel
theorem dX11_row_11 : decode cX11_row 11 = .ok (.bipush 120, 2) := by decide +kernel
theorem dX11_row_13 : decode cX11_row 13 = .ok (.invokestatic 90, 3) := by decide +kernel
theorem dX11_row_16 : decode cX11_row 16 = .ok (.ifCond .eq 11, 3) := by decide +kernel
theorem dX11_row_19 : decode cX11_row 19 = .ok (.iload_n 2, 1) := by decide +kernel
theorem dX11_row_20 : decode cX11_row 20 = .ok (.aload_n 0, 1) := by decide +kernel
theorem dX11_row_21 : decode cX11_row 21 = .ok (.getfield 13, 3) := by decide +kernel
theorem dX11_row_24 : decode cX11_row 24 = .ok (.if_icmp .le 5, 3) := by decide +kernel
theorem dX11_row_27 : decode cX11_row 27 = .ok (.iconst (-1), 1) := by decide +kernel
theorem dX11_row_28 : decode cX11_row 28 = .ok (.ireturn, 1) := by decide +kernel
theorem dX11_row_29 : decode cX11_row 29 = .ok (.aload_n 0, 1) := by decide +kernel
theorem dX11_row_30 : decode cX11_row 30 = .ok (.getfield 20, 3) := by decide +kernel
theorem dX11_row_33 : decode cX11_row 33 = .ok (.aload_n 0, 1) := by decide +kernel
theorem dX11_row_34 : decode cX11_row 34 = .ok (.getfield 9, 3) := by decide +kernel
theorem dX11_row_37 : decode cX11_row 37 = .ok (.iload_n 2, 1) := by decide +kernel
theorem dX11_row_38 : decode cX11_row 38 = .ok (.aload_n 0, 1) := by decide +kernel
theorem dX11_row_39 : decode cX11_row 39 = .ok (.getfield 41, 3) := by decide +kernel
theorem dX11_row_42 : decode cX11_row 42 = .ok (.getfield 98, 3) := by decide +kernel
theorem dX11_row_45 : decode cX11_row 45 = .ok (.iload_n 1, 1) := by decide +kernel
theorem dX11_row_46 : decode cX11_row 46 = .ok (.ifCond .ne 7, 3) := by decide +kernel
theorem dX11_row_49 : decode cX11_row 49 = .ok (.iconst 1, 1) := by decide +kernel
theorem dX11_row_50 : decode cX11_row 50 = .ok (.goto 4, 3) := by decide +kernel
theorem dX11_row_53 : decode cX11_row 53 = .ok (.iconst 0, 1) := by decide +kernel
theorem dX11_row_54 : decode cX11_row 54 = .ok (.invokevirtual 101, 3) := by decide +kernel
theorem dX11_row_57 : decode cX11_row 57 = .ok (.istore_n 3, 1) := by decide +kernel
theorem dX11_row_58 : decode cX11_row 58 = .ok (.aload_n 0, 1) := by decide +kernel
theorem dX11_row_59 : decode cX11_row 59 = .ok (.iconst 0, 1) := by decide +kernel
theorem dX11_row_60 : decode cX11_row 60 = .ok (.putfield 13, 3) := by decide +kernel
theorem dX11_row_63 : decode cX11_row 63 = .ok (.iload_n 3, 1) := by decide +kernel
theorem dX11_row_64 : decode cX11_row 64 = .ok (.ifCond .lt 25, 3) := by decide +kernel
theorem dX11_row_67 : decode cX11_row 67 = .ok (.aload_n 0, 1) := by decide +kernel
theorem dX11_row_68 : decode cX11_row 68 = .ok (.getfield 20, 3) := by decide +kernel
theorem dX11_row_71 : decode cX11_row 71 = .ok (.aload_n 0, 1) := by decide +kernel
theorem dX11_row_72 : decode cX11_row 72 = .ok (.getfield 41, 3) := by decide +kernel
theorem dX11_row_75 : decode cX11_row 75 = .ok (.iload_n 1, 1) := by decide +kernel
theorem dX11_row_76 : decode cX11_row 76 = .ok (.invokevirtual 105, 3) := by decide +kernel
theorem dX11_row_79 : decode cX11_row 79 = .ok (.aload_n 0, 1) := by decide +kernel
theorem dX11_row_80 : decode cX11_row 80 = .ok (.getfield 41, 3) := by decide +kernel
theorem dX11_row_83 : decode cX11_row 83 = .ok (.getfield 98, 3) := by decide +kernel
theorem dX11_row_86 : decode cX11_row 86 = .ok (.invokevirtual 109, 3) := by decide +kernel
theorem dX11_row_89 : decode cX11_row 89 = .ok (.iload_n 3, 1) := by decide +kernel
theorem dX11_row_90 : decode cX11_row 90 = .ok (.ireturn, 1) := by decide +kernel
def md_X11_row : List (Nat × Nat) := [(7, 1), (7, 2), (7, 3), (7, 4), (7, 5), (9, 1), (111, 0), (118, 0)]
set_option maxRecDepth 100000 in
set_option maxHeartbeats 4000000 in
theorem c_X11_row {l : Launch} {D : q_D} (τ : q_T) (σ : q_V) (a0 : Nat) (x1 : Int32) (x2 : Int32) (hI : q_I τ σ) (tA0 : τ a0 = some (9, 1)) : q_Ci l D yX11_row cX11_row 4 (some .int) 4 97 τ σ [.ref a0, .int x1, .int x2] (fun r σ1 => q_S md_X11_row τ σ σ1 ∧ (q_r r (-2147483648) 2147483647) ∧ ((r.toInt, fx_N σ1) = f_X11_row (fx_N σ) a0 x1.toInt x2.toInt) ∧ (∀ t : Int32, σ a0 1 = .int t → ∃ z : Int32, σ1 a0 1 = .int z ∧ (((0 ≤ x1.toInt ∧ x1.toInt ≤ 2) ∧ (1 ≤ x2.toInt ∧ x2.toInt ≤ 120) ∧ x2.toInt ≤ t.toInt) → z.toInt = 0) ∧ (¬ ((0 ≤ x1.toInt ∧ x1.toInt ≤ 2) ∧ (1 ≤ x2.toInt ∧ x2.toInt ≤ 120) ∧ x2.toInt ≤ t.toInt) → z.toInt = t.toInt))) := by
  refine q_meti rfl (Nat.le_of_ble_eq_true rfl) (fun X hG hE => ?_)
  show q_O X 0 0 τ σ 0 [(0, .ref a0), (1, .int x1), (2, .int x2)] []
  have hS0 : q_S md_X11_row τ σ σ := q_S.rf hI
  obtain ⟨Fv, hF⟩ : ∃ z, fx_eq z (f_X11_row (fx_N σ) a0 x1.toInt x2.toInt) := ⟨_, fx_rf⟩
  have hF0 := hF
  unfold f_X11_row at hF
  obtain ⟨q_1v, q_1f, q_1r⟩ := (hI a0 9 1 tA0 1 (by decide)).int ff_9_1
  replace hF := fx_I hF q_1f rfl
  refine q_iload_n (pc := 0) hG dX11_row_0 1 rfl ?_
  refine q_iconst (pc := 1) hG dX11_row_1 ki_0 ?_
  refine q_iconst (pc := 2) hG dX11_row_2 ki_2 ?_
  refine q_pS (pc := 3) [.int x1, .int 0, .int 2] [] hG (c_X11_isIn τ σ x1 0 2 hI) my_X11_isIn w238 w237 dX11_row_3 rfl rfl (Nat.le_of_ble_eq_true rfl) (by decide) (fun v3 p3 => ?_)
  have fq3 := p3.2.1
  rewrite [tl_0, tl_2] at fq3
  replace hF := fx_E hF fq3
  refine q_if_eq (pc := 6) hG 27 dX11_row_6 rfl ?_ ?_
  · intro c6
    replace hF := fx_eq1 hF rfl rfl c6
    refine q_iconst (pc := 27) hG dX11_row_27 ki_m1 ?_
    have r_2 := q_zeq c6
    exact q_irt hG hE dX11_row_28 ⟨hS0, (q_r.mono rl_m1 (by decide)), (by rw [tl_m1]; exact fx_end hF hF0), (fun t e => by cases e.symm.trans q_1f; exact ⟨q_1v, q_1f, (by have o0 := p3.2.2; have o1 := c6; have o2 := q_1r; have o3 := r_2; have l4 := tl_m1; have l5 := tl_0; have l6 := tl_2; unfold q_r at o2 o3; omega)⟩)⟩
  intro c6
  have g_3 := p3.2.2.mp (q_one p3.1 c6)
  have r_4 := q_rge (q_r_any x1) rl_0 g_3.1
  replace hF := fx_eq2 hF rfl rfl c6
  refine q_iload_n (pc := 9) hG dX11_row_9 2 rfl ?_
  refine q_iconst (pc := 10) hG dX11_row_10 ki_1 ?_
  refine q_bipush (pc := 11) hG dX11_row_11 kb_120 ?_
  refine q_pS (pc := 13) [.int x2, .int 1, .int 120] [] hG (c_X11_isIn τ σ x2 1 120 hI) my_X11_isIn w238 w237 dX11_row_13 rfl rfl (Nat.le_of_ble_eq_true rfl) (by decide) (fun v13 p13 => ?_)
  have fq13 := p13.2.1
  rewrite [tl_1, tl_120] at fq13
  replace hF := fx_E hF fq13
  refine q_if_eq (pc := 16) hG 27 dX11_row_16 rfl ?_ ?_
  · intro c16
    replace hF := fx_eq1 hF rfl rfl c16
    refine q_iconst (pc := 27) hG dX11_row_27 ki_m1 ?_
    have r_5 := q_zeq c16
    have r_6 := q_neL (c := 1) p3.1 c6 (by decide)
    have r_7 := q_rle r_4 rl_2 g_3.2
    exact q_irt hG hE dX11_row_28 ⟨hS0, (q_r.mono rl_m1 (by decide)), (by rw [tl_m1]; exact fx_end hF hF0), (fun t e => by cases e.symm.trans q_1f; exact ⟨q_1v, q_1f, (by have o0 := p3.2.2; have o1 := c6; have o2 := g_3.1; have o3 := g_3.2; have o4 := p13.2.2; have o5 := c16; have o6 := q_1r; have o7 := r_5; have o8 := r_6; have o9 := r_7; have l10 := tl_m1; have l11 := tl_0; have l12 := tl_1; have l13 := tl_2; have l14 := tl_120; unfold q_r at o6 o7 o8 o9; omega)⟩)⟩
  intro c16
  have g_8 := p13.2.2.mp (q_one p13.1 c16)
  have r_9 := q_rge (q_r_any x2) rl_1 g_8.1
  replace hF := fx_eq2 hF rfl rfl c16
  refine q_iload_n (pc := 19) hG dX11_row_19 2 rfl ?_
  refine q_aload_n (pc := 20) hG dX11_row_20 0 rfl ?_
  refine q_getV (pc := 21) (v := .int q_1v) hG fl_X11_13 dX11_row_21 tA0 q_1f ?_
  refine q_icmp_le (pc := 24) hG 29 dX11_row_24 rfl ?_ ?_
  · intro c24
    have r_10 := q_rle r_9 rl_120 g_8.2
    replace hF := fx_lt2 hF rfl rfl c24
    refine q_aload_n (pc := 29) hG dX11_row_29 0 rfl ?_
    refine q_getR (pc := 30) (k2 := 7) (n2 := 1) hG fl_X11_20 dX11_row_30 hI tA0 ff_9_2 (fun b30 f30 T30 => ?_)
    replace hF := fx_R hF f30 rfl
    refine q_aload_n (pc := 33) hG dX11_row_33 0 rfl ?_
    refine q_getR (pc := 34) (k2 := 110) (n2 := 260) hG fl_X11_9 dX11_row_34 hI tA0 ff_9_0 (fun b34 f34 T34 => ?_)
    replace hF := fx_R hF f34 rfl
    refine q_iload_n (pc := 37) hG dX11_row_37 2 rfl ?_
    refine q_aload_n (pc := 38) hG dX11_row_38 0 rfl ?_
    refine q_getR (pc := 39) (k2 := 6) (n2 := 1) hG fl_X11_41 dX11_row_39 hI tA0 ff_9_5 (fun b39 f39 T39 => ?_)
    replace hF := fx_R hF f39 rfl
    refine q_getI (pc := 42) hG fl_X11_98 dX11_row_42 hI T39 ff_6_0 (fun v42 f42 g42 => ?_)
    replace hF := fx_I hF f42 rfl
    refine q_iload_n (pc := 45) hG dX11_row_45 1 rfl ?_
    have J54 : ∀ (p54_s0 : Int32), (q_r p54_s0 0 1) → (fx_eq Fv (kJ_X11_row_54 (fx_N σ) b30 b34 x2.toInt v42.toInt a0 b39 x1.toInt p54_s0.toInt)) → q_O X 0 0 τ σ 54 [(0, .ref a0), (1, .int x1)] [.int p54_s0, .int v42, .int x2, .ref b34, .ref b30] := by
      intro p54_s0 r54_s0 hF
      unfold kJ_X11_row_54 at hF
      refine q_cVi (pc := 54) [.ref b34, .int x2, .int v42, .int p54_s0] [] hG (c_X8_read τ σ b30 b34 x2 v42 p54_s0 hI T30 T34 r_10 g42 r54_s0) my_X8_read mv_X8_read w245 dX11_row_54 T30 (by decide) rfl rfl (Nat.le_of_ble_eq_true rfl) (by decide) (fun v54 s54 p54 => ?_)
      have w54 := hS0.trans p54.1 rfl
      replace hF := fx_C hF p54.2.2
      refine q_istore_n (pc := 57) [(3, .int v54), (0, .ref a0), (1, .int x1)] hG dX11_row_57 (by decide) rfl ?_
      refine q_aload_n (pc := 58) hG dX11_row_58 1 rfl ?_
      refine q_iconst (pc := 59) hG dX11_row_59 ki_0 ?_
      refine q_putI (pc := 60) hG fl_X11_13 dX11_row_60 w54 tA0 ff_9_1 rl_0 (by decide) rfl (fun s60 u60 w60 => ?_)
      replace hF := fx_P hF u60 rfl tl_0
      have m60 : s60 a0 1 = .int 0 := by rw [u60]; exact q_up_same
      refine q_iload_n (pc := 63) hG dX11_row_63 0 rfl ?_
      refine q_if_lt (pc := 64) hG 89 dX11_row_64 rfl ?_ ?_
      · intro c64
        replace hF := fx_lt1 hF rfl rfl c64
        refine q_iload_n (pc := 89) hG dX11_row_89 0 rfl ?_
        have r_11 := q_zlt p54.2.1 c64
        have r_12 := q_rge q_1r r_10 c24
        have r_13 := q_neL (c := 1) p13.1 c16 (by decide)
        have r_14 := q_neL (c := 1) p3.1 c6 (by decide)
        have r_15 := q_rle r_4 rl_2 g_3.2
        exact q_irt hG hE dX11_row_90 ⟨w60, (q_r.mono r_11 (by decide)), (fx_end hF hF0), (fun t e => by cases e.symm.trans q_1f; exact ⟨0, m60, (by have o0 := p3.2.2; have o1 := c6; have o2 := g_3.1; have o3 := g_3.2; have o4 := p13.2.2; have o5 := c16; have o6 := g_8.1; have o7 := g_8.2; have o8 := c24; have o9 := c64; have o10 := r_12; have o11 := r_13; have o12 := r_14; have o13 := r_11; have o14 := r_15; have o15 := r_10; have l16 := tl_0; have l17 := tl_1; have l18 := tl_2; have l19 := tl_120; unfold q_r at o10 o11 o12 o13 o14 o15; omega)⟩)⟩
      intro c64
      replace hF := fx_lt2 hF rfl rfl c64
      refine q_aload_n (pc := 67) hG dX11_row_67 1 rfl ?_
      refine q_getV (pc := 68) (v := .ref b30) hG fl_X11_20 dX11_row_68 tA0 (w60.same tA0 rfl f30) ?_
      refine q_aload_n (pc := 71) hG dX11_row_71 1 rfl ?_
      refine q_getV (pc := 72) (v := .ref b39) hG fl_X11_41 dX11_row_72 tA0 (w60.same tA0 rfl f39) ?_
      refine q_iload_n (pc := 75) hG dX11_row_75 2 rfl ?_
      refine q_pR (pc := 76) [.int x1] [.ref b30] hG (c_X7_rowOf τ s60 b39 x1 w60.1 T39) my_X7_rowOf mv_X7_rowOf w273 dX11_row_76 T39 (by decide) rfl rfl (Nat.le_of_ble_eq_true rfl) (by decide) (fun b76 p76 => ?_)
      replace hF := fx_Q hF p76.2
      refine q_aload_n (pc := 79) hG dX11_row_79 1 rfl ?_
      refine q_getV (pc := 80) (v := .ref b39) hG fl_X11_41 dX11_row_80 tA0 (w60.same tA0 rfl f39) ?_
      refine q_getV (pc := 83) (v := .int v42) hG fl_X11_98 dX11_row_83 T39 (w60.same T39 rfl f42) ?_
      refine q_cVv (pc := 86) [.ref b76, .int v42] [] hG (c_X8_writeTo τ s60 b30 b76 v42 w60.1 T30 p76.1) my_X8_writeTo mv_X8_writeTo w277 dX11_row_86 T30 (by decide) rfl rfl (Nat.le_of_ble_eq_true rfl) (by decide) (fun s86 p86 => ?_)
      have w86 := w60.trans p86.1 rfl
      replace hF := fx_S hF p86.2
      refine q_iload_n (pc := 89) hG dX11_row_89 0 rfl ?_
      have r_16 := q_zge p54.2.1 c64
      have r_17 := q_rge q_1r r_10 c24
      have r_18 := q_neL (c := 1) p13.1 c16 (by decide)
      have r_19 := q_neL (c := 1) p3.1 c6 (by decide)
      have r_20 := q_rle r_4 rl_2 g_3.2
      exact q_irt hG hE dX11_row_90 ⟨w86, (q_r.mono r_16 (by decide)), (fx_end hF hF0), (fun t e => by cases e.symm.trans q_1f; exact ⟨0, (p86.1.same tA0 rfl m60), (by have o0 := p3.2.2; have o1 := c6; have o2 := g_3.1; have o3 := g_3.2; have o4 := p13.2.2; have o5 := c16; have o6 := g_8.1; have o7 := g_8.2; have o8 := c24; have o9 := c64; have o10 := r_17; have o11 := r_18; have o12 := r_19; have o13 := r_16; have o14 := r_20; have o15 := r_10; have l16 := tl_0; have l17 := tl_1; have l18 := tl_2; have l19 := tl_120; unfold q_r at o10 o11 o12 o13 o14 o15; omega)⟩)⟩
    refine q_if_ne (pc := 46) hG 53 dX11_row_46 rfl ?_ ?_
    · intro c46
      have r_21 := q_rle r_4 rl_2 g_3.2
      replace hF := fx_eq2 hF rfl rfl c46
      refine q_iconst (pc := 53) hG dX11_row_53 ki_0 ?_
      refine q_lv [0, 1] rfl ?_
      exact J54 0 (q_r.mono rl_0 (by decide)) (by rw [tl_0]; exact hF)
    intro c46
    have r_22 := q_rle r_4 rl_2 g_3.2
    replace hF := fx_eq1 hF rfl rfl c46
    refine q_iconst (pc := 49) hG dX11_row_49 ki_1 ?_
    refine q_goto (pc := 50) 54 hG dX11_row_50 rfl ?_
    refine q_lv [0, 1] rfl ?_
    exact J54 1 (q_r.mono rl_1 (by decide)) (by rw [tl_1]; exact hF)
  intro c24
  have r_23 := q_rle r_9 rl_120 g_8.2
  replace hF := fx_lt1 hF rfl rfl c24
  refine q_iconst (pc := 27) hG dX11_row_27 ki_m1 ?_
  have r_24 := q_rlt q_1r r_23 c24 119 (by decide)
  have r_25 := q_neL (c := 1) p13.1 c16 (by decide)
  have r_26 := q_neL (c := 1) p3.1 c6 (by decide)
  have r_27 := q_rle r_4 rl_2 g_3.2
  exact q_irt hG hE dX11_row_28 ⟨hS0, (q_r.mono rl_m1 (by decide)), (by rw [tl_m1]; exact fx_end hF hF0), (fun t e => by cases e.symm.trans q_1f; exact ⟨q_1v, q_1f, (by have o0 := p3.2.2; have o1 := c6; have o2 := g_3.1; have o3 := g_3.2; have o4 := p13.2.2; have o5 := c16; have o6 := g_8.1; have o7 := g_8.2; have o8 := c24; have o9 := r_24; have o10 := r_25; have o11 := r_26; have o12 := r_27; have o13 := r_23; have l14 := tl_m1; have l15 := tl_0; have l16 := tl_1; have l17 := tl_2; have l18 := tl_120; unfold q_r at o9 o10 o11 o12 o13; omega)⟩)⟩
theorem dX11_old_0 : decode cX11_old 0 = .ok (.aload_n 0, 1) := by decide +kernel
theorem dX11_old_1 : decode cX11_old 1 = .ok (.getfield 41, 3) := by decide +kernel
theorem dX11_old_4 : decode cX11_old 4 = .ok (.iload_n 1, 1) := by decide +kernel
theorem dX11_old_5 : decode cX11_old 5 = .ok (.iload_n 2, 1) := by decide +kernel
theorem dX11_old_6 : decode cX11_old 6 = .ok (.invokevirtual 113, 3) := by decide +kernel
theorem dX11_old_9 : decode cX11_old 9 = .ok (.ifCond .eq 14, 3) := by decide +kernel
theorem dX11_old_12 : decode cX11_old 12 = .ok (.iload_n 3, 1) := by decide +kernel
theorem dX11_old_13 : decode cX11_old 13 = .ok (.bipush (-100), 2) := by decide +kernel
theorem dX11_old_15 : decode cX11_old 15 = .ok (.bipush 99, 2) := by decide +kernel
theorem dX11_old_17 : decode cX11_old 17 = .ok (.invokestatic 90, 3) := by decide +kernel
theorem dX11_old_20 : decode cX11_old 20 = .ok (.ifCond .ne 5, 3) := by decide +kernel
theorem dX11_old_23 : decode cX11_old 23 = .ok (.iconst 0, 1) := by decide +kernel
theorem dX11_old_24 : decode cX11_old 24 = .ok (.ireturn, 1) := by decide +kernel
theorem dX11_old_25 : decode cX11_old 25 = .ok (.iload_n 1, 1) := by decide +kernel
theorem dX11_old_26 : decode cX11_old 26 = .ok (.istore 4, 2) := by decide +kernel
theorem dX11_old_28 : decode cX11_old 28 = .ok (.iload 4, 2) := by decide +kernel
theorem dX11_old_30 : decode cX11_old 30 = .ok (.iload_n 2, 1) := by decide +kernel
theorem dX11_old_31 : decode cX11_old 31 = .ok (.if_icmp .gt 20, 3) := by decide +kernel
theorem dX11_old_34 : decode cX11_old 34 = .ok (.aload_n 0, 1) := by decide +kernel
theorem dX11_old_35 : decode cX11_old 35 = .ok (.getfield 41, 3) := by decide +kernel
theorem dX11_old_38 : decode cX11_old 38 = .ok (.getfield 117, 3) := by decide +kernel
theorem dX11_old_41 : decode cX11_old 41 = .ok (.iload 4, 2) := by decide +kernel
theorem dX11_old_43 : decode cX11_old 43 = .ok (.iload_n 3, 1) := by decide +kernel
theorem dX11_old_44 : decode cX11_old 44 = .ok (.iastore, 1) := by decide +kernel
theorem dX11_old_45 : decode cX11_old 45 = .ok (.iinc 4 1, 3) := by decide +kernel
theorem dX11_old_48 : decode cX11_old 48 = .ok (.goto (-20), 3) := by decide +kernel
theorem dX11_old_51 : decode cX11_old 51 = .ok (.iconst 1, 1) := by decide +kernel
theorem dX11_old_52 : decode cX11_old 52 = .ok (.ireturn, 1) := by decide +kernel
def md_X11_old : List (Nat × Nat) := [(119, 0)]
set_option maxRecDepth 100000 in
set_option maxHeartbeats 4000000 in
theorem c_X11_old {l : Launch} {D : q_D} (τ : q_T) (σ : q_V) (a0 : Nat) (x1 : Int32) (x2 : Int32) (x3 : Int32) (hI : q_I τ σ) (tA0 : τ a0 = some (9, 1)) : q_Ci l D yX11_old cX11_old 5 (some .boolean) 2 43 τ σ [.ref a0, .int x1, .int x2, .int x3] (fun r σ1 => q_S md_X11_old τ σ σ1 ∧ (q_r r 0 1) ∧ ((r.toInt, fx_N σ1) = f_X11_old (fx_N σ) a0 x1.toInt x2.toInt x3.toInt) ∧ (∀ (br : Nat) (d : Int32), σ a0 5 = .ref br → σ br 0 = .int d → (r.toInt = 1 ↔ (((0 ≤ x1.toInt ∧ x1.toInt < d.toInt) ∧ (0 ≤ x2.toInt ∧ x2.toInt < d.toInt) ∧ x1.toInt ≤ x2.toInt) ∧ (-100 ≤ x3.toInt ∧ x3.toInt ≤ 99))))) := by
  refine q_meti rfl (Nat.le_of_ble_eq_true rfl) (fun X hG hE => ?_)
  show q_O X 0 0 τ σ 0 [(0, .ref a0), (1, .int x1), (2, .int x2), (3, .int x3)] []
  have hS0 : q_S md_X11_old τ σ σ := q_S.rf hI
  obtain ⟨Fv, hF⟩ : ∃ z, fx_eq z (f_X11_old (fx_N σ) a0 x1.toInt x2.toInt x3.toInt) := ⟨_, fx_rf⟩
  have hF0 := hF
  unfold f_X11_old at hF
  obtain ⟨q_1b, q_1f, q_1T⟩ := (hI a0 9 1 tA0 5 (by decide)).ref (k := 6) (n := 1) rfl
  replace hF := fx_R hF q_1f rfl
  obtain ⟨q_2v, q_2f, q_2r⟩ := (hI q_1b 6 1 q_1T 0 (by decide)).int ff_6_0
  replace hF := fx_I hF q_2f rfl
  refine q_aload_n (pc := 0) hG dX11_old_0 0 rfl ?_
  refine q_getV (pc := 1) (v := .ref q_1b) hG fl_X11_41 dX11_old_1 tA0 q_1f ?_
  refine q_iload_n (pc := 4) hG dX11_old_4 1 rfl ?_
  refine q_iload_n (pc := 5) hG dX11_old_5 2 rfl ?_
  refine q_pV (pc := 6) [.int x1, .int x2] [] hG (c_X7_isStretch τ σ q_1b x1 x2 hI q_1T) my_X7_isStretch mv_X7_isStretch w285 dX11_old_6 q_1T (by decide) rfl rfl (Nat.le_of_ble_eq_true rfl) (by decide) (fun v6 p6 => ?_)
  replace hF := fx_E hF p6.2.1
  refine q_if_eq (pc := 9) hG 23 dX11_old_9 rfl ?_ ?_
  · intro c9
    replace hF := fx_eq1 hF rfl rfl c9
    refine q_iconst (pc := 23) hG dX11_old_23 ki_0 ?_
    have r_3 := q_zeq c9
    exact q_zrt hG hE dX11_old_24 (q_r.mono rl_0 (by decide)) ⟨hS0, (q_r.mono rl_0 (by decide)), (by rw [tl_0]; exact fx_end hF hF0), (fun br d e1 e2 => by cases e1.symm.trans q_1f; cases e2.symm.trans q_2f; exact (by have o0 := (p6.2.2.2 q_2v q_2f); have o1 := c9; have o2 := q_2r; have o3 := r_3; have l4 := tl_m100; have l5 := tl_0; have l6 := tl_99; unfold q_r at o2 o3; omega))⟩
  intro c9
  have g_4 := p6.2.2.1 (q_one p6.1 c9)
  have r_5 := q_rge (q_r_any x1) rl_0 (show (0 : Int32).toInt ≤ _ from g_4.1.1)
  have r_6 := q_rge (q_r_any x2) rl_0 (show (0 : Int32).toInt ≤ _ from g_4.2.1)
  replace hF := fx_eq2 hF rfl rfl c9
  refine q_iload_n (pc := 12) hG dX11_old_12 3 rfl ?_
  refine q_bipush (pc := 13) hG dX11_old_13 kb_m100 ?_
  refine q_bipush (pc := 15) hG dX11_old_15 kb_99 ?_
  refine q_pS (pc := 17) [.int x3, .int (-100), .int 99] [] hG (c_X11_isIn τ σ x3 (-100) 99 hI) my_X11_isIn w238 w237 dX11_old_17 rfl rfl (Nat.le_of_ble_eq_true rfl) (by decide) (fun v17 p17 => ?_)
  have fq17 := p17.2.1
  rewrite [tl_m100, tl_99] at fq17
  replace hF := fx_E hF fq17
  refine q_if_ne (pc := 20) hG 25 dX11_old_20 rfl ?_ ?_
  · intro c20
    have g_7 := p17.2.2.mp (q_one p17.1 c20)
    have r_8 := q_rge (q_r_any x3) rl_m100 g_7.1
    replace hF := fx_eq2 hF rfl rfl c20
    refine q_iload_n (pc := 25) hG dX11_old_25 1 rfl ?_
    refine q_istore (pc := 26) [(4, .int x1), (0, .ref a0), (1, .int x1), (2, .int x2), (3, .int x3)] hG dX11_old_26 (by decide) rfl ?_
    have J28 : ∀ (n28 : Nat) (p28_4 : Int32) (σ28 : q_V), (q_r p28_4 0 64) → (q_S md_X11_old τ σ σ28) → (fx_eq Fv (kL_X11_old_28 x2.toInt q_1b x3.toInt n28 p28_4.toInt (fx_N σ28))) → ((64 - p28_4.toInt).toNat < n28) → q_O X 0 0 τ σ28 28 [(0, .ref a0), (2, .int x2), (3, .int x3), (4, .int p28_4)] [] := by
      intro n28
      induction n28 with
      | zero => intro p28_4 σ28 r28_4 hS28 hF hm28; exact absurd hm28 (Nat.not_lt_zero _)
      | succ n28 ih28 =>
        intro p28_4 σ28 r28_4 hS28 hF hm28
        replace hF := (show fx_eq Fv (kB_X11_old_28 (kL_X11_old_28 x2.toInt q_1b x3.toInt n28) x2.toInt q_1b x3.toInt p28_4.toInt (fx_N σ28)) from hF)
        unfold kB_X11_old_28 at hF
        refine q_iload (pc := 28) hG dX11_old_28 3 rfl ?_
        refine q_iload_n (pc := 30) hG dX11_old_30 1 rfl ?_
        refine q_icmp_gt (pc := 31) hG 51 dX11_old_31 rfl ?_ ?_
        · intro c31
          have r_9 := q_rle r_6 rl_63 (show _ ≤ (63 : Int32).toInt from g_4.2.2)
          replace hF := fx_lt1 hF rfl rfl c31
          refine q_iconst (pc := 51) hG dX11_old_51 ki_1 ?_
          have r_10 := q_rgt r28_4 r_9 c31 1 (by decide)
          have r_11 := q_neL (c := 1) p17.1 c20 (by decide)
          have r_12 := q_neL (c := 1) p6.1 c9 (by decide)
          have r_13 := q_rle r_5 rl_63 (show _ ≤ (63 : Int32).toInt from g_4.1.2)
          have r_14 := q_rle r_8 rl_99 g_7.2
          exact q_zrt hG hE dX11_old_52 (q_r.mono rl_1 (by decide)) ⟨hS28, (q_r.mono rl_1 (by decide)), (by rw [tl_1]; exact fx_end hF hF0), (fun br d e1 e2 => by cases e1.symm.trans q_1f; cases e2.symm.trans q_2f; exact (by have o0 := (p6.2.2.2 q_2v q_2f); have o1 := c9; have o2 := (show (0 : Int32).toInt ≤ _ from g_4.1.1); have o3 := (show _ ≤ (63 : Int32).toInt from g_4.1.2); have o4 := (show (0 : Int32).toInt ≤ _ from g_4.2.1); have o5 := (show _ ≤ (63 : Int32).toInt from g_4.2.2); have o6 := p17.2.2; have o7 := c20; have o8 := g_7.1; have o9 := g_7.2; have o10 := c31; have o11 := r_10; have o12 := q_2r; have o13 := r_11; have o14 := r_12; have o15 := r_13; have o16 := r_9; have o17 := r_14; have l18 := tl_m100; have l19 := tl_0; have l20 := tl_1; have l21 := tl_63; have l22 := tl_99; unfold q_r at o11 o12 o13 o14 o15 o16 o17; omega))⟩
        intro c31
        have r_15 := q_rle r_6 rl_63 (show _ ≤ (63 : Int32).toInt from g_4.2.2)
        replace hF := fx_lt2 hF rfl rfl c31
        refine q_aload_n (pc := 34) hG dX11_old_34 0 rfl ?_
        refine q_getV (pc := 35) (v := .ref q_1b) hG fl_X11_41 dX11_old_35 tA0 (hS28.same tA0 rfl q_1f) ?_
        refine q_getR (pc := 38) (k2 := 119) (n2 := 64) hG fl_X11_117 dX11_old_38 hS28.1 q_1T ff_6_4 (fun b38 f38 T38 => ?_)
        replace hF := fx_R hF f38 rfl
        have f_16 := (hS28.2 _ _ _ _ q_1T rfl).symm.trans f38
        refine q_iload (pc := 41) hG dX11_old_41 3 rfl ?_
        refine q_iload_n (pc := 43) hG dX11_old_43 2 rfl ?_
        have r_17 := q_rle r28_4 r_15 c31
        have r_18 := q_rle r_8 rl_99 g_7.2
        refine q_iast (pc := 44) hG dX11_old_44 hS28 ai_119 T38 (q_ix r_17 (by decide)) r_18 (by decide) rfl (fun s44 u44 w44 => ?_)
        replace hF := fx_P hF u44 rfl rfl
        have m44 : s44 b38 p28_4.toInt.toNat = .int x3 := by rw [u44]; exact q_up_same
        obtain ⟨v45, e45⟩ : ∃ z : Int32, z = p28_4 + Int32.ofInt 1 := ⟨_, rfl⟩
        have h45 := q_incN (lo := 1) (hi := 64) r_17 (by decide) (by decide) e45
        replace hF := fx_add hF rfl rfl h45.1
        refine q_iinc (pc := 45) [(4, .int v45), (0, .ref a0), (2, .int x2), (3, .int x3)] hG dX11_old_45 3 rfl e45 (by decide) rfl ?_
        refine q_goto (pc := 48) 28 hG dX11_old_48 rfl ?_
        refine q_lv [1, 2, 3, 0] rfl ?_
        have r_19 := q_neL (c := 1) p6.1 c9 (by decide)
        have r_20 := q_rle r_5 rl_63 (show _ ≤ (63 : Int32).toInt from g_4.1.2)
        exact ih28 v45 s44 (q_r.mono h45.2 (by decide)) w44 hF (q_measU hm28 (by have o0 := c31; have o1 := h45.1; have o2 := (p6.2.2.2 q_2v q_2f); have o3 := c9; have o4 := (show (0 : Int32).toInt ≤ _ from g_4.1.1); have o5 := (show _ ≤ (63 : Int32).toInt from g_4.1.2); have o6 := (show (0 : Int32).toInt ≤ _ from g_4.2.1); have o7 := (show _ ≤ (63 : Int32).toInt from g_4.2.2); have o8 := r_17; have o9 := q_2r; have o10 := h45.2; have o11 := r_19; have o12 := r_20; have o13 := r_15; have l14 := tl_0; have l15 := tl_63; unfold q_r at o8 o9 o10 o11 o12 o13; omega) (h45.2).2)
    refine q_lv [1, 3, 4, 0] rfl ?_
    have r_21 := q_rle r_5 rl_63 (show _ ≤ (63 : Int32).toInt from g_4.1.2)
    exact J28 ((64 - x1.toInt).toNat + 1) x1 σ (q_r.mono r_21 (by decide)) hS0 hF (Nat.lt_succ_self _)
  intro c20
  replace hF := fx_eq1 hF rfl rfl c20
  refine q_iconst (pc := 23) hG dX11_old_23 ki_0 ?_
  have r_22 := q_zeq c20
  have r_23 := q_neL (c := 1) p6.1 c9 (by decide)
  have r_24 := q_rle r_5 rl_63 (show _ ≤ (63 : Int32).toInt from g_4.1.2)
  have r_25 := q_rle r_6 rl_63 (show _ ≤ (63 : Int32).toInt from g_4.2.2)
  exact q_zrt hG hE dX11_old_24 (q_r.mono rl_0 (by decide)) ⟨hS0, (q_r.mono rl_0 (by decide)), (by rw [tl_0]; exact fx_end hF hF0), (fun br d e1 e2 => by cases e1.symm.trans q_1f; cases e2.symm.trans q_2f; exact (by have o0 := (p6.2.2.2 q_2v q_2f); have o1 := c9; have o2 := (show (0 : Int32).toInt ≤ _ from g_4.1.1); have o3 := (show _ ≤ (63 : Int32).toInt from g_4.1.2); have o4 := (show (0 : Int32).toInt ≤ _ from g_4.2.1); have o5 := (show _ ≤ (63 : Int32).toInt from g_4.2.2); have o6 := p17.2.2; have o7 := c20; have o8 := q_2r; have o9 := r_22; have o10 := r_23; have o11 := r_24; have o12 := r_25; have l13 := tl_m100; have l14 := tl_0; have l15 := tl_63; have l16 := tl_99; unfold q_r at o8 o9 o10 o11 o12; omega))⟩
theorem dX11_putOnTape_0 : decode cX11_putOnTape 0 = .ok (.bipush 24, 2) := by decide +kernel
theorem dX11_putOnTape_2 : decode cX11_putOnTape 2 = .ok (.istore_n 2, 1) := by decide +kernel
theorem dX11_putOnTape_3 : decode cX11_putOnTape 3 = .ok (.iload_n 2, 1) := by decide +kernel
theorem dX11_putOnTape_4 : decode cX11_putOnTape 4 = .ok (.ifCond .lt 45, 3) := by decide +kernel
theorem dX11_putOnTape_7 : decode cX11_putOnTape 7 = .ok (.aload_n 0, 1) := by decide +kernel
theorem dX11_putOnTape_8 : decode cX11_putOnTape 8 = .ok (.getfield 13, 3) := by decide +kernel
theorem dX11_putOnTape_11 : decode cX11_putOnTape 11 = .ok (.sipush 260, 3) := by decide +kernel
theorem dX11_putOnTape_14 : decode cX11_putOnTape 14 = .ok (.if_icmp .ge 35, 3) := by decide +kernel
theorem dX11_putOnTape_17 : decode cX11_putOnTape 17 = .ok (.aload_n 0, 1) := by decide +kernel
theorem dX11_putOnTape_18 : decode cX11_putOnTape 18 = .ok (.getfield 9, 3) := by decide +kernel
theorem dX11_putOnTape_21 : decode cX11_putOnTape 21 = .ok (.aload_n 0, 1) := by decide +kernel
theorem dX11_putOnTape_22 : decode cX11_putOnTape 22 = .ok (.getfield 13, 3) := by decide +kernel
theorem dX11_putOnTape_25 : decode cX11_putOnTape 25 = .ok (.iload_n 1, 1) := by decide +kernel
theorem dX11_putOnTape_26 : decode cX11_putOnTape 26 = .ok (.iload_n 2, 1) := by decide +kernel
theorem dX11_putOnTape_27 : decode cX11_putOnTape 27 = .ok (.iushr, 1) := by decide +kernel
theorem dX11_putOnTape_28 : decode cX11_putOnTape 28 = .ok (.sipush 255, 3) := by decide +kernel
theorem dX11_putOnTape_31 : decode cX11_putOnTape 31 = .ok (.iand, 1) := by decide +kernel
theorem dX11_putOnTape_32 : decode cX11_putOnTape 32 = .ok (.iastore, 1) := by decide +kernel
theorem dX11_putOnTape_33 : decode cX11_putOnTape 33 = .ok (.aload_n 0, 1) := by decide +kernel
theorem dX11_putOnTape_34 : decode cX11_putOnTape 34 = .ok (.dup, 1) := by decide +kernel
theorem dX11_putOnTape_35 : decode cX11_putOnTape 35 = .ok (.getfield 13, 3) := by decide +kernel
theorem dX11_putOnTape_38 : decode cX11_putOnTape 38 = .ok (.iconst 1, 1) := by decide +kernel
theorem dX11_putOnTape_39 : decode cX11_putOnTape 39 = .ok (.iadd, 1) := by decide +kernel
theorem dX11_putOnTape_40 : decode cX11_putOnTape 40 = .ok (.putfield 13, 3) := by decide +kernel
theorem dX11_putOnTape_43 : decode cX11_putOnTape 43 = .ok (.iinc 2 (-8), 3) := by decide +kernel
theorem dX11_putOnTape_46 : decode cX11_putOnTape 46 = .ok (.goto (-43), 3) := by decide +kernel
theorem dX11_putOnTape_49 : decode cX11_putOnTape 49 = .ok (.return_, 1) := by decide +kernel
def md_X11_putOnTape : List (Nat × Nat) := [(9, 1), (110, 0)]
set_option maxRecDepth 100000 in
set_option maxHeartbeats 4000000 in
theorem c_X11_putOnTape {l : Launch} {D : q_D} (τ : q_T) (σ : q_V) (a0 : Nat) (x1 : Int32) (hI : q_I τ σ) (tA0 : τ a0 = some (9, 1)) : q_Cv l D yX11_putOnTape cX11_putOnTape 3 none 0 0 τ σ [.ref a0, .int x1] (fun σ1 => q_S md_X11_putOnTape τ σ σ1 ∧ (fx_N σ1 = f_X11_putOnTape (fx_N σ) a0 x1.toInt) ∧ (∀ t : Int32, σ a0 1 = .int t → t.toInt ≤ 256 → ∃ z : Int32, σ1 a0 1 = .int z ∧ z.toInt = t.toInt + 4)) := by
  refine q_metv rfl (Nat.le_of_ble_eq_true rfl) (fun X hG hE => ?_)
  show q_O X 0 0 τ σ 0 [(0, .ref a0), (1, .int x1)] []
  have hS0 : q_S md_X11_putOnTape τ σ σ := q_S.rf hI
  obtain ⟨Fv, hF⟩ : ∃ z, fx_eq z (f_X11_putOnTape (fx_N σ) a0 x1.toInt) := ⟨_, fx_rf⟩
  have hF0 := hF
  unfold f_X11_putOnTape at hF
  obtain ⟨q_1v, q_1f, q_1r⟩ := (hI a0 9 1 tA0 1 (by decide)).int ff_9_1
  replace hF := fx_I hF q_1f rfl
  refine q_bipush (pc := 0) hG dX11_putOnTape_0 kb_24 ?_
  refine q_istore_n (pc := 2) [(2, .int 24), (0, .ref a0), (1, .int x1)] hG dX11_putOnTape_2 (by decide) rfl ?_
  have J3 : ∀ (n3 : Nat) (p3_2 : Int32) (σ3 : q_V) (F3 : Int32), (q_r p3_2 (-8) 24) → (q_S md_X11_putOnTape τ σ σ3) → (σ3 a0 1 = .int F3 ∧ q_r F3 0 260) → (q_1v.toInt ≤ 256 → 8 * F3.toInt + p3_2.toInt = 8 * q_1v.toInt + 24) → (fx_eq Fv (kL_X11_putOnTape_3 a0 x1.toInt n3 p3_2.toInt (fx_N σ3) F3.toInt)) → ((p3_2.toInt - (-8)).toNat < n3) → q_O X 0 0 τ σ3 3 [(0, .ref a0), (1, .int x1), (2, .int p3_2)] [] := by
    intro n3
    induction n3 with
    | zero => intro p3_2 σ3 F3 r3_2 hS3 iF3 iR3 hF hm3; exact absurd hm3 (Nat.not_lt_zero _)
    | succ n3 ih3 =>
      intro p3_2 σ3 F3 r3_2 hS3 iF3 iR3 hF hm3
      replace hF := (show fx_eq Fv (kB_X11_putOnTape_3 (kL_X11_putOnTape_3 a0 x1.toInt n3) a0 x1.toInt p3_2.toInt (fx_N σ3) F3.toInt) from hF)
      unfold kB_X11_putOnTape_3 at hF
      refine q_iload_n (pc := 3) hG dX11_putOnTape_3 2 rfl ?_
      refine q_if_lt (pc := 4) hG 49 dX11_putOnTape_4 rfl ?_ ?_
      · intro c4
        replace hF := fx_lt1 hF rfl rfl c4
        have r_2 := q_zlt r3_2 c4
        exact q_vrt hG hE dX11_putOnTape_49 ⟨hS3, (fx_end hF hF0), (fun t e hq => by cases e.symm.trans q_1f; exact ⟨F3, iF3.1, (by have o0 := iR3; have o1 := c4; have o2 := iF3.2; have o3 := r_2; have o4 := q_1r; have o5 := hq; unfold q_r at o2 o3 o4; omega)⟩)⟩
      intro c4
      replace hF := fx_lt2 hF rfl rfl c4
      refine q_aload_n (pc := 7) hG dX11_putOnTape_7 0 rfl ?_
      refine q_getV (pc := 8) (v := .int F3) hG fl_X11_13 dX11_putOnTape_8 tA0 iF3.1 ?_
      refine q_sipush (pc := 11) hG dX11_putOnTape_11 ks_260 ?_
      refine q_icmp_ge (pc := 14) hG 49 dX11_putOnTape_14 rfl ?_ ?_
      · intro c14
        replace hF := fx_lt2 hF rfl tl_260 c14
        have r_3 := q_rge iF3.2 rl_260 c14
        have r_4 := q_zge r3_2 c4
        exact q_vrt hG hE dX11_putOnTape_49 ⟨hS3, (fx_end hF hF0), (fun t e hq => by cases e.symm.trans q_1f; exact ⟨F3, iF3.1, (by have o0 := iR3; have o1 := c4; have o2 := c14; have o3 := r_3; have o4 := r_4; have o5 := q_1r; have l6 := tl_260; have o7 := hq; unfold q_r at o3 o4 o5; omega)⟩)⟩
      intro c14
      replace hF := fx_lt1 hF rfl tl_260 c14
      refine q_aload_n (pc := 17) hG dX11_putOnTape_17 0 rfl ?_
      refine q_getR (pc := 18) (k2 := 110) (n2 := 260) hG fl_X11_9 dX11_putOnTape_18 hS3.1 tA0 ff_9_0 (fun b18 f18 T18 => ?_)
      replace hF := fx_R hF f18 rfl
      have f_5 := (hS3.2 _ _ _ _ tA0 rfl).symm.trans f18
      refine q_aload_n (pc := 21) hG dX11_putOnTape_21 0 rfl ?_
      refine q_getV (pc := 22) (v := .int F3) hG fl_X11_13 dX11_putOnTape_22 tA0 iF3.1 ?_
      refine q_iload_n (pc := 25) hG dX11_putOnTape_25 1 rfl ?_
      refine q_iload_n (pc := 26) hG dX11_putOnTape_26 2 rfl ?_
      refine q_iushr (pc := 27) hG dX11_putOnTape_27 (fun v27 e27 => ?_)
      replace hF := fx_B_ushr hF rfl rfl e27
      refine q_sipush (pc := 28) hG dX11_putOnTape_28 ks_255 ?_
      refine q_iand (pc := 31) hG dX11_putOnTape_31 (fun v31 e31 => ?_)
      replace hF := fx_B_and hF rfl tl_255 e31
      have r_6 := q_rlt iF3.2 rl_260 c14 259 (by decide)
      have r_7 := q_andN (n := 255) e31 rfl (by decide)
      refine q_iast (pc := 32) hG dX11_putOnTape_32 hS3 ai_110 T18 (q_ix r_6 (by decide)) r_7 (by decide) rfl (fun s32 u32 w32 => ?_)
      replace hF := fx_P hF u32 rfl rfl
      have m32 : s32 b18 F3.toInt.toNat = .int v31 := by rw [u32]; exact q_up_same
      refine q_aload_n (pc := 33) hG dX11_putOnTape_33 0 rfl ?_
      refine q_dup (pc := 34) hG dX11_putOnTape_34 rfl ?_
      refine q_getV (pc := 35) (v := .int F3) hG fl_X11_13 dX11_putOnTape_35 tA0 (by rw [u32]; exact (q_keepK tA0 T18 (by decide)).trans iF3.1) ?_
      refine q_iconst (pc := 38) hG dX11_putOnTape_38 ki_1 ?_
      refine q_iadd (pc := 39) hG dX11_putOnTape_39 (fun v39 e39 => ?_)
      replace hF := fx_add hF rfl tl_1 (q_addN (lo := 1) (hi := 260) e39 r_6 rl_1 (by decide)).1
      have r_8 := (q_addN (lo := 1) (hi := 260) e39 r_6 rl_1 (by decide)).2
      refine q_putI (pc := 40) hG fl_X11_13 dX11_putOnTape_40 w32 tA0 ff_9_1 r_8 (by decide) rfl (fun s40 u40 w40 => ?_)
      replace hF := fx_P hF u40 rfl rfl
      have m40 : s40 a0 1 = .int v39 := by rw [u40]; exact q_up_same
      obtain ⟨v43, e43⟩ : ∃ z : Int32, z = p3_2 + Int32.ofInt (-8) := ⟨_, rfl⟩
      have r_9 := q_zge r3_2 c4
      have h43 := q_incN (lo := (-8)) (hi := 16) r_9 (by decide) (by decide) e43
      replace hF := fx_add hF rfl rfl h43.1
      refine q_iinc (pc := 43) [(2, .int v43), (0, .ref a0), (1, .int x1)] hG dX11_putOnTape_43 2 rfl e43 (by decide) rfl ?_
      refine q_goto (pc := 46) 3 hG dX11_putOnTape_46 rfl ?_
      refine q_lv [1, 2, 0] rfl ?_
      exact ih3 v43 s40 v39 (q_r.mono h43.2 (by decide)) w40 ⟨m40, (q_r.mono r_8 (by decide))⟩ (by have o0 := iR3; have o1 := c4; have o2 := c14; have o3 := (q_addN (lo := 1) (hi := 260) e39 r_6 rl_1 (by decide)).1; have o4 := h43.1; have o5 := r_6; have o6 := r_9; have o7 := q_1r; have o8 := r_8; have o9 := h43.2; have l10 := tl_1; have l11 := tl_260; unfold q_r at o5 o6 o7 o8 o9; omega) hF (q_measD hm3 (by have o0 := iR3; have o1 := c4; have o2 := c14; have o3 := (q_addN (lo := 1) (hi := 260) e39 r_6 rl_1 (by decide)).1; have o4 := h43.1; have o5 := r_6; have o6 := r_9; have o7 := q_1r; have o8 := r_8; have o9 := h43.2; have l10 := tl_1; have l11 := tl_260; unfold q_r at o5 o6 o7 o8 o9; omega) (h43.2).1)
  refine q_lv [1, 2, 0] rfl ?_
  exact J3 (((24 : Int32).toInt - (-8)).toNat + 1) 24 σ q_1v (q_r.mono rl_24 (by decide)) hS0 ⟨q_1f, q_1r⟩ (by have o0 := q_1r; have l1 := tl_24; unfold q_r at o0; omega) (by rw [tl_24]; exact hF) (Nat.lt_succ_self _)
theorem dX11_feed_0 : decode cX11_feed 0 = .ok (.aload_n 0, 1) := by decide +kernel
theorem dX11_feed_1 : decode cX11_feed 1 = .ok (.getfield 13, 3) := by decide +kernel
theorem dX11_feed_4 : decode cX11_feed 4 = .ok (.sipush 240, 3) := by decide +kernel
theorem dX11_feed_7 : decode cX11_feed 7 = .ok (.if_icmp .le 5, 3) := by decide +kernel
theorem dX11_feed_10 : decode cX11_feed 10 = .ok (.iconst (-1), 1) := by decide +kernel
theorem dX11_feed_11 : decode cX11_feed 11 = .ok (.ireturn, 1) := by decide +kernel
theorem dX11_feed_12 : decode cX11_feed 12 = .ok (.aload_n 0, 1) := by decide +kernel
theorem dX11_feed_13 : decode cX11_feed 13 = .ok (.iload_n 1, 1) := by decide +kernel
theorem dX11_feed_14 : decode cX11_feed 14 = .ok (.invokevirtual 120, 3) := by decide +kernel
theorem dX11_feed_17 : decode cX11_feed 17 = .ok (.aload_n 0, 1) := by decide +kernel
theorem dX11_feed_18 : decode cX11_feed 18 = .ok (.iload_n 2, 1) := by decide +kernel
theorem dX11_feed_19 : decode cX11_feed 19 = .ok (.invokevirtual 120, 3) := by decide +kernel
theorem dX11_feed_22 : decode cX11_feed 22 = .ok (.aload_n 0, 1) := by decide +kernel
theorem dX11_feed_23 : decode cX11_feed 23 = .ok (.iload_n 3, 1) := by decide +kernel
theorem dX11_feed_24 : decode cX11_feed 24 = .ok (.invokevirtual 120, 3) := by decide +kernel
theorem dX11_feed_27 : decode cX11_feed 27 = .ok (.aload_n 0, 1) := by decide +kernel
theorem dX11_feed_28 : decode cX11_feed 28 = .ok (.iload 4, 2) := by decide +kernel
theorem dX11_feed_30 : decode cX11_feed 30 = .ok (.invokevirtual 120, 3) := by decide +kernel
theorem dX11_feed_33 : decode cX11_feed 33 = .ok (.aload_n 0, 1) := by decide +kernel
theorem dX11_feed_34 : decode cX11_feed 34 = .ok (.iload 5, 2) := by decide +kernel
theorem dX11_feed_36 : decode cX11_feed 36 = .ok (.invokevirtual 120, 3) := by decide +kernel
theorem dX11_feed_39 : decode cX11_feed 39 = .ok (.aload_n 0, 1) := by decide +kernel
theorem dX11_feed_40 : decode cX11_feed 40 = .ok (.getfield 13, 3) := by decide +kernel
theorem dX11_feed_43 : decode cX11_feed 43 = .ok (.ireturn, 1) := by decide +kernel
def md_X11_feed : List (Nat × Nat) := [(9, 1), (110, 0)]
set_option maxRecDepth 100000 in
set_option maxHeartbeats 4000000 in
theorem c_X11_feed {l : Launch} {D : q_D} (τ : q_T) (σ : q_V) (a0 : Nat) (x1 : Int32) (x2 : Int32) (x3 : Int32) (x4 : Int32) (x5 : Int32) (hI : q_I τ σ) (tA0 : τ a0 = some (9, 1)) : q_Ci l D yX11_feed cX11_feed 6 (some .int) 1 22 τ σ [.ref a0, .int x1, .int x2, .int x3, .int x4, .int x5] (fun r σ1 => q_S md_X11_feed τ σ σ1 ∧ (q_r r (-1) 260) ∧ ((r.toInt, fx_N σ1) = f_X11_feed (fx_N σ) a0 x1.toInt x2.toInt x3.toInt x4.toInt x5.toInt) ∧ (∀ t : Int32, σ a0 1 = .int t → ∃ z : Int32, σ1 a0 1 = .int z ∧ ((t.toInt ≤ 240 ∧ r.toInt = t.toInt + 20 ∧ z.toInt = t.toInt + 20) ∨ (240 < t.toInt ∧ r.toInt = -1 ∧ z.toInt = t.toInt)))) := by
  refine q_meti rfl (Nat.le_of_ble_eq_true rfl) (fun X hG hE => ?_)
  show q_O X 0 0 τ σ 0 [(0, .ref a0), (1, .int x1), (2, .int x2), (3, .int x3), (4, .int x4), (5, .int x5)] []
  have hS0 : q_S md_X11_feed τ σ σ := q_S.rf hI
  obtain ⟨Fv, hF⟩ : ∃ z, fx_eq z (f_X11_feed (fx_N σ) a0 x1.toInt x2.toInt x3.toInt x4.toInt x5.toInt) := ⟨_, fx_rf⟩
  have hF0 := hF
  unfold f_X11_feed at hF
  obtain ⟨q_1v, q_1f, q_1r⟩ := (hI a0 9 1 tA0 1 (by decide)).int ff_9_1
  replace hF := fx_I hF q_1f rfl
  refine q_aload_n (pc := 0) hG dX11_feed_0 0 rfl ?_
  refine q_getV (pc := 1) (v := .int q_1v) hG fl_X11_13 dX11_feed_1 tA0 q_1f ?_
  refine q_sipush (pc := 4) hG dX11_feed_4 ks_240 ?_
  refine q_icmp_le (pc := 7) hG 12 dX11_feed_7 rfl ?_ ?_
  · intro c7
    replace hF := fx_lt2 hF tl_240 rfl c7
    refine q_aload_n (pc := 12) hG dX11_feed_12 0 rfl ?_
    refine q_iload_n (pc := 13) hG dX11_feed_13 1 rfl ?_
    refine q_cVv (pc := 14) [.int x1] [] hG (c_X11_putOnTape τ σ a0 x1 hI tA0) my_X11_putOnTape mv_X11_putOnTape w297 dX11_feed_14 tA0 (by decide) rfl rfl (Nat.le_of_ble_eq_true rfl) (by decide) (fun s14 p14 => ?_)
    have w14 := hS0.trans p14.1 rfl
    replace hF := fx_S hF p14.2.1
    have r_2 := q_rle q_1r rl_240 c7
    obtain ⟨t14, ft14, et14⟩ := p14.2.2 q_1v q_1f (by have o0 := c7; have o1 := r_2; have l2 := tl_240; unfold q_r at o1; omega)
    replace hF := fx_I hF ft14 rfl
    refine q_aload_n (pc := 17) hG dX11_feed_17 0 rfl ?_
    refine q_iload_n (pc := 18) hG dX11_feed_18 2 rfl ?_
    refine q_cVv (pc := 19) [.int x2] [] hG (c_X11_putOnTape τ s14 a0 x2 w14.1 tA0) my_X11_putOnTape mv_X11_putOnTape w297 dX11_feed_19 tA0 (by decide) rfl rfl (Nat.le_of_ble_eq_true rfl) (by decide) (fun s19 p19 => ?_)
    have w19 := w14.trans p19.1 rfl
    replace hF := fx_S hF p19.2.1
    have r_3 := (show q_r t14 4 244 from ⟨by have q := r_2; unfold q_r at q; omega, by have q := r_2; unfold q_r at q; omega⟩)
    obtain ⟨t19, ft19, et19⟩ := p19.2.2 t14 ft14 (by have o0 := et14; have o1 := c7; have o2 := r_2; have o3 := r_3; have l4 := tl_240; unfold q_r at o2 o3; omega)
    replace hF := fx_I hF ft19 rfl
    refine q_aload_n (pc := 22) hG dX11_feed_22 0 rfl ?_
    refine q_iload_n (pc := 23) hG dX11_feed_23 3 rfl ?_
    refine q_cVv (pc := 24) [.int x3] [] hG (c_X11_putOnTape τ s19 a0 x3 w19.1 tA0) my_X11_putOnTape mv_X11_putOnTape w297 dX11_feed_24 tA0 (by decide) rfl rfl (Nat.le_of_ble_eq_true rfl) (by decide) (fun s24 p24 => ?_)
    have w24 := w19.trans p24.1 rfl
    replace hF := fx_S hF p24.2.1
    have r_4 := (show q_r t19 8 248 from ⟨by have q := r_3; unfold q_r at q; omega, by have q := r_3; unfold q_r at q; omega⟩)
    obtain ⟨t24, ft24, et24⟩ := p24.2.2 t19 ft19 (by have o0 := et19; have o1 := et14; have o2 := c7; have o3 := r_2; have o4 := r_3; have o5 := r_4; have l6 := tl_240; unfold q_r at o3 o4 o5; omega)
    replace hF := fx_I hF ft24 rfl
    refine q_aload_n (pc := 27) hG dX11_feed_27 0 rfl ?_
    refine q_iload (pc := 28) hG dX11_feed_28 4 rfl ?_
    refine q_cVv (pc := 30) [.int x4] [] hG (c_X11_putOnTape τ s24 a0 x4 w24.1 tA0) my_X11_putOnTape mv_X11_putOnTape w297 dX11_feed_30 tA0 (by decide) rfl rfl (Nat.le_of_ble_eq_true rfl) (by decide) (fun s30 p30 => ?_)
    have w30 := w24.trans p30.1 rfl
    replace hF := fx_S hF p30.2.1
    have r_5 := (show q_r t24 12 252 from ⟨by have q := r_4; unfold q_r at q; omega, by have q := r_4; unfold q_r at q; omega⟩)
    obtain ⟨t30, ft30, et30⟩ := p30.2.2 t24 ft24 (by have o0 := et24; have o1 := et19; have o2 := et14; have o3 := c7; have o4 := r_2; have o5 := r_3; have o6 := r_4; have o7 := r_5; have l8 := tl_240; unfold q_r at o4 o5 o6 o7; omega)
    replace hF := fx_I hF ft30 rfl
    refine q_aload_n (pc := 33) hG dX11_feed_33 0 rfl ?_
    refine q_iload (pc := 34) hG dX11_feed_34 5 rfl ?_
    refine q_cVv (pc := 36) [.int x5] [] hG (c_X11_putOnTape τ s30 a0 x5 w30.1 tA0) my_X11_putOnTape mv_X11_putOnTape w297 dX11_feed_36 tA0 (by decide) rfl rfl (Nat.le_of_ble_eq_true rfl) (by decide) (fun s36 p36 => ?_)
    have w36 := w30.trans p36.1 rfl
    replace hF := fx_S hF p36.2.1
    have r_6 := (show q_r t30 16 256 from ⟨by have q := r_5; unfold q_r at q; omega, by have q := r_5; unfold q_r at q; omega⟩)
    obtain ⟨t36, ft36, et36⟩ := p36.2.2 t30 ft30 (by have o0 := et30; have o1 := et24; have o2 := et19; have o3 := et14; have o4 := c7; have o5 := r_2; have o6 := r_3; have o7 := r_4; have o8 := r_5; have o9 := r_6; have l10 := tl_240; unfold q_r at o5 o6 o7 o8 o9; omega)
    replace hF := fx_I hF ft36 rfl
    refine q_aload_n (pc := 39) hG dX11_feed_39 0 rfl ?_
    refine q_getV (pc := 40) (v := .int t36) hG fl_X11_13 dX11_feed_40 tA0 ft36 ?_
    have r_7 := (show q_r t36 20 260 from ⟨by have q := r_6; unfold q_r at q; omega, by have q := r_6; unfold q_r at q; omega⟩)
    exact q_irt hG hE dX11_feed_43 ⟨w36, (q_r.mono r_7 (by decide)), (fx_end hF hF0), (fun t e => by cases e.symm.trans q_1f; exact ⟨t36, ft36, (by have o0 := c7; have o1 := et14; have o2 := et19; have o3 := et24; have o4 := et30; have o5 := et36; have o6 := r_2; have o7 := r_3; have o8 := r_4; have o9 := r_5; have o10 := r_6; have o11 := r_7; have l12 := tl_240; unfold q_r at o6 o7 o8 o9 o10 o11; omega)⟩)⟩
  intro c7
  replace hF := fx_lt1 hF tl_240 rfl c7
  refine q_iconst (pc := 10) hG dX11_feed_10 ki_m1 ?_
  have r_8 := q_rgt q_1r rl_240 c7 241 (by decide)
  exact q_irt hG hE dX11_feed_11 ⟨hS0, (q_r.mono rl_m1 (by decide)), (by rw [tl_m1]; exact fx_end hF hF0), (fun t e => by cases e.symm.trans q_1f; exact ⟨q_1v, q_1f, (by have o0 := c7; have o1 := r_8; have l2 := tl_m1; have l3 := tl_240; unfold q_r at o1; omega)⟩)⟩
theorem dX11_law_0 : decode cX11_law 0 = .ok (.iload_n 1, 1) := by decide +kernel
theorem dX11_law_1 : decode cX11_law 1 = .ok (.iconst 1, 1) := by decide +kernel
theorem dX11_law_2 : decode cX11_law 2 = .ok (.sipush 240, 3) := by decide +kernel
theorem dX11_law_5 : decode cX11_law 5 = .ok (.invokestatic 90, 3) := by decide +kernel
theorem dX11_law_8 : decode cX11_law 8 = .ok (.ifCond .eq 11, 3) := by decide +kernel
theorem dX11_law_11 : decode cX11_law 11 = .ok (.iload_n 1, 1) := by decide +kernel
theorem dX11_law_12 : decode cX11_law 12 = .ok (.aload_n 0, 1) := by decide +kernel
theorem dX11_law_13 : decode cX11_law 13 = .ok (.getfield 13, 3) := by decide +kernel
theorem dX11_law_16 : decode cX11_law 16 = .ok (.if_icmp .le 5, 3) := by decide +kernel
theorem dX11_law_19 : decode cX11_law 19 = .ok (.iconst (-1), 1) := by decide +kernel
theorem dX11_law_20 : decode cX11_law 20 = .ok (.ireturn, 1) := by decide +kernel
theorem dX11_law_21 : decode cX11_law 21 = .ok (.aload_n 0, 1) := by decide +kernel
theorem dX11_law_22 : decode cX11_law 22 = .ok (.getfield 27, 3) := by decide +kernel
theorem dX11_law_25 : decode cX11_law 25 = .ok (.aload_n 0, 1) := by decide +kernel
theorem dX11_law_26 : decode cX11_law 26 = .ok (.getfield 9, 3) := by decide +kernel
theorem dX11_law_29 : decode cX11_law 29 = .ok (.iload_n 1, 1) := by decide +kernel
theorem dX11_law_30 : decode cX11_law 30 = .ok (.invokevirtual 123, 3) := by decide +kernel
theorem dX11_law_33 : decode cX11_law 33 = .ok (.istore_n 2, 1) := by decide +kernel
theorem dX11_law_34 : decode cX11_law 34 = .ok (.aload_n 0, 1) := by decide +kernel
theorem dX11_law_35 : decode cX11_law 35 = .ok (.iconst 0, 1) := by decide +kernel
theorem dX11_law_36 : decode cX11_law 36 = .ok (.putfield 13, 3) := by decide +kernel
theorem dX11_law_39 : decode cX11_law 39 = .ok (.iload_n 2, 1) := by decide +kernel
theorem dX11_law_40 : decode cX11_law 40 = .ok (.ifCond .eq 5, 3) := by decide +kernel
theorem dX11_law_43 : decode cX11_law 43 = .ok (.iload_n 2, 1) := by decide +kernel
theorem dX11_law_44 : decode cX11_law 44 = .ok (.ireturn, 1) := by decide +kernel
theorem dX11_law_45 : decode cX11_law 45 = .ok (.aload_n 0, 1) := by decide +kernel
theorem dX11_law_46 : decode cX11_law 46 = .ok (.getfield 34, 3) := by decide +kernel
theorem dX11_law_49 : decode cX11_law 49 = .ok (.astore_n 3, 1) := by decide +kernel
theorem dX11_law_50 : decode cX11_law 50 = .ok (.aload_n 0, 1) := by decide +kernel
theorem dX11_law_51 : decode cX11_law 51 = .ok (.aload_n 0, 1) := by decide +kernel
theorem dX11_law_52 : decode cX11_law 52 = .ok (.getfield 27, 3) := by decide +kernel
theorem dX11_law_55 : decode cX11_law 55 = .ok (.getfield 126, 3) := by decide +kernel
theorem dX11_law_58 : decode cX11_law 58 = .ok (.putfield 34, 3) := by decide +kernel
theorem dX11_law_61 : decode cX11_law 61 = .ok (.aload_n 0, 1) := by decide +kernel
theorem dX11_law_62 : decode cX11_law 62 = .ok (.getfield 27, 3) := by decide +kernel
theorem dX11_law_65 : decode cX11_law 65 = .ok (.aload_n 3, 1) := by decide +kernel
theorem dX11_law_66 : decode cX11_law 66 = .ok (.putfield 126, 3) := by decide +kernel
theorem dX11_law_69 : decode cX11_law 69 = .ok (.aload_n 0, 1) := by decide +kernel
theorem dX11_law_70 : decode cX11_law 70 = .ok (.getfield 34, 3) := by decide +kernel
theorem dX11_law_73 : decode cX11_law 73 = .ok (.getfield 129, 3) := by decide +kernel
theorem dX11_law_76 : decode cX11_law 76 = .ok (.ireturn, 1) := by decide +kernel
def md_X11_law : List (Nat × Nat) := [(3, 0), (3, 1), (3, 2), (4, 0), (4, 1), (4, 2), (4, 3), (4, 4), (9, 1), (9, 4), (112, 0), (113, 0), (114, 0), (115, 0), (116, 0)]
set_option maxRecDepth 100000 in
set_option maxHeartbeats 4000000 in
theorem c_X11_law {l : Launch} {D : q_D} (τ : q_T) (σ : q_V) (a0 : Nat) (x1 : Int32) (hI : q_I τ σ) (tA0 : τ a0 = some (9, 1)) : q_Ci l D yX11_law cX11_law 4 (some .int) 25 579 τ σ [.ref a0, .int x1] (fun r σ1 => q_S md_X11_law τ σ σ1 ∧ (q_r r (-2147483648) 2147483647) ∧ ((r.toInt, fx_N σ1) = f_X11_law (fx_N σ) a0 x1.toInt) ∧ (∀ t : Int32, σ a0 1 = .int t → ∃ z : Int32, σ1 a0 1 = .int z ∧ (((1 ≤ x1.toInt ∧ x1.toInt ≤ 240) ∧ x1.toInt ≤ t.toInt) → z.toInt = 0) ∧ (¬ ((1 ≤ x1.toInt ∧ x1.toInt ≤ 240) ∧ x1.toInt ≤ t.toInt) → z.toInt = t.toInt))) := by
  refine q_meti rfl (Nat.le_of_ble_eq_true rfl) (fun X hG hE => ?_)
  show q_O X 0 0 τ σ 0 [(0, .ref a0), (1, .int x1)] []
  have hS0 : q_S md_X11_law τ σ σ := q_S.rf hI
  obtain ⟨Fv, hF⟩ : ∃ z, fx_eq z (f_X11_law (fx_N σ) a0 x1.toInt) := ⟨_, fx_rf⟩
  have hF0 := hF
  unfold f_X11_law at hF
  obtain ⟨q_1v, q_1f, q_1r⟩ := (hI a0 9 1 tA0 1 (by decide)).int ff_9_1
  replace hF := fx_I hF q_1f rfl
  refine q_iload_n (pc := 0) hG dX11_law_0 1 rfl ?_
  refine q_iconst (pc := 1) hG dX11_law_1 ki_1 ?_
  refine q_sipush (pc := 2) hG dX11_law_2 ks_240 ?_
  refine q_pS (pc := 5) [.int x1, .int 1, .int 240] [] hG (c_X11_isIn τ σ x1 1 240 hI) my_X11_isIn w238 w237 dX11_law_5 rfl rfl (Nat.le_of_ble_eq_true rfl) (by decide) (fun v5 p5 => ?_)
  have fq5 := p5.2.1
  rewrite [tl_1, tl_240] at fq5
  replace hF := fx_E hF fq5
  refine q_if_eq (pc := 8) hG 19 dX11_law_8 rfl ?_ ?_
  · intro c8
    replace hF := fx_eq1 hF rfl rfl c8
    refine q_iconst (pc := 19) hG dX11_law_19 ki_m1 ?_
    have r_2 := q_zeq c8
    exact q_irt hG hE dX11_law_20 ⟨hS0, (q_r.mono rl_m1 (by decide)), (by rw [tl_m1]; exact fx_end hF hF0), (fun t e => by cases e.symm.trans q_1f; exact ⟨q_1v, q_1f, (by have o0 := p5.2.2; have o1 := c8; have o2 := q_1r; have o3 := r_2; have l4 := tl_m1; have l5 := tl_1; have l6 := tl_240; unfold q_r at o2 o3; omega)⟩)⟩
  intro c8
  have g_3 := p5.2.2.mp (q_one p5.1 c8)
  have r_4 := q_rge (q_r_any x1) rl_1 g_3.1
  replace hF := fx_eq2 hF rfl rfl c8
  refine q_iload_n (pc := 11) hG dX11_law_11 1 rfl ?_
  refine q_aload_n (pc := 12) hG dX11_law_12 0 rfl ?_
  refine q_getV (pc := 13) (v := .int q_1v) hG fl_X11_13 dX11_law_13 tA0 q_1f ?_
  refine q_icmp_le (pc := 16) hG 21 dX11_law_16 rfl ?_ ?_
  · intro c16
    have r_5 := q_rle r_4 rl_240 g_3.2
    replace hF := fx_lt2 hF rfl rfl c16
    refine q_aload_n (pc := 21) hG dX11_law_21 0 rfl ?_
    refine q_getR (pc := 22) (k2 := 4) (n2 := 1) hG fl_X11_27 dX11_law_22 hI tA0 ff_9_3 (fun b22 f22 T22 => ?_)
    replace hF := fx_R hF f22 rfl
    refine q_aload_n (pc := 25) hG dX11_law_25 0 rfl ?_
    refine q_getR (pc := 26) (k2 := 110) (n2 := 260) hG fl_X11_9 dX11_law_26 hI tA0 ff_9_0 (fun b26 f26 T26 => ?_)
    replace hF := fx_R hF f26 rfl
    refine q_iload_n (pc := 29) hG dX11_law_29 1 rfl ?_
    refine q_cVi (pc := 30) [.ref b26, .int x1] [] hG (c_X4_read τ σ b22 b26 x1 hI T22 T26 r_5) my_X4_read mv_X4_read w304 dX11_law_30 T22 (by decide) rfl rfl (Nat.le_of_ble_eq_true rfl) (by decide) (fun v30 s30 p30 => ?_)
    have w30 := hS0.trans p30.1 rfl
    replace hF := fx_C hF p30.2.2
    refine q_istore_n (pc := 33) [(2, .int v30), (0, .ref a0), (1, .int x1)] hG dX11_law_33 (by decide) rfl ?_
    refine q_aload_n (pc := 34) hG dX11_law_34 1 rfl ?_
    refine q_iconst (pc := 35) hG dX11_law_35 ki_0 ?_
    refine q_putI (pc := 36) hG fl_X11_13 dX11_law_36 w30 tA0 ff_9_1 rl_0 (by decide) rfl (fun s36 u36 w36 => ?_)
    replace hF := fx_P hF u36 rfl tl_0
    have m36 : s36 a0 1 = .int 0 := by rw [u36]; exact q_up_same
    refine q_iload_n (pc := 39) hG dX11_law_39 0 rfl ?_
    refine q_if_eq (pc := 40) hG 45 dX11_law_40 rfl ?_ ?_
    · intro c40
      replace hF := fx_eq1 hF rfl rfl c40
      refine q_aload_n (pc := 45) hG dX11_law_45 1 rfl ?_
      refine q_getR (pc := 46) (k2 := 3) (n2 := 1) hG fl_X11_34 dX11_law_46 w36.1 tA0 ff_9_4 (fun b46 f46 T46 => ?_)
      replace hF := fx_R hF f46 rfl
      refine q_astore_n (pc := 49) [(3, .ref b46), (2, .int v30), (0, .ref a0), (1, .int x1)] hG dX11_law_49 (by decide) rfl ?_
      refine q_aload_n (pc := 50) hG dX11_law_50 2 rfl ?_
      refine q_aload_n (pc := 51) hG dX11_law_51 2 rfl ?_
      refine q_getV (pc := 52) (v := .ref b22) hG fl_X11_27 dX11_law_52 tA0 (w36.same tA0 rfl f22) ?_
      refine q_getR (pc := 55) (k2 := 3) (n2 := 1) hG fl_X11_126 dX11_law_55 w36.1 T22 ff_4_4 (fun b55 f55 T55 => ?_)
      replace hF := fx_R hF f55 rfl
      refine q_putR (pc := 58) hG fl_X11_34 dX11_law_58 w36 tA0 (q_vr (k := 3) (n := 1) ff_9_4 T55 (by decide)) rfl rfl rfl (fun s58 u58 w58 => ?_)
      replace hF := fx_PR hF u58 rfl
      have m58 : s58 a0 4 = .ref b55 := by rw [u58]; exact q_up_same
      refine q_aload_n (pc := 61) hG dX11_law_61 2 rfl ?_
      refine q_getV (pc := 62) (v := .ref b22) hG fl_X11_27 dX11_law_62 tA0 (w58.same tA0 rfl f22) ?_
      refine q_aload_n (pc := 65) hG dX11_law_65 0 rfl ?_
      refine q_putR (pc := 66) hG fl_X11_126 dX11_law_66 w58 T22 (q_vr (k := 3) (n := 1) ff_4_4 T46 (by decide)) rfl rfl rfl (fun s66 u66 w66 => ?_)
      replace hF := fx_PR hF u66 rfl
      have m66 : s66 b22 4 = .ref b46 := by rw [u66]; exact q_up_same
      refine q_aload_n (pc := 69) hG dX11_law_69 2 rfl ?_
      refine q_getV (pc := 70) (v := .ref b55) hG fl_X11_34 dX11_law_70 tA0 (by rw [u66]; exact (q_keepK tA0 T22 (by decide)).trans m58) ?_
      refine q_getI (pc := 73) hG fl_X11_129 dX11_law_73 w66.1 T55 ff_3_0 (fun v73 f73 g73 => ?_)
      replace hF := fx_I hF f73 rfl
      have r_6 := q_rge q_1r r_5 c16
      have r_7 := q_neL (c := 1) p5.1 c8 (by decide)
      exact q_irt hG hE dX11_law_76 ⟨w66, (q_r.mono g73 (by decide)), (fx_end hF hF0), (fun t e => by cases e.symm.trans q_1f; exact ⟨0, (by rw [u66]; exact (q_keepK tA0 T22 (by decide)).trans (by rw [u58]; exact (q_up_else (Or.inr (by decide))).trans m36)), (by have o0 := p5.2.2; have o1 := c8; have o2 := g_3.1; have o3 := g_3.2; have o4 := c16; have o5 := r_6; have o6 := r_7; have o7 := g73; have o8 := r_5; have l9 := tl_0; have l10 := tl_1; have l11 := tl_240; unfold q_r at o5 o6 o7 o8; omega)⟩)⟩
    intro c40
    replace hF := fx_eq2 hF rfl rfl c40
    refine q_iload_n (pc := 43) hG dX11_law_43 0 rfl ?_
    have r_8 := q_rge q_1r r_5 c16
    have r_9 := q_neL (c := 1) p5.1 c8 (by decide)
    exact q_irt hG hE dX11_law_44 ⟨w36, p30.2.1, (fx_end hF hF0), (fun t e => by cases e.symm.trans q_1f; exact ⟨0, m36, (by have o0 := p5.2.2; have o1 := c8; have o2 := g_3.1; have o3 := g_3.2; have o4 := c16; have o5 := c40; have o6 := r_8; have o7 := p30.2.1; have o8 := r_9; have o9 := r_5; have l10 := tl_0; have l11 := tl_1; have l12 := tl_240; unfold q_r at o6 o7 o8 o9; omega)⟩)⟩
  intro c16
  have r_10 := q_rle r_4 rl_240 g_3.2
  replace hF := fx_lt1 hF rfl rfl c16
  refine q_iconst (pc := 19) hG dX11_law_19 ki_m1 ?_
  have r_11 := q_rlt q_1r r_10 c16 239 (by decide)
  have r_12 := q_neL (c := 1) p5.1 c8 (by decide)
  exact q_irt hG hE dX11_law_20 ⟨hS0, (q_r.mono rl_m1 (by decide)), (by rw [tl_m1]; exact fx_end hF hF0), (fun t e => by cases e.symm.trans q_1f; exact ⟨q_1v, q_1f, (by have o0 := p5.2.2; have o1 := c8; have o2 := g_3.1; have o3 := g_3.2; have o4 := c16; have o5 := r_11; have o6 := r_12; have o7 := r_10; have l8 := tl_m1; have l9 := tl_1; have l10 := tl_240; unfold q_r at o5 o6 o7; omega)⟩)⟩
theorem dX11_party_0 : decode cX11_party 0 = .ok (.iload_n 1, 1) := by decide +kernel
theorem dX11_party_1 : decode cX11_party 1 = .ok (.iconst 0, 1) := by decide +kernel
theorem dX11_party_2 : decode cX11_party 2 = .ok (.iconst 1, 1) := by decide +kernel
theorem dX11_party_3 : decode cX11_party 3 = .ok (.invokestatic 90, 3) := by decide +kernel
theorem dX11_party_6 : decode cX11_party 6 = .ok (.ifCond .eq 14, 3) := by decide +kernel
theorem dX11_party_9 : decode cX11_party 9 = .ok (.iload_n 3, 1) := by decide +kernel
theorem dX11_party_10 : decode cX11_party 10 = .ok (.bipush (-20), 2) := by decide +kernel
theorem dX11_party_12 : decode cX11_party 12 = .ok (.bipush 20, 2) := by decide +kernel
theorem dX11_party_14 : decode cX11_party 14 = .ok (.invokestatic 90, 3) := by decide +kernel
theorem dX11_party_17 : decode cX11_party 17 = .ok (.ifCond .ne 5, 3) := by decide +kernel
theorem dX11_party_20 : decode cX11_party 20 = .ok (.iconst 0, 1) := by decide +kernel
theorem dX11_party_21 : decode cX11_party 21 = .ok (.ireturn, 1) := by decide +kernel
theorem dX11_party_22 : decode cX11_party 22 = .ok (.iload_n 2, 1) := by decide +kernel
theorem dX11_party_23 : decode cX11_party 23 = .ok (.ifCond .ne 31, 3) := by decide +kernel
theorem dX11_party_26 : decode cX11_party 26 = .ok (.aload_n 0, 1) := by decide +kernel
theorem dX11_party_27 : decode cX11_party 27 = .ok (.getfield 41, 3) := by decide +kernel
theorem dX11_party_30 : decode cX11_party 30 = .ok (.getfield 132, 3) := by decide +kernel
theorem dX11_party_33 : decode cX11_party 33 = .ok (.iload_n 1, 1) := by decide +kernel
theorem dX11_party_34 : decode cX11_party 34 = .ok (.iaload, 1) := by decide +kernel
theorem dX11_party_35 : decode cX11_party 35 = .ok (.ifCond .lt 19, 3) := by decide +kernel
theorem dX11_party_38 : decode cX11_party 38 = .ok (.aload_n 0, 1) := by decide +kernel
theorem dX11_party_39 : decode cX11_party 39 = .ok (.getfield 41, 3) := by decide +kernel
theorem dX11_party_42 : decode cX11_party 42 = .ok (.aload_n 0, 1) := by decide +kernel
theorem dX11_party_43 : decode cX11_party 43 = .ok (.getfield 41, 3) := by decide +kernel
theorem dX11_party_46 : decode cX11_party 46 = .ok (.getfield 132, 3) := by decide +kernel
theorem dX11_party_49 : decode cX11_party 49 = .ok (.iload_n 1, 1) := by decide +kernel
theorem dX11_party_50 : decode cX11_party 50 = .ok (.iaload, 1) := by decide +kernel
theorem dX11_party_51 : decode cX11_party 51 = .ok (.invokevirtual 135, 3) := by decide +kernel
theorem dX11_party_54 : decode cX11_party 54 = .ok (.aload_n 0, 1) := by decide +kernel
theorem dX11_party_55 : decode cX11_party 55 = .ok (.getfield 41, 3) := by decide +kernel
theorem dX11_party_58 : decode cX11_party 58 = .ok (.getfield 138, 3) := by decide +kernel
theorem dX11_party_61 : decode cX11_party 61 = .ok (.iload_n 1, 1) := by decide +kernel
theorem dX11_party_62 : decode cX11_party 62 = .ok (.iload_n 2, 1) := by decide +kernel
theorem dX11_party_63 : decode cX11_party 63 = .ok (.bastore, 1) := by decide +kernel
theorem dX11_party_64 : decode cX11_party 64 = .ok (.aload_n 0, 1) := by decide +kernel
theorem dX11_party_65 : decode cX11_party 65 = .ok (.getfield 41, 3) := by decide +kernel
theorem dX11_party_68 : decode cX11_party 68 = .ok (.getfield 142, 3) := by decide +kernel
theorem dX11_party_71 : decode cX11_party 71 = .ok (.iload_n 1, 1) := by decide +kernel
theorem dX11_party_72 : decode cX11_party 72 = .ok (.iload_n 3, 1) := by decide +kernel
theorem dX11_party_73 : decode cX11_party 73 = .ok (.iastore, 1) := by decide +kernel
theorem dX11_party_74 : decode cX11_party 74 = .ok (.iconst 1, 1) := by decide +kernel
theorem dX11_party_75 : decode cX11_party 75 = .ok (.ireturn, 1) := by decide +kernel
def md_X11_party : List (Nat × Nat) := [(120, 0), (121, 0), (122, 0), (123, 0), (124, 0), (126, 0), (210, 0)]
set_option maxRecDepth 100000 in
set_option maxHeartbeats 4000000 in
theorem c_X11_party {l : Launch} {D : q_D} (τ : q_T) (σ : q_V) (a0 : Nat) (x1 : Int32) (x2 : Int32) (x3 : Int32) (hI : q_I τ σ) (tA0 : τ a0 = some (9, 1)) (rA2 : q_r x2 0 1) : q_Ci l D yX11_party cX11_party 4 (some .boolean) 1 22 τ σ [.ref a0, .int x1, .int x2, .int x3] (fun r σ1 => q_S md_X11_party τ σ σ1 ∧ (q_r r 0 1) ∧ ((r.toInt, fx_N σ1) = f_X11_party (fx_N σ) a0 x1.toInt x2.toInt x3.toInt) ∧ (r.toInt = 1 ↔ ((0 ≤ x1.toInt ∧ x1.toInt ≤ 1) ∧ ((-20) ≤ x3.toInt ∧ x3.toInt ≤ 20)))) := by
  refine q_meti rfl (Nat.le_of_ble_eq_true rfl) (fun X hG hE => ?_)
  show q_O X 0 0 τ σ 0 [(0, .ref a0), (1, .int x1), (2, .int x2), (3, .int x3)] []
  have hS0 : q_S md_X11_party τ σ σ := q_S.rf hI
  obtain ⟨Fv, hF⟩ : ∃ z, fx_eq z (f_X11_party (fx_N σ) a0 x1.toInt x2.toInt x3.toInt) := ⟨_, fx_rf⟩
  have hF0 := hF
  unfold f_X11_party at hF
  refine q_iload_n (pc := 0) hG dX11_party_0 1 rfl ?_
  refine q_iconst (pc := 1) hG dX11_party_1 ki_0 ?_
  refine q_iconst (pc := 2) hG dX11_party_2 ki_1 ?_
  refine q_pS (pc := 3) [.int x1, .int 0, .int 1] [] hG (c_X11_isIn τ σ x1 0 1 hI) my_X11_isIn w238 w237 dX11_party_3 rfl rfl (Nat.le_of_ble_eq_true rfl) (by decide) (fun v3 p3 => ?_)
  have fq3 := p3.2.1
  rewrite [tl_0, tl_1] at fq3
  replace hF := fx_E hF fq3
  refine q_if_eq (pc := 6) hG 20 dX11_party_6 rfl ?_ ?_
  · intro c6
    replace hF := fx_eq1 hF rfl rfl c6
    refine q_iconst (pc := 20) hG dX11_party_20 ki_0 ?_
    have r_1 := q_zeq c6
    exact q_zrt hG hE dX11_party_21 (q_r.mono rl_0 (by decide)) ⟨hS0, (q_r.mono rl_0 (by decide)), (by rw [tl_0]; exact fx_end hF hF0), (by have o0 := p3.2.2; have o1 := c6; have o2 := r_1; have l3 := tl_m20; have l4 := tl_0; have l5 := tl_1; have l6 := tl_20; unfold q_r at o2; omega)⟩
  intro c6
  have g_2 := p3.2.2.mp (q_one p3.1 c6)
  have r_3 := q_rge (q_r_any x1) rl_0 g_2.1
  replace hF := fx_eq2 hF rfl rfl c6
  refine q_iload_n (pc := 9) hG dX11_party_9 3 rfl ?_
  refine q_bipush (pc := 10) hG dX11_party_10 kb_m20 ?_
  refine q_bipush (pc := 12) hG dX11_party_12 kb_20 ?_
  refine q_pS (pc := 14) [.int x3, .int (-20), .int 20] [] hG (c_X11_isIn τ σ x3 (-20) 20 hI) my_X11_isIn w238 w237 dX11_party_14 rfl rfl (Nat.le_of_ble_eq_true rfl) (by decide) (fun v14 p14 => ?_)
  have fq14 := p14.2.1
  rewrite [tl_m20, tl_20] at fq14
  replace hF := fx_E hF fq14
  refine q_if_ne (pc := 17) hG 22 dX11_party_17 rfl ?_ ?_
  · intro c17
    have g_4 := p14.2.2.mp (q_one p14.1 c17)
    have r_5 := q_rge (q_r_any x3) rl_m20 g_4.1
    replace hF := fx_eq2 hF rfl rfl c17
    refine q_iload_n (pc := 22) hG dX11_party_22 2 rfl ?_
    have J54 : ∀ (σ54 : q_V), (q_S md_X11_party τ σ σ54) → (fx_eq Fv (kJ_X11_party_54 a0 x1.toInt x2.toInt x3.toInt (fx_N σ54))) → q_O X 0 0 τ σ54 54 [(0, .ref a0), (1, .int x1), (2, .int x2), (3, .int x3)] [] := by
      intro σ54 hS54 hF
      unfold kJ_X11_party_54 at hF
      refine q_aload_n (pc := 54) hG dX11_party_54 0 rfl ?_
      refine q_getR (pc := 55) (k2 := 6) (n2 := 1) hG fl_X11_41 dX11_party_55 hS54.1 tA0 ff_9_5 (fun b55 f55 T55 => ?_)
      replace hF := fx_R hF f55 rfl
      have f_6 := (hS54.2 _ _ _ _ tA0 rfl).symm.trans f55
      refine q_getR (pc := 58) (k2 := 210) (n2 := 2) hG fl_X11_138 dX11_party_58 hS54.1 T55 ff_6_9 (fun b58 f58 T58 => ?_)
      replace hF := fx_R hF f58 rfl
      have f_7 := (hS54.2 _ _ _ _ T55 rfl).symm.trans f58
      refine q_iload_n (pc := 61) hG dX11_party_61 1 rfl ?_
      refine q_iload_n (pc := 62) hG dX11_party_62 2 rfl ?_
      have r_8 := q_rle r_3 rl_1 g_2.2
      refine q_zast (pc := 63) hG dX11_party_63 hS54 ai_210 T58 (q_ix r_8 (by decide)) rA2 rfl (fun s63 u63 w63 => ?_)
      replace hF := fx_P hF u63 rfl rfl
      have m63 : s63 b58 x1.toInt.toNat = .int x2 := by rw [u63]; exact q_up_same
      refine q_aload_n (pc := 64) hG dX11_party_64 0 rfl ?_
      refine q_getV (pc := 65) (v := .ref b55) hG fl_X11_41 dX11_party_65 tA0 (w63.same tA0 rfl f_6) ?_
      refine q_getR (pc := 68) (k2 := 126) (n2 := 2) hG fl_X11_142 dX11_party_68 w63.1 T55 ff_6_12 (fun b68 f68 T68 => ?_)
      replace hF := fx_R hF f68 rfl
      have f_9 := (w63.2 _ _ _ _ T55 rfl).symm.trans f68
      refine q_iload_n (pc := 71) hG dX11_party_71 1 rfl ?_
      refine q_iload_n (pc := 72) hG dX11_party_72 3 rfl ?_
      have r_10 := q_rle r_5 rl_20 g_4.2
      refine q_iast (pc := 73) hG dX11_party_73 w63 ai_126 T68 (q_ix r_8 (by decide)) r_10 (by decide) rfl (fun s73 u73 w73 => ?_)
      replace hF := fx_P hF u73 rfl rfl
      have m73 : s73 b68 x1.toInt.toNat = .int x3 := by rw [u73]; exact q_up_same
      refine q_iconst (pc := 74) hG dX11_party_74 ki_1 ?_
      have r_11 := q_neL (c := 1) p14.1 c17 (by decide)
      have r_12 := q_neL (c := 1) p3.1 c6 (by decide)
      exact q_zrt hG hE dX11_party_75 (q_r.mono rl_1 (by decide)) ⟨w73, (q_r.mono rl_1 (by decide)), (by rw [tl_1]; exact fx_end hF hF0), (by have o0 := p3.2.2; have o1 := c6; have o2 := g_2.1; have o3 := g_2.2; have o4 := p14.2.2; have o5 := c17; have o6 := g_4.1; have o7 := g_4.2; have o8 := r_11; have o9 := r_12; have o10 := r_8; have o11 := r_10; have l12 := tl_m20; have l13 := tl_0; have l14 := tl_1; have l15 := tl_20; unfold q_r at o8 o9 o10 o11; omega)⟩
    refine q_if_ne (pc := 23) hG 54 dX11_party_23 rfl ?_ ?_
    · intro c23
      replace hF := fx_eq2 hF rfl rfl c23
      refine q_lv [0, 1, 2, 3] rfl ?_
      exact J54 σ hS0 hF
    intro c23
    replace hF := fx_eq1 hF rfl rfl c23
    refine q_aload_n (pc := 26) hG dX11_party_26 0 rfl ?_
    refine q_getR (pc := 27) (k2 := 6) (n2 := 1) hG fl_X11_41 dX11_party_27 hI tA0 ff_9_5 (fun b27 f27 T27 => ?_)
    replace hF := fx_R hF f27 rfl
    refine q_getR (pc := 30) (k2 := 124) (n2 := 2) hG fl_X11_132 dX11_party_30 hI T27 ff_6_10 (fun b30 f30 T30 => ?_)
    replace hF := fx_R hF f30 rfl
    refine q_iload_n (pc := 33) hG dX11_party_33 1 rfl ?_
    have r_13 := q_rle r_3 rl_1 g_2.2
    refine q_iald (pc := 34) hG dX11_party_34 hI ai_124 T30 (q_ix r_13 (by decide)) (fun v34 f34 g34 => ?_)
    replace hF := fx_I hF f34 rfl
    refine q_if_lt (pc := 35) hG 54 dX11_party_35 rfl ?_ ?_
    · intro c35
      replace hF := fx_lt1 hF rfl rfl c35
      refine q_lv [0, 1, 2, 3] rfl ?_
      exact J54 σ hS0 hF
    intro c35
    replace hF := fx_lt2 hF rfl rfl c35
    refine q_aload_n (pc := 38) hG dX11_party_38 0 rfl ?_
    refine q_getV (pc := 39) (v := .ref b27) hG fl_X11_41 dX11_party_39 tA0 f27 ?_
    refine q_aload_n (pc := 42) hG dX11_party_42 0 rfl ?_
    refine q_getV (pc := 43) (v := .ref b27) hG fl_X11_41 dX11_party_43 tA0 f27 ?_
    refine q_getV (pc := 46) (v := .ref b30) hG fl_X11_132 dX11_party_46 T27 f30 ?_
    refine q_iload_n (pc := 49) hG dX11_party_49 1 rfl ?_
    refine q_ialdV (pc := 50) (v := .int v34) hG dX11_party_50 T30 (by decide) (by decide) (q_ix r_13 (by decide)) f34 ?_
    have r_14 := q_zge g34 c35
    refine q_cVv (pc := 51) [.int v34] [] hG (c_X7_makeBare τ σ b27 v34 hI T27 r_14) my_X7_makeBare mv_X7_makeBare w375 dX11_party_51 T27 (by decide) rfl rfl (Nat.le_of_ble_eq_true rfl) (by decide) (fun s51 p51 => ?_)
    have w51 := hS0.trans p51.1 rfl
    replace hF := fx_S hF p51.2
    refine q_lv [0, 1, 2, 3] rfl ?_
    exact J54 s51 w51 hF
  intro c17
  replace hF := fx_eq1 hF rfl rfl c17
  refine q_iconst (pc := 20) hG dX11_party_20 ki_0 ?_
  have r_15 := q_zeq c17
  have r_16 := q_neL (c := 1) p3.1 c6 (by decide)
  have r_17 := q_rle r_3 rl_1 g_2.2
  exact q_zrt hG hE dX11_party_21 (q_r.mono rl_0 (by decide)) ⟨hS0, (q_r.mono rl_0 (by decide)), (by rw [tl_0]; exact fx_end hF hF0), (by have o0 := p3.2.2; have o1 := c6; have o2 := g_2.1; have o3 := g_2.2; have o4 := p14.2.2; have o5 := c17; have o6 := r_15; have o7 := r_16; have o8 := r_17; have l9 := tl_m20; have l10 := tl_0; have l11 := tl_1; have l12 := tl_20; unfold q_r at o6 o7 o8; omega)⟩
theorem dX11_car_0 : decode cX11_car 0 = .ok (.iload_n 1, 1) := by decide +kernel
theorem dX11_car_1 : decode cX11_car 1 = .ok (.iconst 0, 1) := by decide +kernel
theorem dX11_car_2 : decode cX11_car 2 = .ok (.bipush 11, 2) := by decide +kernel
theorem dX11_car_4 : decode cX11_car 4 = .ok (.invokestatic 90, 3) := by decide +kernel
theorem dX11_car_7 : decode cX11_car 7 = .ok (.ifCond .eq 23, 3) := by decide +kernel
theorem dX11_car_10 : decode cX11_car 10 = .ok (.iload_n 2, 1) := by decide +kernel
theorem dX11_car_11 : decode cX11_car 11 = .ok (.iconst 0, 1) := by decide +kernel
theorem dX11_car_12 : decode cX11_car 12 = .ok (.iconst 1, 1) := by decide +kernel
theorem dX11_car_13 : decode cX11_car 13 = .ok (.invokestatic 90, 3) := by decide +kernel
theorem dX11_car_16 : decode cX11_car 16 = .ok (.ifCond .eq 14, 3) := by decide +kernel
theorem dX11_car_19 : decode cX11_car 19 = .ok (.iload_n 3, 1) := by decide +kernel
theorem dX11_car_20 : decode cX11_car 20 = .ok (.iconst 0, 1) := by decide +kernel
theorem dX11_car_21 : decode cX11_car 21 = .ok (.sipush 9999, 3) := by decide +kernel
theorem dX11_car_24 : decode cX11_car 24 = .ok (.invokestatic 90, 3) := by decide +kernel
theorem dX11_car_27 : decode cX11_car 27 = .ok (.ifCond .ne 5, 3) := by decide +kernel
theorem dX11_car_30 : decode cX11_car 30 = .ok (.iconst 0, 1) := by decide +kernel
theorem dX11_car_31 : decode cX11_car 31 = .ok (.ireturn, 1) := by decide +kernel
theorem dX11_car_32 : decode cX11_car 32 = .ok (.aload_n 0, 1) := by decide +kernel
theorem dX11_car_33 : decode cX11_car 33 = .ok (.getfield 41, 3) := by decide +kernel
theorem dX11_car_36 : decode cX11_car 36 = .ok (.getfield 145, 3) := by decide +kernel
theorem dX11_car_39 : decode cX11_car 39 = .ok (.iload_n 1, 1) := by decide +kernel
theorem dX11_car_40 : decode cX11_car 40 = .ok (.iload_n 2, 1) := by decide +kernel
theorem dX11_car_41 : decode cX11_car 41 = .ok (.iastore, 1) := by decide +kernel
theorem dX11_car_42 : decode cX11_car 42 = .ok (.aload_n 0, 1) := by decide +kernel
theorem dX11_car_43 : decode cX11_car 43 = .ok (.getfield 41, 3) := by decide +kernel
theorem dX11_car_46 : decode cX11_car 46 = .ok (.getfield 148, 3) := by decide +kernel
theorem dX11_car_49 : decode cX11_car 49 = .ok (.iload_n 1, 1) := by decide +kernel
theorem dX11_car_50 : decode cX11_car 50 = .ok (.iload_n 3, 1) := by decide +kernel
theorem dX11_car_51 : decode cX11_car 51 = .ok (.iastore, 1) := by decide +kernel
theorem dX11_car_52 : decode cX11_car 52 = .ok (.iconst 1, 1) := by decide +kernel
theorem dX11_car_53 : decode cX11_car 53 = .ok (.ireturn, 1) := by decide +kernel
def md_X11_car : List (Nat × Nat) := [(127, 0), (128, 0)]
set_option maxRecDepth 100000 in
set_option maxHeartbeats 4000000 in
theorem c_X11_car {l : Launch} {D : q_D} (τ : q_T) (σ : q_V) (a0 : Nat) (x1 : Int32) (x2 : Int32) (x3 : Int32) (hI : q_I τ σ) (tA0 : τ a0 = some (9, 1)) : q_Ci l D yX11_car cX11_car 4 (some .boolean) 1 22 τ σ [.ref a0, .int x1, .int x2, .int x3] (fun r σ1 => q_S md_X11_car τ σ σ1 ∧ (q_r r 0 1) ∧ ((r.toInt, fx_N σ1) = f_X11_car (fx_N σ) a0 x1.toInt x2.toInt x3.toInt) ∧ (r.toInt = 1 ↔ ((0 ≤ x1.toInt ∧ x1.toInt ≤ 11) ∧ (0 ≤ x2.toInt ∧ x2.toInt ≤ 1) ∧ (0 ≤ x3.toInt ∧ x3.toInt ≤ 9999)))) := by
  refine q_meti rfl (Nat.le_of_ble_eq_true rfl) (fun X hG hE => ?_)
  show q_O X 0 0 τ σ 0 [(0, .ref a0), (1, .int x1), (2, .int x2), (3, .int x3)] []
  have hS0 : q_S md_X11_car τ σ σ := q_S.rf hI
  obtain ⟨Fv, hF⟩ : ∃ z, fx_eq z (f_X11_car (fx_N σ) a0 x1.toInt x2.toInt x3.toInt) := ⟨_, fx_rf⟩
  have hF0 := hF
  unfold f_X11_car at hF
  refine q_iload_n (pc := 0) hG dX11_car_0 1 rfl ?_
  refine q_iconst (pc := 1) hG dX11_car_1 ki_0 ?_
  refine q_bipush (pc := 2) hG dX11_car_2 kb_11 ?_
  refine q_pS (pc := 4) [.int x1, .int 0, .int 11] [] hG (c_X11_isIn τ σ x1 0 11 hI) my_X11_isIn w238 w237 dX11_car_4 rfl rfl (Nat.le_of_ble_eq_true rfl) (by decide) (fun v4 p4 => ?_)
  have fq4 := p4.2.1
  rewrite [tl_0, tl_11] at fq4
  replace hF := fx_E hF fq4
  refine q_if_eq (pc := 7) hG 30 dX11_car_7 rfl ?_ ?_
  · intro c7
    replace hF := fx_eq1 hF rfl rfl c7
    refine q_iconst (pc := 30) hG dX11_car_30 ki_0 ?_
    have r_1 := q_zeq c7
    exact q_zrt hG hE dX11_car_31 (q_r.mono rl_0 (by decide)) ⟨hS0, (q_r.mono rl_0 (by decide)), (by rw [tl_0]; exact fx_end hF hF0), (by have o0 := p4.2.2; have o1 := c7; have o2 := r_1; have l3 := tl_0; have l4 := tl_1; have l5 := tl_11; have l6 := tl_9999; unfold q_r at o2; omega)⟩
  intro c7
  have g_2 := p4.2.2.mp (q_one p4.1 c7)
  have r_3 := q_rge (q_r_any x1) rl_0 g_2.1
  replace hF := fx_eq2 hF rfl rfl c7
  refine q_iload_n (pc := 10) hG dX11_car_10 2 rfl ?_
  refine q_iconst (pc := 11) hG dX11_car_11 ki_0 ?_
  refine q_iconst (pc := 12) hG dX11_car_12 ki_1 ?_
  refine q_pS (pc := 13) [.int x2, .int 0, .int 1] [] hG (c_X11_isIn τ σ x2 0 1 hI) my_X11_isIn w238 w237 dX11_car_13 rfl rfl (Nat.le_of_ble_eq_true rfl) (by decide) (fun v13 p13 => ?_)
  have fq13 := p13.2.1
  rewrite [tl_0, tl_1] at fq13
  replace hF := fx_E hF fq13
  refine q_if_eq (pc := 16) hG 30 dX11_car_16 rfl ?_ ?_
  · intro c16
    replace hF := fx_eq1 hF rfl rfl c16
    refine q_iconst (pc := 30) hG dX11_car_30 ki_0 ?_
    have r_4 := q_zeq c16
    have r_5 := q_neL (c := 1) p4.1 c7 (by decide)
    have r_6 := q_rle r_3 rl_11 g_2.2
    exact q_zrt hG hE dX11_car_31 (q_r.mono rl_0 (by decide)) ⟨hS0, (q_r.mono rl_0 (by decide)), (by rw [tl_0]; exact fx_end hF hF0), (by have o0 := p4.2.2; have o1 := c7; have o2 := g_2.1; have o3 := g_2.2; have o4 := p13.2.2; have o5 := c16; have o6 := r_4; have o7 := r_5; have o8 := r_6; have l9 := tl_0; have l10 := tl_1; have l11 := tl_11; have l12 := tl_9999; unfold q_r at o6 o7 o8; omega)⟩
  intro c16
  have g_7 := p13.2.2.mp (q_one p13.1 c16)
  have r_8 := q_rge (q_r_any x2) rl_0 g_7.1
  replace hF := fx_eq2 hF rfl rfl c16
  refine q_iload_n (pc := 19) hG dX11_car_19 3 rfl ?_
  refine q_iconst (pc := 20) hG dX11_car_20 ki_0 ?_
  refine q_sipush (pc := 21) hG dX11_car_21 ks_9999 ?_
  refine q_pS (pc := 24) [.int x3, .int 0, .int 9999] [] hG (c_X11_isIn τ σ x3 0 9999 hI) my_X11_isIn w238 w237 dX11_car_24 rfl rfl (Nat.le_of_ble_eq_true rfl) (by decide) (fun v24 p24 => ?_)
  have fq24 := p24.2.1
  rewrite [tl_0, tl_9999] at fq24
  replace hF := fx_E hF fq24
  refine q_if_ne (pc := 27) hG 32 dX11_car_27 rfl ?_ ?_
  · intro c27
    have g_9 := p24.2.2.mp (q_one p24.1 c27)
    have r_10 := q_rge (q_r_any x3) rl_0 g_9.1
    replace hF := fx_eq2 hF rfl rfl c27
    refine q_aload_n (pc := 32) hG dX11_car_32 0 rfl ?_
    refine q_getR (pc := 33) (k2 := 6) (n2 := 1) hG fl_X11_41 dX11_car_33 hI tA0 ff_9_5 (fun b33 f33 T33 => ?_)
    replace hF := fx_R hF f33 rfl
    refine q_getR (pc := 36) (k2 := 127) (n2 := 12) hG fl_X11_145 dX11_car_36 hI T33 ff_6_13 (fun b36 f36 T36 => ?_)
    replace hF := fx_R hF f36 rfl
    refine q_iload_n (pc := 39) hG dX11_car_39 1 rfl ?_
    refine q_iload_n (pc := 40) hG dX11_car_40 2 rfl ?_
    have r_11 := q_rle r_3 rl_11 g_2.2
    have r_12 := q_rle r_8 rl_1 g_7.2
    refine q_iast (pc := 41) hG dX11_car_41 hS0 ai_127 T36 (q_ix r_11 (by decide)) r_12 (by decide) rfl (fun s41 u41 w41 => ?_)
    replace hF := fx_P hF u41 rfl rfl
    have m41 : s41 b36 x1.toInt.toNat = .int x2 := by rw [u41]; exact q_up_same
    refine q_aload_n (pc := 42) hG dX11_car_42 0 rfl ?_
    refine q_getV (pc := 43) (v := .ref b33) hG fl_X11_41 dX11_car_43 tA0 (w41.same tA0 rfl f33) ?_
    refine q_getR (pc := 46) (k2 := 128) (n2 := 12) hG fl_X11_148 dX11_car_46 w41.1 T33 ff_6_14 (fun b46 f46 T46 => ?_)
    replace hF := fx_R hF f46 rfl
    have f_13 := (w41.2 _ _ _ _ T33 rfl).symm.trans f46
    refine q_iload_n (pc := 49) hG dX11_car_49 1 rfl ?_
    refine q_iload_n (pc := 50) hG dX11_car_50 3 rfl ?_
    have r_14 := q_rle r_10 rl_9999 g_9.2
    refine q_iast (pc := 51) hG dX11_car_51 w41 ai_128 T46 (q_ix r_11 (by decide)) r_14 (by decide) rfl (fun s51 u51 w51 => ?_)
    replace hF := fx_P hF u51 rfl rfl
    have m51 : s51 b46 x1.toInt.toNat = .int x3 := by rw [u51]; exact q_up_same
    refine q_iconst (pc := 52) hG dX11_car_52 ki_1 ?_
    have r_15 := q_neL (c := 1) p13.1 c16 (by decide)
    have r_16 := q_neL (c := 1) p24.1 c27 (by decide)
    have r_17 := q_neL (c := 1) p4.1 c7 (by decide)
    exact q_zrt hG hE dX11_car_53 (q_r.mono rl_1 (by decide)) ⟨w51, (q_r.mono rl_1 (by decide)), (by rw [tl_1]; exact fx_end hF hF0), (by have o0 := p4.2.2; have o1 := c7; have o2 := g_2.1; have o3 := g_2.2; have o4 := p13.2.2; have o5 := c16; have o6 := g_7.1; have o7 := g_7.2; have o8 := p24.2.2; have o9 := c27; have o10 := g_9.1; have o11 := g_9.2; have o12 := r_15; have o13 := r_16; have o14 := r_17; have o15 := r_11; have o16 := r_12; have o17 := r_14; have l18 := tl_0; have l19 := tl_1; have l20 := tl_11; have l21 := tl_9999; unfold q_r at o12 o13 o14 o15 o16 o17; omega)⟩
  intro c27
  replace hF := fx_eq1 hF rfl rfl c27
  refine q_iconst (pc := 30) hG dX11_car_30 ki_0 ?_
  have r_18 := q_neL (c := 1) p13.1 c16 (by decide)
  have r_19 := q_zeq c27
  have r_20 := q_neL (c := 1) p4.1 c7 (by decide)
  have r_21 := q_rle r_3 rl_11 g_2.2
  have r_22 := q_rle r_8 rl_1 g_7.2
  exact q_zrt hG hE dX11_car_31 (q_r.mono rl_0 (by decide)) ⟨hS0, (q_r.mono rl_0 (by decide)), (by rw [tl_0]; exact fx_end hF hF0), (by have o0 := p4.2.2; have o1 := c7; have o2 := g_2.1; have o3 := g_2.2; have o4 := p13.2.2; have o5 := c16; have o6 := g_7.1; have o7 := g_7.2; have o8 := p24.2.2; have o9 := c27; have o10 := r_18; have o11 := r_19; have o12 := r_20; have o13 := r_21; have o14 := r_22; have l15 := tl_0; have l16 := tl_1; have l17 := tl_11; have l18 := tl_9999; unfold q_r at o10 o11 o12 o13 o14; omega)⟩
theorem dX11_cones_0 : decode cX11_cones 0 = .ok (.iload_n 1, 1) := by decide +kernel
theorem dX11_cones_1 : decode cX11_cones 1 = .ok (.iconst 0, 1) := by decide +kernel
theorem dX11_cones_2 : decode cX11_cones 2 = .ok (.bipush 64, 2) := by decide +kernel
theorem dX11_cones_4 : decode cX11_cones 4 = .ok (.invokestatic 90, 3) := by decide +kernel
theorem dX11_cones_7 : decode cX11_cones 7 = .ok (.ifCond .ne 5, 3) := by decide +kernel
theorem dX11_cones_10 : decode cX11_cones 10 = .ok (.iconst 0, 1) := by decide +kernel
theorem dX11_cones_11 : decode cX11_cones 11 = .ok (.ireturn, 1) := by decide +kernel
theorem dX11_cones_12 : decode cX11_cones 12 = .ok (.aload_n 0, 1) := by decide +kernel
theorem dX11_cones_13 : decode cX11_cones 13 = .ok (.getfield 41, 3) := by decide +kernel
theorem dX11_cones_16 : decode cX11_cones 16 = .ok (.iload_n 1, 1) := by decide +kernel
theorem dX11_cones_17 : decode cX11_cones 17 = .ok (.putfield 151, 3) := by decide +kernel
theorem dX11_cones_20 : decode cX11_cones 20 = .ok (.iconst 1, 1) := by decide +kernel
theorem dX11_cones_21 : decode cX11_cones 21 = .ok (.ireturn, 1) := by decide +kernel
def md_X11_cones : List (Nat × Nat) := [(6, 15)]
set_option maxRecDepth 100000 in
set_option maxHeartbeats 4000000 in
theorem c_X11_cones {l : Launch} {D : q_D} (τ : q_T) (σ : q_V) (a0 : Nat) (x1 : Int32) (hI : q_I τ σ) (tA0 : τ a0 = some (9, 1)) : q_Ci l D yX11_cones cX11_cones 2 (some .boolean) 1 22 τ σ [.ref a0, .int x1] (fun r σ1 => q_S md_X11_cones τ σ σ1 ∧ (q_r r 0 1) ∧ ((r.toInt, fx_N σ1) = f_X11_cones (fx_N σ) a0 x1.toInt) ∧ (r.toInt = 1 ↔ ((0 ≤ x1.toInt ∧ x1.toInt ≤ 64)))) := by
  refine q_meti rfl (Nat.le_of_ble_eq_true rfl) (fun X hG hE => ?_)
  show q_O X 0 0 τ σ 0 [(0, .ref a0), (1, .int x1)] []
  have hS0 : q_S md_X11_cones τ σ σ := q_S.rf hI
  obtain ⟨Fv, hF⟩ : ∃ z, fx_eq z (f_X11_cones (fx_N σ) a0 x1.toInt) := ⟨_, fx_rf⟩
  have hF0 := hF
  unfold f_X11_cones at hF
  refine q_iload_n (pc := 0) hG dX11_cones_0 1 rfl ?_
  refine q_iconst (pc := 1) hG dX11_cones_1 ki_0 ?_
  refine q_bipush (pc := 2) hG dX11_cones_2 kb_64 ?_
  refine q_pS (pc := 4) [.int x1, .int 0, .int 64] [] hG (c_X11_isIn τ σ x1 0 64 hI) my_X11_isIn w238 w237 dX11_cones_4 rfl rfl (Nat.le_of_ble_eq_true rfl) (by decide) (fun v4 p4 => ?_)
  have fq4 := p4.2.1
  rewrite [tl_0, tl_64] at fq4
  replace hF := fx_E hF fq4
  refine q_if_ne (pc := 7) hG 12 dX11_cones_7 rfl ?_ ?_
  · intro c7
    have g_1 := p4.2.2.mp (q_one p4.1 c7)
    have r_2 := q_rge (q_r_any x1) rl_0 g_1.1
    replace hF := fx_eq2 hF rfl rfl c7
    refine q_aload_n (pc := 12) hG dX11_cones_12 0 rfl ?_
    refine q_getR (pc := 13) (k2 := 6) (n2 := 1) hG fl_X11_41 dX11_cones_13 hI tA0 ff_9_5 (fun b13 f13 T13 => ?_)
    replace hF := fx_R hF f13 rfl
    refine q_iload_n (pc := 16) hG dX11_cones_16 1 rfl ?_
    have r_3 := q_rle r_2 rl_64 g_1.2
    refine q_putI (pc := 17) hG fl_X11_151 dX11_cones_17 hS0 T13 ff_6_15 r_3 (by decide) rfl (fun s17 u17 w17 => ?_)
    replace hF := fx_P hF u17 rfl rfl
    have m17 : s17 b13 15 = .int x1 := by rw [u17]; exact q_up_same
    refine q_iconst (pc := 20) hG dX11_cones_20 ki_1 ?_
    have r_4 := q_neL (c := 1) p4.1 c7 (by decide)
    exact q_zrt hG hE dX11_cones_21 (q_r.mono rl_1 (by decide)) ⟨w17, (q_r.mono rl_1 (by decide)), (by rw [tl_1]; exact fx_end hF hF0), (by have o0 := p4.2.2; have o1 := c7; have o2 := g_1.1; have o3 := g_1.2; have o4 := r_4; have o5 := r_3; have l6 := tl_0; have l7 := tl_1; have l8 := tl_64; unfold q_r at o4 o5; omega)⟩
  intro c7
  replace hF := fx_eq1 hF rfl rfl c7
  refine q_iconst (pc := 10) hG dX11_cones_10 ki_0 ?_
  have r_5 := q_zeq c7
  exact q_zrt hG hE dX11_cones_11 (q_r.mono rl_0 (by decide)) ⟨hS0, (q_r.mono rl_0 (by decide)), (by rw [tl_0]; exact fx_end hF hF0), (by have o0 := p4.2.2; have o1 := c7; have o2 := r_5; have l3 := tl_0; have l4 := tl_64; unfold q_r at o2; omega)⟩
theorem dX11_dew_0 : decode cX11_dew 0 = .ok (.iload_n 1, 1) := by decide +kernel
theorem dX11_dew_1 : decode cX11_dew 1 = .ok (.iconst (-1), 1) := by decide +kernel
theorem dX11_dew_2 : decode cX11_dew 2 = .ok (.sipush 9999, 3) := by decide +kernel
theorem dX11_dew_5 : decode cX11_dew 5 = .ok (.invokestatic 90, 3) := by decide +kernel
theorem dX11_dew_8 : decode cX11_dew 8 = .ok (.ifCond .ne 5, 3) := by decide +kernel
theorem dX11_dew_11 : decode cX11_dew 11 = .ok (.iconst 0, 1) := by decide +kernel
theorem dX11_dew_12 : decode cX11_dew 12 = .ok (.ireturn, 1) := by decide +kernel
theorem dX11_dew_13 : decode cX11_dew 13 = .ok (.aload_n 0, 1) := by decide +kernel
theorem dX11_dew_14 : decode cX11_dew 14 = .ok (.getfield 41, 3) := by decide +kernel
theorem dX11_dew_17 : decode cX11_dew 17 = .ok (.iload_n 1, 1) := by decide +kernel
theorem dX11_dew_18 : decode cX11_dew 18 = .ok (.putfield 154, 3) := by decide +kernel
theorem dX11_dew_21 : decode cX11_dew 21 = .ok (.iconst 1, 1) := by decide +kernel
theorem dX11_dew_22 : decode cX11_dew 22 = .ok (.ireturn, 1) := by decide +kernel
def md_X11_dew : List (Nat × Nat) := [(6, 16)]
set_option maxRecDepth 100000 in
set_option maxHeartbeats 4000000 in
theorem c_X11_dew {l : Launch} {D : q_D} (τ : q_T) (σ : q_V) (a0 : Nat) (x1 : Int32) (hI : q_I τ σ) (tA0 : τ a0 = some (9, 1)) : q_Ci l D yX11_dew cX11_dew 2 (some .boolean) 1 22 τ σ [.ref a0, .int x1] (fun r σ1 => q_S md_X11_dew τ σ σ1 ∧ (q_r r 0 1) ∧ ((r.toInt, fx_N σ1) = f_X11_dew (fx_N σ) a0 x1.toInt) ∧ (r.toInt = 1 ↔ (((-1) ≤ x1.toInt ∧ x1.toInt ≤ 9999)))) := by
  refine q_meti rfl (Nat.le_of_ble_eq_true rfl) (fun X hG hE => ?_)
  show q_O X 0 0 τ σ 0 [(0, .ref a0), (1, .int x1)] []
  have hS0 : q_S md_X11_dew τ σ σ := q_S.rf hI
  obtain ⟨Fv, hF⟩ : ∃ z, fx_eq z (f_X11_dew (fx_N σ) a0 x1.toInt) := ⟨_, fx_rf⟩
  have hF0 := hF
  unfold f_X11_dew at hF
  refine q_iload_n (pc := 0) hG dX11_dew_0 1 rfl ?_
  refine q_iconst (pc := 1) hG dX11_dew_1 ki_m1 ?_
  refine q_sipush (pc := 2) hG dX11_dew_2 ks_9999 ?_
  refine q_pS (pc := 5) [.int x1, .int (-1), .int 9999] [] hG (c_X11_isIn τ σ x1 (-1) 9999 hI) my_X11_isIn w238 w237 dX11_dew_5 rfl rfl (Nat.le_of_ble_eq_true rfl) (by decide) (fun v5 p5 => ?_)
  have fq5 := p5.2.1
  rewrite [tl_m1, tl_9999] at fq5
  replace hF := fx_E hF fq5
  refine q_if_ne (pc := 8) hG 13 dX11_dew_8 rfl ?_ ?_
  · intro c8
    have g_1 := p5.2.2.mp (q_one p5.1 c8)
    have r_2 := q_rge (q_r_any x1) rl_m1 g_1.1
    replace hF := fx_eq2 hF rfl rfl c8
    refine q_aload_n (pc := 13) hG dX11_dew_13 0 rfl ?_
    refine q_getR (pc := 14) (k2 := 6) (n2 := 1) hG fl_X11_41 dX11_dew_14 hI tA0 ff_9_5 (fun b14 f14 T14 => ?_)
    replace hF := fx_R hF f14 rfl
    refine q_iload_n (pc := 17) hG dX11_dew_17 1 rfl ?_
    have r_3 := q_rle r_2 rl_9999 g_1.2
    refine q_putI (pc := 18) hG fl_X11_154 dX11_dew_18 hS0 T14 ff_6_16 r_3 (by decide) rfl (fun s18 u18 w18 => ?_)
    replace hF := fx_P hF u18 rfl rfl
    have m18 : s18 b14 16 = .int x1 := by rw [u18]; exact q_up_same
    refine q_iconst (pc := 21) hG dX11_dew_21 ki_1 ?_
    have r_4 := q_neL (c := 1) p5.1 c8 (by decide)
    exact q_zrt hG hE dX11_dew_22 (q_r.mono rl_1 (by decide)) ⟨w18, (q_r.mono rl_1 (by decide)), (by rw [tl_1]; exact fx_end hF hF0), (by have o0 := p5.2.2; have o1 := c8; have o2 := g_1.1; have o3 := g_1.2; have o4 := r_4; have o5 := r_3; have l6 := tl_m1; have l7 := tl_1; have l8 := tl_9999; unfold q_r at o4 o5; omega)⟩
  intro c8
  replace hF := fx_eq1 hF rfl rfl c8
  refine q_iconst (pc := 11) hG dX11_dew_11 ki_0 ?_
  have r_5 := q_zeq c8
  exact q_zrt hG hE dX11_dew_12 (q_r.mono rl_0 (by decide)) ⟨hS0, (q_r.mono rl_0 (by decide)), (by rw [tl_0]; exact fx_end hF hF0), (by have o0 := p5.2.2; have o1 := c8; have o2 := r_5; have l3 := tl_m1; have l4 := tl_0; have l5 := tl_9999; unfold q_r at o2; omega)⟩
theorem dX11_burns_0 : decode cX11_burns 0 = .ok (.aload_n 0, 1) := by decide +kernel
theorem dX11_burns_1 : decode cX11_burns 1 = .ok (.getfield 41, 3) := by decide +kernel
theorem dX11_burns_4 : decode cX11_burns 4 = .ok (.iload_n 1, 1) := by decide +kernel
theorem dX11_burns_5 : decode cX11_burns 5 = .ok (.iload_n 2, 1) := by decide +kernel
theorem dX11_burns_6 : decode cX11_burns 6 = .ok (.invokevirtual 113, 3) := by decide +kernel
theorem dX11_burns_9 : decode cX11_burns 9 = .ok (.ifCond .ne 5, 3) := by decide +kernel
theorem dX11_burns_12 : decode cX11_burns 12 = .ok (.iconst (-1), 1) := by decide +kernel
theorem dX11_burns_13 : decode cX11_burns 13 = .ok (.ireturn, 1) := by decide +kernel
theorem dX11_burns_14 : decode cX11_burns 14 = .ok (.iconst 0, 1) := by decide +kernel
theorem dX11_burns_15 : decode cX11_burns 15 = .ok (.istore_n 3, 1) := by decide +kernel
theorem dX11_burns_16 : decode cX11_burns 16 = .ok (.iload_n 1, 1) := by decide +kernel
theorem dX11_burns_17 : decode cX11_burns 17 = .ok (.istore 4, 2) := by decide +kernel
theorem dX11_burns_19 : decode cX11_burns 19 = .ok (.iload 4, 2) := by decide +kernel
theorem dX11_burns_21 : decode cX11_burns 21 = .ok (.iload_n 2, 1) := by decide +kernel
theorem dX11_burns_22 : decode cX11_burns 22 = .ok (.if_icmp .gt 33, 3) := by decide +kernel
theorem dX11_burns_25 : decode cX11_burns 25 = .ok (.aload_n 0, 1) := by decide +kernel
theorem dX11_burns_26 : decode cX11_burns 26 = .ok (.getfield 41, 3) := by decide +kernel
theorem dX11_burns_29 : decode cX11_burns 29 = .ok (.iload 4, 2) := by decide +kernel
theorem dX11_burns_31 : decode cX11_burns 31 = .ok (.invokevirtual 157, 3) := by decide +kernel
theorem dX11_burns_34 : decode cX11_burns 34 = .ok (.ifCond .eq 6, 3) := by decide +kernel
theorem dX11_burns_37 : decode cX11_burns 37 = .ok (.iinc 3 1, 3) := by decide +kernel
theorem dX11_burns_40 : decode cX11_burns 40 = .ok (.aload_n 0, 1) := by decide +kernel
theorem dX11_burns_41 : decode cX11_burns 41 = .ok (.getfield 41, 3) := by decide +kernel
theorem dX11_burns_44 : decode cX11_burns 44 = .ok (.iload 4, 2) := by decide +kernel
theorem dX11_burns_46 : decode cX11_burns 46 = .ok (.invokevirtual 135, 3) := by decide +kernel
theorem dX11_burns_49 : decode cX11_burns 49 = .ok (.iinc 4 1, 3) := by decide +kernel
theorem dX11_burns_52 : decode cX11_burns 52 = .ok (.goto (-33), 3) := by decide +kernel
theorem dX11_burns_55 : decode cX11_burns 55 = .ok (.iload_n 3, 1) := by decide +kernel
theorem dX11_burns_56 : decode cX11_burns 56 = .ok (.ireturn, 1) := by decide +kernel
def md_X11_burns : List (Nat × Nat) := [(120, 0), (121, 0), (122, 0), (123, 0), (124, 0)]
set_option maxRecDepth 100000 in
set_option maxHeartbeats 4000000 in
theorem c_X11_burns {l : Launch} {D : q_D} (τ : q_T) (σ : q_V) (a0 : Nat) (x1 : Int32) (x2 : Int32) (hI : q_I τ σ) (tA0 : τ a0 = some (9, 1)) : q_Ci l D yX11_burns cX11_burns 5 (some .int) 2 43 τ σ [.ref a0, .int x1, .int x2] (fun r σ1 => q_S md_X11_burns τ σ σ1 ∧ (q_r r (-2147483648) 2147483647) ∧ ((r.toInt, fx_N σ1) = f_X11_burns (fx_N σ) a0 x1.toInt x2.toInt)) := by
  refine q_meti rfl (Nat.le_of_ble_eq_true rfl) (fun X hG hE => ?_)
  show q_O X 0 0 τ σ 0 [(0, .ref a0), (1, .int x1), (2, .int x2)] []
  have hS0 : q_S md_X11_burns τ σ σ := q_S.rf hI
  obtain ⟨Fv, hF⟩ : ∃ z, fx_eq z (f_X11_burns (fx_N σ) a0 x1.toInt x2.toInt) := ⟨_, fx_rf⟩
  have hF0 := hF
  unfold f_X11_burns at hF
  refine q_aload_n (pc := 0) hG dX11_burns_0 0 rfl ?_
  refine q_getR (pc := 1) (k2 := 6) (n2 := 1) hG fl_X11_41 dX11_burns_1 hI tA0 ff_9_5 (fun b1 f1 T1 => ?_)
  replace hF := fx_R hF f1 rfl
  refine q_iload_n (pc := 4) hG dX11_burns_4 1 rfl ?_
  refine q_iload_n (pc := 5) hG dX11_burns_5 2 rfl ?_
  refine q_pV (pc := 6) [.int x1, .int x2] [] hG (c_X7_isStretch τ σ b1 x1 x2 hI T1) my_X7_isStretch mv_X7_isStretch w285 dX11_burns_6 T1 (by decide) rfl rfl (Nat.le_of_ble_eq_true rfl) (by decide) (fun v6 p6 => ?_)
  replace hF := fx_E hF p6.2.1
  refine q_if_ne (pc := 9) hG 14 dX11_burns_9 rfl ?_ ?_
  · intro c9
    have g_1 := p6.2.2.1 (q_one p6.1 c9)
    have r_2 := q_rge (q_r_any x1) rl_0 (show (0 : Int32).toInt ≤ _ from g_1.1.1)
    have r_3 := q_rge (q_r_any x2) rl_0 (show (0 : Int32).toInt ≤ _ from g_1.2.1)
    replace hF := fx_eq2 hF rfl rfl c9
    refine q_iconst (pc := 14) hG dX11_burns_14 ki_0 ?_
    refine q_istore_n (pc := 15) [(3, .int 0), (0, .ref a0), (1, .int x1), (2, .int x2)] hG dX11_burns_15 (by decide) rfl ?_
    refine q_iload_n (pc := 16) hG dX11_burns_16 2 rfl ?_
    refine q_istore (pc := 17) [(4, .int x1), (3, .int 0), (0, .ref a0), (1, .int x1), (2, .int x2)] hG dX11_burns_17 (by decide) rfl ?_
    have J19 : ∀ (n19 : Nat) (p19_3 : Int32) (p19_4 : Int32) (σ19 : q_V), (q_r p19_4 0 64) → (q_S md_X11_burns τ σ σ19) → (fx_eq Fv (kL_X11_burns_19 x2.toInt b1 n19 p19_3.toInt p19_4.toInt (fx_N σ19))) → ((64 - p19_4.toInt).toNat < n19) → q_O X 0 0 τ σ19 19 [(0, .ref a0), (2, .int x2), (3, .int p19_3), (4, .int p19_4)] [] := by
      intro n19
      induction n19 with
      | zero => intro p19_3 p19_4 σ19 r19_4 hS19 hF hm19; exact absurd hm19 (Nat.not_lt_zero _)
      | succ n19 ih19 =>
        intro p19_3 p19_4 σ19 r19_4 hS19 hF hm19
        replace hF := (show fx_eq Fv (kB_X11_burns_19 (kL_X11_burns_19 x2.toInt b1 n19) x2.toInt b1 p19_3.toInt p19_4.toInt (fx_N σ19)) from hF)
        unfold kB_X11_burns_19 at hF
        refine q_iload (pc := 19) hG dX11_burns_19 3 rfl ?_
        refine q_iload_n (pc := 21) hG dX11_burns_21 1 rfl ?_
        refine q_icmp_gt (pc := 22) hG 55 dX11_burns_22 rfl ?_ ?_
        · intro c22
          have r_4 := q_rle r_3 rl_63 (show _ ≤ (63 : Int32).toInt from g_1.2.2)
          replace hF := fx_lt1 hF rfl rfl c22
          refine q_iload_n (pc := 55) hG dX11_burns_55 2 rfl ?_
          exact q_irt hG hE dX11_burns_56 ⟨hS19, (q_r_any p19_3), (fx_end hF hF0)⟩
        intro c22
        have r_5 := q_rle r_3 rl_63 (show _ ≤ (63 : Int32).toInt from g_1.2.2)
        replace hF := fx_lt2 hF rfl rfl c22
        refine q_aload_n (pc := 25) hG dX11_burns_25 0 rfl ?_
        refine q_getV (pc := 26) (v := .ref b1) hG fl_X11_41 dX11_burns_26 tA0 (hS19.same tA0 rfl f1) ?_
        refine q_iload (pc := 29) hG dX11_burns_29 3 rfl ?_
        have r_6 := q_rle r19_4 r_5 c22
        refine q_pV (pc := 31) [.int p19_4] [] hG (c_X7_isPainted τ σ19 b1 p19_4 hS19.1 T1 r_6) my_X7_isPainted mv_X7_isPainted w392 dX11_burns_31 T1 (by decide) rfl rfl (Nat.le_of_ble_eq_true rfl) (by decide) (fun v31 p31 => ?_)
        replace hF := fx_E hF p31.2
        have J40 : ∀ (p40_3 : Int32), (fx_eq Fv (kJ_X11_burns_40 (fx_N σ19) b1 p19_4.toInt (kL_X11_burns_19 x2.toInt b1 n19) p40_3.toInt)) → q_O X 0 0 τ σ19 40 [(0, .ref a0), (2, .int x2), (3, .int p40_3), (4, .int p19_4)] [] := by
          intro p40_3 hF
          unfold kJ_X11_burns_40 at hF
          refine q_aload_n (pc := 40) hG dX11_burns_40 0 rfl ?_
          refine q_getV (pc := 41) (v := .ref b1) hG fl_X11_41 dX11_burns_41 tA0 (hS19.same tA0 rfl f1) ?_
          refine q_iload (pc := 44) hG dX11_burns_44 3 rfl ?_
          refine q_cVv (pc := 46) [.int p19_4] [] hG (c_X7_makeBare τ σ19 b1 p19_4 hS19.1 T1 r_6) my_X7_makeBare mv_X7_makeBare w375 dX11_burns_46 T1 (by decide) rfl rfl (Nat.le_of_ble_eq_true rfl) (by decide) (fun s46 p46 => ?_)
          have w46 := hS19.trans p46.1 rfl
          replace hF := fx_S hF p46.2
          obtain ⟨v49, e49⟩ : ∃ z : Int32, z = p19_4 + Int32.ofInt 1 := ⟨_, rfl⟩
          have h49 := q_incN (lo := 1) (hi := 64) r_6 (by decide) (by decide) e49
          replace hF := fx_add hF rfl rfl h49.1
          refine q_iinc (pc := 49) [(4, .int v49), (0, .ref a0), (2, .int x2), (3, .int p40_3)] hG dX11_burns_49 3 rfl e49 (by decide) rfl ?_
          refine q_goto (pc := 52) 19 hG dX11_burns_52 rfl ?_
          refine q_lv [1, 2, 3, 0] rfl ?_
          exact ih19 p40_3 v49 s46 (q_r.mono h49.2 (by decide)) w46 hF (q_measU hm19 (by have o0 := c22; have o1 := h49.1; have o2 := (show (0 : Int32).toInt ≤ _ from g_1.2.1); have o3 := (show _ ≤ (63 : Int32).toInt from g_1.2.2); have o4 := r_6; have o5 := h49.2; have o6 := r_5; have l7 := tl_0; have l8 := tl_63; unfold q_r at o4 o5 o6; omega) (h49.2).2)
        refine q_if_eq (pc := 34) hG 40 dX11_burns_34 rfl ?_ ?_
        · intro c34
          replace hF := fx_eq1 hF rfl rfl c34
          refine q_lv [0, 1, 2, 3] rfl ?_
          exact J40 p19_3 hF
        intro c34
        replace hF := fx_eq2 hF rfl rfl c34
        obtain ⟨v37, e37⟩ : ∃ z : Int32, z = p19_3 + Int32.ofInt 1 := ⟨_, rfl⟩
        replace hF := fx_inc hF rfl e37
        refine q_iinc (pc := 37) [(3, .int v37), (0, .ref a0), (2, .int x2), (4, .int p19_4)] hG dX11_burns_37 2 rfl e37 (by decide) rfl ?_
        refine q_lv [1, 2, 0, 3] rfl ?_
        exact J40 v37 hF
    refine q_lv [2, 4, 1, 0] rfl ?_
    have r_7 := q_rle r_2 rl_63 (show _ ≤ (63 : Int32).toInt from g_1.1.2)
    exact J19 ((64 - x1.toInt).toNat + 1) 0 x1 σ (q_r.mono r_7 (by decide)) hS0 (by rw [tl_0]; exact hF) (Nat.lt_succ_self _)
  intro c9
  replace hF := fx_eq1 hF rfl rfl c9
  refine q_iconst (pc := 12) hG dX11_burns_12 ki_m1 ?_
  exact q_irt hG hE dX11_burns_13 ⟨hS0, (q_r.mono rl_m1 (by decide)), (by rw [tl_m1]; exact fx_end hF hF0)⟩
theorem dX11_minutes_0 : decode cX11_minutes 0 = .ok (.iload_n 1, 1) := by decide +kernel
theorem dX11_minutes_1 : decode cX11_minutes 1 = .ok (.iconst 1, 1) := by decide +kernel
theorem dX11_minutes_2 : decode cX11_minutes 2 = .ok (.sipush 600, 3) := by decide +kernel
theorem dX11_minutes_5 : decode cX11_minutes 5 = .ok (.invokestatic 90, 3) := by decide +kernel
theorem dX11_minutes_8 : decode cX11_minutes 8 = .ok (.ifCond .ne 5, 3) := by decide +kernel
theorem dX11_minutes_11 : decode cX11_minutes 11 = .ok (.iconst (-1), 1) := by decide +kernel
theorem dX11_minutes_12 : decode cX11_minutes 12 = .ok (.ireturn, 1) := by decide +kernel
theorem dX11_minutes_13 : decode cX11_minutes 13 = .ok (.aload_n 0, 1) := by decide +kernel
theorem dX11_minutes_14 : decode cX11_minutes 14 = .ok (.getfield 41, 3) := by decide +kernel
theorem dX11_minutes_17 : decode cX11_minutes 17 = .ok (.aload_n 0, 1) := by decide +kernel
theorem dX11_minutes_18 : decode cX11_minutes 18 = .ok (.getfield 34, 3) := by decide +kernel
theorem dX11_minutes_21 : decode cX11_minutes 21 = .ok (.iload_n 1, 1) := by decide +kernel
theorem dX11_minutes_22 : decode cX11_minutes 22 = .ok (.invokestatic 161, 3) := by decide +kernel
theorem dX11_minutes_25 : decode cX11_minutes 25 = .ok (.ireturn, 1) := by decide +kernel
def md_X11_minutes : List (Nat × Nat) := [(3, 9), (3, 10), (3, 11), (3, 12), (3, 13), (3, 14), (3, 15), (6, 17), (117, 0), (120, 0), (121, 0), (122, 0), (123, 0), (124, 0), (125, 0), (210, 0)]
set_option maxRecDepth 100000 in
set_option maxHeartbeats 4000000 in
theorem c_X11_minutes {l : Launch} {D : q_D} (τ : q_T) (σ : q_V) (a0 : Nat) (x1 : Int32) (hI : q_I τ σ) (tA0 : τ a0 = some (9, 1)) : q_Ci l D yX11_minutes cX11_minutes 2 (some .int) 7 167 τ σ [.ref a0, .int x1] (fun r σ1 => q_S md_X11_minutes τ σ σ1 ∧ (q_r r (-2147483648) 2147483647) ∧ ((r.toInt, fx_N σ1) = f_X11_minutes (fx_N σ) a0 x1.toInt)) := by
  refine q_meti rfl (Nat.le_of_ble_eq_true rfl) (fun X hG hE => ?_)
  show q_O X 0 0 τ σ 0 [(0, .ref a0), (1, .int x1)] []
  have hS0 : q_S md_X11_minutes τ σ σ := q_S.rf hI
  obtain ⟨Fv, hF⟩ : ∃ z, fx_eq z (f_X11_minutes (fx_N σ) a0 x1.toInt) := ⟨_, fx_rf⟩
  have hF0 := hF
  unfold f_X11_minutes at hF
  refine q_iload_n (pc := 0) hG dX11_minutes_0 1 rfl ?_
  refine q_iconst (pc := 1) hG dX11_minutes_1 ki_1 ?_
  refine q_sipush (pc := 2) hG dX11_minutes_2 ks_600 ?_
  refine q_pS (pc := 5) [.int x1, .int 1, .int 600] [] hG (c_X11_isIn τ σ x1 1 600 hI) my_X11_isIn w238 w237 dX11_minutes_5 rfl rfl (Nat.le_of_ble_eq_true rfl) (by decide) (fun v5 p5 => ?_)
  have fq5 := p5.2.1
  rewrite [tl_1, tl_600] at fq5
  replace hF := fx_E hF fq5
  refine q_if_ne (pc := 8) hG 13 dX11_minutes_8 rfl ?_ ?_
  · intro c8
    have g_1 := p5.2.2.mp (q_one p5.1 c8)
    have r_2 := q_rge (q_r_any x1) rl_1 g_1.1
    replace hF := fx_eq2 hF rfl rfl c8
    refine q_aload_n (pc := 13) hG dX11_minutes_13 0 rfl ?_
    refine q_getR (pc := 14) (k2 := 6) (n2 := 1) hG fl_X11_41 dX11_minutes_14 hI tA0 ff_9_5 (fun b14 f14 T14 => ?_)
    replace hF := fx_R hF f14 rfl
    refine q_aload_n (pc := 17) hG dX11_minutes_17 0 rfl ?_
    refine q_getR (pc := 18) (k2 := 3) (n2 := 1) hG fl_X11_34 dX11_minutes_18 hI tA0 ff_9_4 (fun b18 f18 T18 => ?_)
    replace hF := fx_R hF f18 rfl
    refine q_iload_n (pc := 21) hG dX11_minutes_21 1 rfl ?_
    have r_3 := q_rle r_2 rl_600 g_1.2
    refine q_cSi (pc := 22) [.ref b14, .ref b18, .int x1] [] hG (c_X5_pass τ σ b14 b18 x1 hI T14 T18 r_3) my_X5_pass w401 w400 dX11_minutes_22 rfl rfl (Nat.le_of_ble_eq_true rfl) (by decide) (fun v22 s22 p22 => ?_)
    have w22 := hS0.trans p22.1 rfl
    replace hF := fx_C hF p22.2.2
    exact q_irt hG hE dX11_minutes_25 ⟨w22, p22.2.1, (fx_end hF hF0)⟩
  intro c8
  replace hF := fx_eq1 hF rfl rfl c8
  refine q_iconst (pc := 11) hG dX11_minutes_11 ki_m1 ?_
  exact q_irt hG hE dX11_minutes_12 ⟨hS0, (q_r.mono rl_m1 (by decide)), (by rw [tl_m1]; exact fx_end hF hF0)⟩
theorem dX11_tried_0 : decode cX11_tried 0 = .ok (.iload_n 1, 1) := by decide +kernel
theorem dX11_tried_1 : decode cX11_tried 1 = .ok (.iconst 1, 1) := by decide +kernel
theorem dX11_tried_2 : decode cX11_tried 2 = .ok (.sipush 600, 3) := by decide +kernel
theorem dX11_tried_5 : decode cX11_tried 5 = .ok (.invokestatic 90, 3) := by decide +kernel
theorem dX11_tried_8 : decode cX11_tried 8 = .ok (.ifCond .eq 13, 3) := by decide +kernel
theorem dX11_tried_11 : decode cX11_tried 11 = .ok (.iload_n 2, 1) := by decide +kernel
theorem dX11_tried_12 : decode cX11_tried 12 = .ok (.iconst 0, 1) := by decide +kernel
theorem dX11_tried_13 : decode cX11_tried 13 = .ok (.bipush 6, 2) := by decide +kernel
theorem dX11_tried_15 : decode cX11_tried 15 = .ok (.invokestatic 90, 3) := by decide +kernel
theorem dX11_tried_18 : decode cX11_tried 18 = .ok (.ifCond .ne 5, 3) := by decide +kernel
theorem dX11_tried_21 : decode cX11_tried 21 = .ok (.iconst (-1), 1) := by decide +kernel
theorem dX11_tried_22 : decode cX11_tried 22 = .ok (.ireturn, 1) := by decide +kernel
theorem dX11_tried_23 : decode cX11_tried 23 = .ok (.aload_n 0, 1) := by decide +kernel
theorem dX11_tried_24 : decode cX11_tried 24 = .ok (.getfield 48, 3) := by decide +kernel
theorem dX11_tried_27 : decode cX11_tried 27 = .ok (.aload_n 0, 1) := by decide +kernel
theorem dX11_tried_28 : decode cX11_tried 28 = .ok (.getfield 41, 3) := by decide +kernel
theorem dX11_tried_31 : decode cX11_tried 31 = .ok (.invokevirtual 167, 3) := by decide +kernel
theorem dX11_tried_34 : decode cX11_tried 34 = .ok (.aload_n 0, 1) := by decide +kernel
theorem dX11_tried_35 : decode cX11_tried 35 = .ok (.getfield 48, 3) := by decide +kernel
theorem dX11_tried_38 : decode cX11_tried 38 = .ok (.aload_n 0, 1) := by decide +kernel
theorem dX11_tried_39 : decode cX11_tried 39 = .ok (.getfield 34, 3) := by decide +kernel
theorem dX11_tried_42 : decode cX11_tried 42 = .ok (.iload_n 1, 1) := by decide +kernel
theorem dX11_tried_43 : decode cX11_tried 43 = .ok (.invokestatic 161, 3) := by decide +kernel
theorem dX11_tried_46 : decode cX11_tried 46 = .ok (.pop, 1) := by decide +kernel
theorem dX11_tried_47 : decode cX11_tried 47 = .ok (.iload_n 2, 1) := by decide +kernel
theorem dX11_tried_48 : decode cX11_tried 48 = .ok (.tableswitch 117 0 5 #[40, 48, 56, 64, 97, 107], 40) := by decide +kernel
theorem dX11_tried_88 : decode cX11_tried 88 = .ok (.aload_n 0, 1) := by decide +kernel
theorem dX11_tried_89 : decode cX11_tried 89 = .ok (.getfield 48, 3) := by decide +kernel
theorem dX11_tried_92 : decode cX11_tried 92 = .ok (.invokevirtual 171, 3) := by decide +kernel
theorem dX11_tried_95 : decode cX11_tried 95 = .ok (.ireturn, 1) := by decide +kernel
theorem dX11_tried_96 : decode cX11_tried 96 = .ok (.aload_n 0, 1) := by decide +kernel
theorem dX11_tried_97 : decode cX11_tried 97 = .ok (.getfield 48, 3) := by decide +kernel
theorem dX11_tried_100 : decode cX11_tried 100 = .ok (.invokevirtual 175, 3) := by decide +kernel
theorem dX11_tried_103 : decode cX11_tried 103 = .ok (.ireturn, 1) := by decide +kernel
theorem dX11_tried_104 : decode cX11_tried 104 = .ok (.aload_n 0, 1) := by decide +kernel
theorem dX11_tried_105 : decode cX11_tried 105 = .ok (.getfield 48, 3) := by decide +kernel
theorem dX11_tried_108 : decode cX11_tried 108 = .ok (.invokevirtual 178, 3) := by decide +kernel
theorem dX11_tried_111 : decode cX11_tried 111 = .ok (.ireturn, 1) := by decide +kernel
theorem dX11_tried_112 : decode cX11_tried 112 = .ok (.aload_n 0, 1) := by decide +kernel
theorem dX11_tried_113 : decode cX11_tried 113 = .ok (.getfield 48, 3) := by decide +kernel
theorem dX11_tried_116 : decode cX11_tried 116 = .ok (.invokevirtual 171, 3) := by decide +kernel
theorem dX11_tried_119 : decode cX11_tried 119 = .ok (.aload_n 0, 1) := by decide +kernel
theorem dX11_tried_120 : decode cX11_tried 120 = .ok (.getfield 48, 3) := by decide +kernel
theorem dX11_tried_123 : decode cX11_tried 123 = .ok (.getfield 98, 3) := by decide +kernel
theorem dX11_tried_126 : decode cX11_tried 126 = .ok (.if_icmp .ne 17, 3) := by decide +kernel
theorem dX11_tried_129 : decode cX11_tried 129 = .ok (.aload_n 0, 1) := by decide +kernel
theorem dX11_tried_130 : decode cX11_tried 130 = .ok (.getfield 48, 3) := by decide +kernel
theorem dX11_tried_133 : decode cX11_tried 133 = .ok (.invokevirtual 178, 3) := by decide +kernel
theorem dX11_tried_136 : decode cX11_tried 136 = .ok (.ifCond .ne 7, 3) := by decide +kernel
theorem dX11_tried_139 : decode cX11_tried 139 = .ok (.iconst 1, 1) := by decide +kernel
theorem dX11_tried_140 : decode cX11_tried 140 = .ok (.goto 4, 3) := by decide +kernel
theorem dX11_tried_143 : decode cX11_tried 143 = .ok (.iconst 0, 1) := by decide +kernel
theorem dX11_tried_144 : decode cX11_tried 144 = .ok (.ireturn, 1) := by decide +kernel
theorem dX11_tried_145 : decode cX11_tried 145 = .ok (.aload_n 0, 1) := by decide +kernel
theorem dX11_tried_146 : decode cX11_tried 146 = .ok (.getfield 48, 3) := by decide +kernel
theorem dX11_tried_149 : decode cX11_tried 149 = .ok (.getfield 132, 3) := by decide +kernel
theorem dX11_tried_152 : decode cX11_tried 152 = .ok (.iconst 0, 1) := by decide +kernel
theorem dX11_tried_153 : decode cX11_tried 153 = .ok (.iaload, 1) := by decide +kernel
theorem dX11_tried_154 : decode cX11_tried 154 = .ok (.ireturn, 1) := by decide +kernel
theorem dX11_tried_155 : decode cX11_tried 155 = .ok (.aload_n 0, 1) := by decide +kernel
theorem dX11_tried_156 : decode cX11_tried 156 = .ok (.getfield 48, 3) := by decide +kernel
theorem dX11_tried_159 : decode cX11_tried 159 = .ok (.getfield 132, 3) := by decide +kernel
theorem dX11_tried_162 : decode cX11_tried 162 = .ok (.iconst 1, 1) := by decide +kernel
theorem dX11_tried_163 : decode cX11_tried 163 = .ok (.iaload, 1) := by decide +kernel
theorem dX11_tried_164 : decode cX11_tried 164 = .ok (.ireturn, 1) := by decide +kernel
theorem dX11_tried_165 : decode cX11_tried 165 = .ok (.aload_n 0, 1) := by decide +kernel
theorem dX11_tried_166 : decode cX11_tried 166 = .ok (.getfield 48, 3) := by decide +kernel
theorem dX11_tried_169 : decode cX11_tried 169 = .ok (.invokevirtual 181, 3) := by decide +kernel
theorem dX11_tried_172 : decode cX11_tried 172 = .ok (.ireturn, 1) := by decide +kernel
def md_X11_tried : List (Nat × Nat) := [(3, 9), (3, 10), (3, 11), (3, 12), (3, 13), (3, 14), (3, 15), (6, 0), (6, 15), (6, 16), (6, 17), (117, 0), (118, 0), (119, 0), (120, 0), (121, 0), (122, 0), (123, 0), (124, 0), (125, 0), (126, 0), (127, 0), (128, 0), (210, 0)]
set_option maxRecDepth 100000 in
set_option maxHeartbeats 4000000 in
theorem c_X11_tried {l : Launch} {D : q_D} (τ : q_T) (σ : q_V) (a0 : Nat) (x1 : Int32) (x2 : Int32) (hI : q_I τ σ) (tA0 : τ a0 = some (9, 1)) : q_Ci l D yX11_tried cX11_tried 3 (some .int) 7 167 τ σ [.ref a0, .int x1, .int x2] (fun r σ1 => q_S md_X11_tried τ σ σ1 ∧ (q_r r (-2147483648) 2147483647) ∧ ((r.toInt, fx_N σ1) = f_X11_tried (fx_N σ) a0 x1.toInt x2.toInt) ∧ (∀ bt : Nat, σ a0 7 = .ref bt → ∀ b : Nat, b ≠ bt → τ b = some (6, 1) → σ1 b 0 = σ b 0) ∧ (∀ bt c0 c1 c2 : Nat, σ a0 7 = .ref bt → σ bt 1 = .ref c0 → σ bt 2 = .ref c1 → σ bt 3 = .ref c2 → zz_rx τ σ σ1 c0 c1 c2)) := by
  refine q_meti rfl (Nat.le_of_ble_eq_true rfl) (fun X hG hE => ?_)
  show q_O X 0 0 τ σ 0 [(0, .ref a0), (1, .int x1), (2, .int x2)] []
  have hS0 : q_S md_X11_tried τ σ σ := q_S.rf hI
  obtain ⟨Fv, hF⟩ : ∃ z, fx_eq z (f_X11_tried (fx_N σ) a0 x1.toInt x2.toInt) := ⟨_, fx_rf⟩
  have hF0 := hF
  unfold f_X11_tried at hF
  obtain ⟨q_1b, q_1f, q_1T⟩ := (hI a0 9 1 tA0 7 (by decide)).ref (k := 6) (n := 1) rfl
  replace hF := fx_R hF q_1f rfl
  obtain ⟨q_2b, q_2f, q_2T⟩ := (hI a0 9 1 tA0 5 (by decide)).ref (k := 6) (n := 1) rfl
  replace hF := fx_R hF q_2f rfl
  obtain ⟨q_3b, q_3f, q_3T⟩ := (hI q_2b 6 1 q_2T 1 (by decide)).ref (k := 118) (n := 64) rfl
  replace hF := fx_R hF q_3f rfl
  obtain ⟨q_4b, q_4f, q_4T⟩ := (hI q_2b 6 1 q_2T 2 (by decide)).ref (k := 118) (n := 64) rfl
  replace hF := fx_R hF q_4f rfl
  obtain ⟨q_5b, q_5f, q_5T⟩ := (hI q_2b 6 1 q_2T 3 (by decide)).ref (k := 118) (n := 64) rfl
  replace hF := fx_R hF q_5f rfl
  refine q_iload_n (pc := 0) hG dX11_tried_0 1 rfl ?_
  refine q_iconst (pc := 1) hG dX11_tried_1 ki_1 ?_
  refine q_sipush (pc := 2) hG dX11_tried_2 ks_600 ?_
  refine q_pS (pc := 5) [.int x1, .int 1, .int 600] [] hG (c_X11_isIn τ σ x1 1 600 hI) my_X11_isIn w238 w237 dX11_tried_5 rfl rfl (Nat.le_of_ble_eq_true rfl) (by decide) (fun v5 p5 => ?_)
  have fq5 := p5.2.1
  rewrite [tl_1, tl_600] at fq5
  replace hF := fx_E hF fq5
  refine q_if_eq (pc := 8) hG 21 dX11_tried_8 rfl ?_ ?_
  · intro c8
    replace hF := fx_eq1 hF rfl rfl c8
    refine q_iconst (pc := 21) hG dX11_tried_21 ki_m1 ?_
    exact q_irt hG hE dX11_tried_22 ⟨hS0, (q_r.mono rl_m1 (by decide)), (by rw [tl_m1]; exact fx_end hF hF0), (fun bt hbt b hb hT => by cases hbt.symm.trans q_1f; exact rfl), (fun bt c0 c1 c2 hbt h0 h1 h2 => by cases hbt.symm.trans q_1f; exact (zz_rx.S zz_rx.rf (fun c hc => rfl)))⟩
  intro c8
  have g_6 := p5.2.2.mp (q_one p5.1 c8)
  have r_7 := q_rge (q_r_any x1) rl_1 g_6.1
  replace hF := fx_eq2 hF rfl rfl c8
  refine q_iload_n (pc := 11) hG dX11_tried_11 2 rfl ?_
  refine q_iconst (pc := 12) hG dX11_tried_12 ki_0 ?_
  refine q_bipush (pc := 13) hG dX11_tried_13 kb_6 ?_
  refine q_pS (pc := 15) [.int x2, .int 0, .int 6] [] hG (c_X11_isIn τ σ x2 0 6 hI) my_X11_isIn w238 w237 dX11_tried_15 rfl rfl (Nat.le_of_ble_eq_true rfl) (by decide) (fun v15 p15 => ?_)
  have fq15 := p15.2.1
  rewrite [tl_0, tl_6] at fq15
  replace hF := fx_E hF fq15
  refine q_if_ne (pc := 18) hG 23 dX11_tried_18 rfl ?_ ?_
  · intro c18
    have g_8 := p15.2.2.mp (q_one p15.1 c18)
    have r_9 := q_rge (q_r_any x2) rl_0 g_8.1
    replace hF := fx_eq2 hF rfl rfl c18
    refine q_aload_n (pc := 23) hG dX11_tried_23 0 rfl ?_
    refine q_getV (pc := 24) (v := .ref q_1b) hG fl_X11_48 dX11_tried_24 tA0 q_1f ?_
    refine q_aload_n (pc := 27) hG dX11_tried_27 0 rfl ?_
    refine q_getV (pc := 28) (v := .ref q_2b) hG fl_X11_41 dX11_tried_28 tA0 q_2f ?_
    refine q_cVv (pc := 31) [.ref q_2b] [] hG (c_X7_copyFrom τ σ q_1b q_2b hI q_1T q_2T) my_X7_copyFrom mv_X7_copyFrom w488 dX11_tried_31 q_1T (by decide) rfl rfl (Nat.le_of_ble_eq_true rfl) (by decide) (fun s31 p31 => ?_)
    have w31 := hS0.trans p31.1 rfl
    replace hF := fx_S hF p31.2.1
    refine q_aload_n (pc := 34) hG dX11_tried_34 0 rfl ?_
    refine q_getV (pc := 35) (v := .ref q_1b) hG fl_X11_48 dX11_tried_35 tA0 (w31.same tA0 rfl q_1f) ?_
    refine q_aload_n (pc := 38) hG dX11_tried_38 0 rfl ?_
    refine q_getR (pc := 39) (k2 := 3) (n2 := 1) hG fl_X11_34 dX11_tried_39 w31.1 tA0 ff_9_4 (fun b39 f39 T39 => ?_)
    replace hF := fx_R hF f39 rfl
    have f_10 := (w31.2 _ _ _ _ tA0 rfl).symm.trans f39
    refine q_iload_n (pc := 42) hG dX11_tried_42 1 rfl ?_
    have r_11 := q_rle r_7 rl_600 g_6.2
    refine q_cSi (pc := 43) [.ref q_1b, .ref b39, .int x1] [] hG (c_X5_pass τ s31 q_1b b39 x1 w31.1 q_1T T39 r_11) my_X5_pass w401 w400 dX11_tried_43 rfl rfl (Nat.le_of_ble_eq_true rfl) (by decide) (fun v43 s43 p43 => ?_)
    have w43 := w31.trans p43.1 rfl
    replace hF := fx_C hF p43.2.2
    refine q_pop (pc := 46) hG dX11_tried_46 rfl ?_
    refine q_iload_n (pc := 47) hG dX11_tried_47 2 rfl ?_
    by_cases z48_0 : x2.toInt = 0
    · skip
      replace hF := fx_eq1 hF rfl rfl z48_0
      refine q_tsIn (pc := 48) 0 88 hG dX11_tried_48 z48_0 (by decide) rfl rfl ?_
      refine q_aload_n (pc := 88) hG dX11_tried_88 0 rfl ?_
      refine q_getV (pc := 89) (v := .ref q_1b) hG fl_X11_48 dX11_tried_89 tA0 (w43.same tA0 rfl q_1f) ?_
      refine q_pV (pc := 92) [] [] hG (c_X7_paintedDots τ s43 q_1b w43.1 q_1T) my_X7_paintedDots mv_X7_paintedDots w495 dX11_tried_92 q_1T (by decide) rfl rfl (Nat.le_of_ble_eq_true rfl) (by decide) (fun v92 p92 => ?_)
      replace hF := fx_E hF p92.2
      exact q_irt hG hE dX11_tried_95 ⟨w43, p92.1, (fx_end hF hF0), (fun bt hbt b hb hT => by cases hbt.symm.trans q_1f; exact (by rw [p43.1.2 b 6 1 0 hT rfl]; exact p31.2.2.2.1 b hb hT)), (fun bt c0 c1 c2 hbt h0 h1 h2 => by cases hbt.symm.trans q_1f; exact (zz_rx.S (p31.2.2.2.2 c0 c1 c2 q_3b q_4b q_5b h0 h1 h2 q_3f q_4f q_5f).1 (fun _ hc => (zz_sC p43.1 rfl hc))))⟩
    by_cases z48_1 : x2.toInt = 1
    · skip
      replace hF := fx_eq2 hF rfl rfl z48_0
      replace hF := fx_eq1 hF rfl rfl z48_1
      refine q_tsIn (pc := 48) 1 96 hG dX11_tried_48 z48_1 (by decide) rfl rfl ?_
      refine q_aload_n (pc := 96) hG dX11_tried_96 0 rfl ?_
      refine q_getV (pc := 97) (v := .ref q_1b) hG fl_X11_48 dX11_tried_97 tA0 (w43.same tA0 rfl q_1f) ?_
      refine q_pV (pc := 100) [] [] hG (c_X7_spoiltDots τ s43 q_1b w43.1 q_1T) my_X7_spoiltDots mv_X7_spoiltDots w499 dX11_tried_100 q_1T (by decide) rfl rfl (Nat.le_of_ble_eq_true rfl) (by decide) (fun v100 p100 => ?_)
      replace hF := fx_E hF p100.2
      exact q_irt hG hE dX11_tried_103 ⟨w43, p100.1, (fx_end hF hF0), (fun bt hbt b hb hT => by cases hbt.symm.trans q_1f; exact (by rw [p43.1.2 b 6 1 0 hT rfl]; exact p31.2.2.2.1 b hb hT)), (fun bt c0 c1 c2 hbt h0 h1 h2 => by cases hbt.symm.trans q_1f; exact (zz_rx.S (p31.2.2.2.2 c0 c1 c2 q_3b q_4b q_5b h0 h1 h2 q_3f q_4f q_5f).1 (fun _ hc => (zz_sC p43.1 rfl hc))))⟩
    by_cases z48_2 : x2.toInt = 2
    · skip
      replace hF := fx_eq2 hF rfl rfl z48_0
      replace hF := fx_eq2 hF rfl rfl z48_1
      replace hF := fx_eq1 hF rfl rfl z48_2
      refine q_tsIn (pc := 48) 2 104 hG dX11_tried_48 z48_2 (by decide) rfl rfl ?_
      refine q_aload_n (pc := 104) hG dX11_tried_104 0 rfl ?_
      refine q_getV (pc := 105) (v := .ref q_1b) hG fl_X11_48 dX11_tried_105 tA0 (w43.same tA0 rfl q_1f) ?_
      refine q_pV (pc := 108) [] [] hG (c_X7_wetDots τ s43 q_1b w43.1 q_1T) my_X7_wetDots mv_X7_wetDots w507 dX11_tried_108 q_1T (by decide) rfl rfl (Nat.le_of_ble_eq_true rfl) (by decide) (fun v108 p108 => ?_)
      replace hF := fx_E hF p108.2
      exact q_irt hG hE dX11_tried_111 ⟨w43, p108.1, (fx_end hF hF0), (fun bt hbt b hb hT => by cases hbt.symm.trans q_1f; exact (by rw [p43.1.2 b 6 1 0 hT rfl]; exact p31.2.2.2.1 b hb hT)), (fun bt c0 c1 c2 hbt h0 h1 h2 => by cases hbt.symm.trans q_1f; exact (zz_rx.S (p31.2.2.2.2 c0 c1 c2 q_3b q_4b q_5b h0 h1 h2 q_3f q_4f q_5f).1 (fun _ hc => (zz_sC p43.1 rfl hc))))⟩
    by_cases z48_3 : x2.toInt = 3
    · skip
      replace hF := fx_eq2 hF rfl rfl z48_0
      replace hF := fx_eq2 hF rfl rfl z48_1
      replace hF := fx_eq2 hF rfl rfl z48_2
      replace hF := fx_eq1 hF rfl rfl z48_3
      refine q_tsIn (pc := 48) 3 112 hG dX11_tried_48 z48_3 (by decide) rfl rfl ?_
      refine q_aload_n (pc := 112) hG dX11_tried_112 0 rfl ?_
      refine q_getV (pc := 113) (v := .ref q_1b) hG fl_X11_48 dX11_tried_113 tA0 (w43.same tA0 rfl q_1f) ?_
      refine q_pV (pc := 116) [] [] hG (c_X7_paintedDots τ s43 q_1b w43.1 q_1T) my_X7_paintedDots mv_X7_paintedDots w495 dX11_tried_116 q_1T (by decide) rfl rfl (Nat.le_of_ble_eq_true rfl) (by decide) (fun v116 p116 => ?_)
      replace hF := fx_E hF p116.2
      refine q_aload_n (pc := 119) hG dX11_tried_119 0 rfl ?_
      refine q_getV (pc := 120) (v := .ref q_1b) hG fl_X11_48 dX11_tried_120 tA0 (w43.same tA0 rfl q_1f) ?_
      refine q_getI (pc := 123) hG fl_X11_98 dX11_tried_123 w43.1 q_1T ff_6_0 (fun v123 f123 g123 => ?_)
      replace hF := fx_I hF f123 rfl
      refine q_icmp_ne (pc := 126) hG 143 dX11_tried_126 rfl ?_ ?_
      · intro c126
        replace hF := fx_eq2 hF rfl rfl c126
        refine q_iconst (pc := 143) hG dX11_tried_143 ki_0 ?_
        exact q_irt hG hE dX11_tried_144 ⟨w43, (q_r.mono rl_0 (by decide)), (by rw [tl_0]; exact fx_end hF hF0), (fun bt hbt b hb hT => by cases hbt.symm.trans q_1f; exact (by rw [p43.1.2 b 6 1 0 hT rfl]; exact p31.2.2.2.1 b hb hT)), (fun bt c0 c1 c2 hbt h0 h1 h2 => by cases hbt.symm.trans q_1f; exact (zz_rx.S (p31.2.2.2.2 c0 c1 c2 q_3b q_4b q_5b h0 h1 h2 q_3f q_4f q_5f).1 (fun _ hc => (zz_sC p43.1 rfl hc))))⟩
      intro c126
      replace hF := fx_eq1 hF rfl rfl c126
      refine q_aload_n (pc := 129) hG dX11_tried_129 0 rfl ?_
      refine q_getV (pc := 130) (v := .ref q_1b) hG fl_X11_48 dX11_tried_130 tA0 (w43.same tA0 rfl q_1f) ?_
      refine q_pV (pc := 133) [] [] hG (c_X7_wetDots τ s43 q_1b w43.1 q_1T) my_X7_wetDots mv_X7_wetDots w507 dX11_tried_133 q_1T (by decide) rfl rfl (Nat.le_of_ble_eq_true rfl) (by decide) (fun v133 p133 => ?_)
      replace hF := fx_E hF p133.2
      refine q_if_ne (pc := 136) hG 143 dX11_tried_136 rfl ?_ ?_
      · intro c136
        replace hF := fx_eq2 hF rfl rfl c136
        refine q_iconst (pc := 143) hG dX11_tried_143 ki_0 ?_
        exact q_irt hG hE dX11_tried_144 ⟨w43, (q_r.mono rl_0 (by decide)), (by rw [tl_0]; exact fx_end hF hF0), (fun bt hbt b hb hT => by cases hbt.symm.trans q_1f; exact (by rw [p43.1.2 b 6 1 0 hT rfl]; exact p31.2.2.2.1 b hb hT)), (fun bt c0 c1 c2 hbt h0 h1 h2 => by cases hbt.symm.trans q_1f; exact (zz_rx.S (p31.2.2.2.2 c0 c1 c2 q_3b q_4b q_5b h0 h1 h2 q_3f q_4f q_5f).1 (fun _ hc => (zz_sC p43.1 rfl hc))))⟩
      intro c136
      replace hF := fx_eq1 hF rfl rfl c136
      refine q_iconst (pc := 139) hG dX11_tried_139 ki_1 ?_
      refine q_goto (pc := 140) 144 hG dX11_tried_140 rfl ?_
      exact q_irt hG hE dX11_tried_144 ⟨w43, (q_r.mono rl_1 (by decide)), (by rw [tl_1]; exact fx_end hF hF0), (fun bt hbt b hb hT => by cases hbt.symm.trans q_1f; exact (by rw [p43.1.2 b 6 1 0 hT rfl]; exact p31.2.2.2.1 b hb hT)), (fun bt c0 c1 c2 hbt h0 h1 h2 => by cases hbt.symm.trans q_1f; exact (zz_rx.S (p31.2.2.2.2 c0 c1 c2 q_3b q_4b q_5b h0 h1 h2 q_3f q_4f q_5f).1 (fun _ hc => (zz_sC p43.1 rfl hc))))⟩
    by_cases z48_4 : x2.toInt = 4
    · skip
      replace hF := fx_eq2 hF rfl rfl z48_0
      replace hF := fx_eq2 hF rfl rfl z48_1
      replace hF := fx_eq2 hF rfl rfl z48_2
      replace hF := fx_eq2 hF rfl rfl z48_3
      replace hF := fx_eq1 hF rfl rfl z48_4
      refine q_tsIn (pc := 48) 4 145 hG dX11_tried_48 z48_4 (by decide) rfl rfl ?_
      refine q_aload_n (pc := 145) hG dX11_tried_145 0 rfl ?_
      refine q_getV (pc := 146) (v := .ref q_1b) hG fl_X11_48 dX11_tried_146 tA0 (w43.same tA0 rfl q_1f) ?_
      refine q_getR (pc := 149) (k2 := 124) (n2 := 2) hG fl_X11_132 dX11_tried_149 w43.1 q_1T ff_6_10 (fun b149 f149 T149 => ?_)
      replace hF := fx_R hF f149 rfl
      have f_12 := (w43.2 _ _ _ _ q_1T rfl).symm.trans f149
      refine q_iconst (pc := 152) hG dX11_tried_152 ki_0 ?_
      refine q_iald (pc := 153) hG dX11_tried_153 w43.1 ai_124 T149 (q_ix rl_0 (by decide)) (fun v153 f153 g153 => ?_)
      replace hF := fx_I hF f153 (congrArg Int.toNat tl_0)
      exact q_irt hG hE dX11_tried_154 ⟨w43, (q_r.mono g153 (by decide)), (fx_end hF hF0), (fun bt hbt b hb hT => by cases hbt.symm.trans q_1f; exact (by rw [p43.1.2 b 6 1 0 hT rfl]; exact p31.2.2.2.1 b hb hT)), (fun bt c0 c1 c2 hbt h0 h1 h2 => by cases hbt.symm.trans q_1f; exact (zz_rx.S (p31.2.2.2.2 c0 c1 c2 q_3b q_4b q_5b h0 h1 h2 q_3f q_4f q_5f).1 (fun _ hc => (zz_sC p43.1 rfl hc))))⟩
    by_cases z48_5 : x2.toInt = 5
    · skip
      replace hF := fx_eq2 hF rfl rfl z48_0
      replace hF := fx_eq2 hF rfl rfl z48_1
      replace hF := fx_eq2 hF rfl rfl z48_2
      replace hF := fx_eq2 hF rfl rfl z48_3
      replace hF := fx_eq2 hF rfl rfl z48_4
      replace hF := fx_eq1 hF rfl rfl z48_5
      refine q_tsIn (pc := 48) 5 155 hG dX11_tried_48 z48_5 (by decide) rfl rfl ?_
      refine q_aload_n (pc := 155) hG dX11_tried_155 0 rfl ?_
      refine q_getV (pc := 156) (v := .ref q_1b) hG fl_X11_48 dX11_tried_156 tA0 (w43.same tA0 rfl q_1f) ?_
      refine q_getR (pc := 159) (k2 := 124) (n2 := 2) hG fl_X11_132 dX11_tried_159 w43.1 q_1T ff_6_10 (fun b159 f159 T159 => ?_)
      replace hF := fx_R hF f159 rfl
      have f_13 := (w43.2 _ _ _ _ q_1T rfl).symm.trans f159
      refine q_iconst (pc := 162) hG dX11_tried_162 ki_1 ?_
      refine q_iald (pc := 163) hG dX11_tried_163 w43.1 ai_124 T159 (q_ix rl_1 (by decide)) (fun v163 f163 g163 => ?_)
      replace hF := fx_I hF f163 (congrArg Int.toNat tl_1)
      exact q_irt hG hE dX11_tried_164 ⟨w43, (q_r.mono g163 (by decide)), (fx_end hF hF0), (fun bt hbt b hb hT => by cases hbt.symm.trans q_1f; exact (by rw [p43.1.2 b 6 1 0 hT rfl]; exact p31.2.2.2.1 b hb hT)), (fun bt c0 c1 c2 hbt h0 h1 h2 => by cases hbt.symm.trans q_1f; exact (zz_rx.S (p31.2.2.2.2 c0 c1 c2 q_3b q_4b q_5b h0 h1 h2 q_3f q_4f q_5f).1 (fun _ hc => (zz_sC p43.1 rfl hc))))⟩
    replace hF := fx_eq2 hF rfl rfl z48_0
    replace hF := fx_eq2 hF rfl rfl z48_1
    replace hF := fx_eq2 hF rfl rfl z48_2
    replace hF := fx_eq2 hF rfl rfl z48_3
    replace hF := fx_eq2 hF rfl rfl z48_4
    replace hF := fx_eq2 hF rfl rfl z48_5
    have r_14 := q_rle r_9 rl_6 g_8.2
    refine q_tsOut (pc := 48) 165 hG dX11_tried_48 (by have q := r_14; unfold q_r at q; omega) rfl ?_
    refine q_aload_n (pc := 165) hG dX11_tried_165 0 rfl ?_
    refine q_getV (pc := 166) (v := .ref q_1b) hG fl_X11_48 dX11_tried_166 tA0 (w43.same tA0 rfl q_1f) ?_
    refine q_pV (pc := 169) [] [] hG (c_X7_offKerb τ s43 q_1b w43.1 q_1T) my_X7_offKerb mv_X7_offKerb w508 dX11_tried_169 q_1T (by decide) rfl rfl (Nat.le_of_ble_eq_true rfl) (by decide) (fun v169 p169 => ?_)
    replace hF := fx_E hF p169.2
    exact q_irt hG hE dX11_tried_172 ⟨w43, p169.1, (fx_end hF hF0), (fun bt hbt b hb hT => by cases hbt.symm.trans q_1f; exact (by rw [p43.1.2 b 6 1 0 hT rfl]; exact p31.2.2.2.1 b hb hT)), (fun bt c0 c1 c2 hbt h0 h1 h2 => by cases hbt.symm.trans q_1f; exact (zz_rx.S (p31.2.2.2.2 c0 c1 c2 q_3b q_4b q_5b h0 h1 h2 q_3f q_4f q_5f).1 (fun _ hc => (zz_sC p43.1 rfl hc))))⟩
  intro c18
  replace hF := fx_eq1 hF rfl rfl c18
  refine q_iconst (pc := 21) hG dX11_tried_21 ki_m1 ?_
  exact q_irt hG hE dX11_tried_22 ⟨hS0, (q_r.mono rl_m1 (by decide)), (by rw [tl_m1]; exact fx_end hF hF0), (fun bt hbt b hb hT => by cases hbt.symm.trans q_1f; exact rfl), (fun bt c0 c1 c2 hbt h0 h1 h2 => by cases hbt.symm.trans q_1f; exact (zz_rx.S zz_rx.rf (fun c hc => rfl)))⟩
theorem dX11_dot_0 : decode cX11_dot 0 = .ok (.aload_n 0, 1) := by decide +kernel
theorem dX11_dot_1 : decode cX11_dot 1 = .ok (.getfield 41, 3) := by decide +kernel
theorem dX11_dot_4 : decode cX11_dot 4 = .ok (.iload_n 1, 1) := by decide +kernel
theorem dX11_dot_5 : decode cX11_dot 5 = .ok (.invokevirtual 184, 3) := by decide +kernel
theorem dX11_dot_8 : decode cX11_dot 8 = .ok (.ifCond .ne 5, 3) := by decide +kernel
theorem dX11_dot_11 : decode cX11_dot 11 = .ok (.iconst (-1), 1) := by decide +kernel
theorem dX11_dot_12 : decode cX11_dot 12 = .ok (.ireturn, 1) := by decide +kernel
theorem dX11_dot_13 : decode cX11_dot 13 = .ok (.iload_n 2, 1) := by decide +kernel
theorem dX11_dot_14 : decode cX11_dot 14 = .ok (.tableswitch 168 0 8 #[50, 60, 70, 80, 93, 106, 132, 142, 159], 50) := by decide +kernel
theorem dX11_dot_64 : decode cX11_dot 64 = .ok (.aload_n 0, 1) := by decide +kernel
theorem dX11_dot_65 : decode cX11_dot 65 = .ok (.getfield 41, 3) := by decide +kernel
theorem dX11_dot_68 : decode cX11_dot 68 = .ok (.getfield 187, 3) := by decide +kernel
theorem dX11_dot_71 : decode cX11_dot 71 = .ok (.iload_n 1, 1) := by decide +kernel
theorem dX11_dot_72 : decode cX11_dot 72 = .ok (.iaload, 1) := by decide +kernel
theorem dX11_dot_73 : decode cX11_dot 73 = .ok (.ireturn, 1) := by decide +kernel
theorem dX11_dot_74 : decode cX11_dot 74 = .ok (.aload_n 0, 1) := by decide +kernel
theorem dX11_dot_75 : decode cX11_dot 75 = .ok (.getfield 41, 3) := by decide +kernel
theorem dX11_dot_78 : decode cX11_dot 78 = .ok (.getfield 190, 3) := by decide +kernel
theorem dX11_dot_81 : decode cX11_dot 81 = .ok (.iload_n 1, 1) := by decide +kernel
theorem dX11_dot_82 : decode cX11_dot 82 = .ok (.iaload, 1) := by decide +kernel
theorem dX11_dot_83 : decode cX11_dot 83 = .ok (.ireturn, 1) := by decide +kernel
theorem dX11_dot_84 : decode cX11_dot 84 = .ok (.aload_n 0, 1) := by decide +kernel
theorem dX11_dot_85 : decode cX11_dot 85 = .ok (.getfield 41, 3) := by decide +kernel
theorem dX11_dot_88 : decode cX11_dot 88 = .ok (.getfield 193, 3) := by decide +kernel
theorem dX11_dot_91 : decode cX11_dot 91 = .ok (.iload_n 1, 1) := by decide +kernel
theorem dX11_dot_92 : decode cX11_dot 92 = .ok (.iaload, 1) := by decide +kernel
theorem dX11_dot_93 : decode cX11_dot 93 = .ok (.ireturn, 1) := by decide +kernel
theorem dX11_dot_94 : decode cX11_dot 94 = .ok (.aload_n 0, 1) := by decide +kernel
theorem dX11_dot_95 : decode cX11_dot 95 = .ok (.getfield 41, 3) := by decide +kernel
theorem dX11_dot_98 : decode cX11_dot 98 = .ok (.getfield 117, 3) := by decide +kernel
theorem dX11_dot_101 : decode cX11_dot 101 = .ok (.iload_n 1, 1) := by decide +kernel
theorem dX11_dot_102 : decode cX11_dot 102 = .ok (.iaload, 1) := by decide +kernel
theorem dX11_dot_103 : decode cX11_dot 103 = .ok (.invokestatic 196, 3) := by decide +kernel
theorem dX11_dot_106 : decode cX11_dot 106 = .ok (.ireturn, 1) := by decide +kernel
theorem dX11_dot_107 : decode cX11_dot 107 = .ok (.aload_n 0, 1) := by decide +kernel
theorem dX11_dot_108 : decode cX11_dot 108 = .ok (.getfield 41, 3) := by decide +kernel
theorem dX11_dot_111 : decode cX11_dot 111 = .ok (.getfield 200, 3) := by decide +kernel
theorem dX11_dot_114 : decode cX11_dot 114 = .ok (.iload_n 1, 1) := by decide +kernel
theorem dX11_dot_115 : decode cX11_dot 115 = .ok (.iaload, 1) := by decide +kernel
theorem dX11_dot_116 : decode cX11_dot 116 = .ok (.invokestatic 196, 3) := by decide +kernel
theorem dX11_dot_119 : decode cX11_dot 119 = .ok (.ireturn, 1) := by decide +kernel
theorem dX11_dot_120 : decode cX11_dot 120 = .ok (.aload_n 0, 1) := by decide +kernel
theorem dX11_dot_121 : decode cX11_dot 121 = .ok (.getfield 41, 3) := by decide +kernel
theorem dX11_dot_124 : decode cX11_dot 124 = .ok (.iload_n 1, 1) := by decide +kernel
theorem dX11_dot_125 : decode cX11_dot 125 = .ok (.invokevirtual 157, 3) := by decide +kernel
theorem dX11_dot_128 : decode cX11_dot 128 = .ok (.ifCond .eq 15, 3) := by decide +kernel
theorem dX11_dot_131 : decode cX11_dot 131 = .ok (.aload_n 0, 1) := by decide +kernel
theorem dX11_dot_132 : decode cX11_dot 132 = .ok (.getfield 41, 3) := by decide +kernel
theorem dX11_dot_135 : decode cX11_dot 135 = .ok (.getfield 203, 3) := by decide +kernel
theorem dX11_dot_138 : decode cX11_dot 138 = .ok (.iload_n 1, 1) := by decide +kernel
theorem dX11_dot_139 : decode cX11_dot 139 = .ok (.iaload, 1) := by decide +kernel
theorem dX11_dot_140 : decode cX11_dot 140 = .ok (.goto 5, 3) := by decide +kernel
theorem dX11_dot_143 : decode cX11_dot 143 = .ok (.bipush (-2), 2) := by decide +kernel
theorem dX11_dot_145 : decode cX11_dot 145 = .ok (.ireturn, 1) := by decide +kernel
theorem dX11_dot_146 : decode cX11_dot 146 = .ok (.aload_n 0, 1) := by decide +kernel
theorem dX11_dot_147 : decode cX11_dot 147 = .ok (.getfield 41, 3) := by decide +kernel
theorem dX11_dot_150 : decode cX11_dot 150 = .ok (.getfield 206, 3) := by decide +kernel
theorem dX11_dot_153 : decode cX11_dot 153 = .ok (.iload_n 1, 1) := by decide +kernel
theorem dX11_dot_154 : decode cX11_dot 154 = .ok (.iaload, 1) := by decide +kernel
theorem dX11_dot_155 : decode cX11_dot 155 = .ok (.ireturn, 1) := by decide +kernel
theorem dX11_dot_156 : decode cX11_dot 156 = .ok (.aload_n 0, 1) := by decide +kernel
theorem dX11_dot_157 : decode cX11_dot 157 = .ok (.getfield 41, 3) := by decide +kernel
theorem dX11_dot_160 : decode cX11_dot 160 = .ok (.iload_n 1, 1) := by decide +kernel
theorem dX11_dot_161 : decode cX11_dot 161 = .ok (.invokevirtual 209, 3) := by decide +kernel
theorem dX11_dot_164 : decode cX11_dot 164 = .ok (.ifCond .eq 7, 3) := by decide +kernel
theorem dX11_dot_167 : decode cX11_dot 167 = .ok (.iconst 1, 1) := by decide +kernel
theorem dX11_dot_168 : decode cX11_dot 168 = .ok (.goto 4, 3) := by decide +kernel
theorem dX11_dot_171 : decode cX11_dot 171 = .ok (.iconst 0, 1) := by decide +kernel
theorem dX11_dot_172 : decode cX11_dot 172 = .ok (.ireturn, 1) := by decide +kernel
theorem dX11_dot_173 : decode cX11_dot 173 = .ok (.aload_n 0, 1) := by decide +kernel
theorem dX11_dot_174 : decode cX11_dot 174 = .ok (.getfield 41, 3) := by decide +kernel
theorem dX11_dot_177 : decode cX11_dot 177 = .ok (.iload_n 1, 1) := by decide +kernel
theorem dX11_dot_178 : decode cX11_dot 178 = .ok (.invokevirtual 212, 3) := by decide +kernel
theorem dX11_dot_181 : decode cX11_dot 181 = .ok (.ireturn, 1) := by decide +kernel
theorem dX11_dot_182 : decode cX11_dot 182 = .ok (.iconst (-1), 1) := by decide +kernel
theorem dX11_dot_183 : decode cX11_dot 183 = .ok (.ireturn, 1) := by decide +kernel
set_option maxRecDepth 100000 in
set_option maxHeartbeats 4000000 in
theorem c_X11_dot {l : Launch} {D : q_D} (τ : q_T) (σ : q_V) (a0 : Nat) (x1 : Int32) (x2 : Int32) (hI : q_I τ σ) (tA0 : τ a0 = some (9, 1)) : q_Cp l D yX11_dot cX11_dot 3 (some .int) 2 42 τ σ [.ref a0, .int x1, .int x2] (fun r => q_r r (-2147483648) 2147483647) := by
  refine q_meti rfl (Nat.le_of_ble_eq_true rfl) (fun X hG hE => ?_)
  show q_O X 0 0 τ σ 0 [(0, .ref a0), (1, .int x1), (2, .int x2)] []
  refine q_aload_n (pc := 0) hG dX11_dot_0 0 rfl ?_
  refine q_getR (pc := 1) (k2 := 6) (n2 := 1) hG fl_X11_41 dX11_dot_1 hI tA0 ff_9_5 (fun b1 f1 T1 => ?_)
  refine q_iload_n (pc := 4) hG dX11_dot_4 1 rfl ?_
  refine q_pV (pc := 5) [.int x1] [] hG (c_X7_isDot τ σ b1 x1 hI T1) my_X7_isDot mv_X7_isDot w517 dX11_dot_5 T1 (by decide) rfl rfl (Nat.le_of_ble_eq_true rfl) (by decide) (fun v5 p5 => ?_)
  refine q_if_ne (pc := 8) hG 13 dX11_dot_8 rfl ?_ ?_
  · intro c8
    have g_1 := p5.2.2.1 (q_one p5.1 c8)
    have r_2 := q_rge (q_r_any x1) rl_0 (show (0 : Int32).toInt ≤ _ from g_1.1)
    refine q_iload_n (pc := 13) hG dX11_dot_13 2 rfl ?_
    by_cases z14_0 : x2.toInt = 0
    · skip
      refine q_tsIn (pc := 14) 0 64 hG dX11_dot_14 z14_0 (by decide) rfl rfl ?_
      refine q_aload_n (pc := 64) hG dX11_dot_64 0 rfl ?_
      refine q_getV (pc := 65) (v := .ref b1) hG fl_X11_41 dX11_dot_65 tA0 f1 ?_
      refine q_getR (pc := 68) (k2 := 118) (n2 := 64) hG fl_X11_187 dX11_dot_68 hI T1 ff_6_1 (fun b68 f68 T68 => ?_)
      refine q_iload_n (pc := 71) hG dX11_dot_71 1 rfl ?_
      have r_3 := q_rle r_2 rl_63 (show _ ≤ (63 : Int32).toInt from g_1.2)
      refine q_iald (pc := 72) hG dX11_dot_72 hI ai_118 T68 (q_ix r_3 (by decide)) (fun v72 f72 g72 => ?_)
      exact q_irt hG hE dX11_dot_73 ⟨rfl, g72⟩
    by_cases z14_1 : x2.toInt = 1
    · skip
      refine q_tsIn (pc := 14) 1 74 hG dX11_dot_14 z14_1 (by decide) rfl rfl ?_
      refine q_aload_n (pc := 74) hG dX11_dot_74 0 rfl ?_
      refine q_getV (pc := 75) (v := .ref b1) hG fl_X11_41 dX11_dot_75 tA0 f1 ?_
      refine q_getR (pc := 78) (k2 := 118) (n2 := 64) hG fl_X11_190 dX11_dot_78 hI T1 ff_6_2 (fun b78 f78 T78 => ?_)
      refine q_iload_n (pc := 81) hG dX11_dot_81 1 rfl ?_
      have r_4 := q_rle r_2 rl_63 (show _ ≤ (63 : Int32).toInt from g_1.2)
      refine q_iald (pc := 82) hG dX11_dot_82 hI ai_118 T78 (q_ix r_4 (by decide)) (fun v82 f82 g82 => ?_)
      exact q_irt hG hE dX11_dot_83 ⟨rfl, g82⟩
    by_cases z14_2 : x2.toInt = 2
    · skip
      refine q_tsIn (pc := 14) 2 84 hG dX11_dot_14 z14_2 (by decide) rfl rfl ?_
      refine q_aload_n (pc := 84) hG dX11_dot_84 0 rfl ?_
      refine q_getV (pc := 85) (v := .ref b1) hG fl_X11_41 dX11_dot_85 tA0 f1 ?_
      refine q_getR (pc := 88) (k2 := 118) (n2 := 64) hG fl_X11_193 dX11_dot_88 hI T1 ff_6_3 (fun b88 f88 T88 => ?_)
      refine q_iload_n (pc := 91) hG dX11_dot_91 1 rfl ?_
      have r_5 := q_rle r_2 rl_63 (show _ ≤ (63 : Int32).toInt from g_1.2)
      refine q_iald (pc := 92) hG dX11_dot_92 hI ai_118 T88 (q_ix r_5 (by decide)) (fun v92 f92 g92 => ?_)
      exact q_irt hG hE dX11_dot_93 ⟨rfl, g92⟩
    by_cases z14_3 : x2.toInt = 3
    · skip
      refine q_tsIn (pc := 14) 3 94 hG dX11_dot_14 z14_3 (by decide) rfl rfl ?_
      refine q_aload_n (pc := 94) hG dX11_dot_94 0 rfl ?_
      refine q_getV (pc := 95) (v := .ref b1) hG fl_X11_41 dX11_dot_95 tA0 f1 ?_
      refine q_getR (pc := 98) (k2 := 119) (n2 := 64) hG fl_X11_117 dX11_dot_98 hI T1 ff_6_4 (fun b98 f98 T98 => ?_)
      refine q_iload_n (pc := 101) hG dX11_dot_101 1 rfl ?_
      have r_6 := q_rle r_2 rl_63 (show _ ≤ (63 : Int32).toInt from g_1.2)
      refine q_iald (pc := 102) hG dX11_dot_102 hI ai_119 T98 (q_ix r_6 (by decide)) (fun v102 f102 g102 => ?_)
      refine q_pS (pc := 103) [.int v102] [] hG (c_X11_shifted τ σ v102 hI) my_X11_shifted w519 w518 dX11_dot_103 rfl rfl (Nat.le_of_ble_eq_true rfl) (by decide) (fun v103 p103 => ?_)
      exact q_irt hG hE dX11_dot_106 ⟨rfl, p103.1⟩
    by_cases z14_4 : x2.toInt = 4
    · skip
      refine q_tsIn (pc := 14) 4 107 hG dX11_dot_14 z14_4 (by decide) rfl rfl ?_
      refine q_aload_n (pc := 107) hG dX11_dot_107 0 rfl ?_
      refine q_getV (pc := 108) (v := .ref b1) hG fl_X11_41 dX11_dot_108 tA0 f1 ?_
      refine q_getR (pc := 111) (k2 := 120) (n2 := 64) hG fl_X11_200 dX11_dot_111 hI T1 ff_6_5 (fun b111 f111 T111 => ?_)
      refine q_iload_n (pc := 114) hG dX11_dot_114 1 rfl ?_
      have r_7 := q_rle r_2 rl_63 (show _ ≤ (63 : Int32).toInt from g_1.2)
      refine q_iald (pc := 115) hG dX11_dot_115 hI ai_120 T111 (q_ix r_7 (by decide)) (fun v115 f115 g115 => ?_)
      refine q_pS (pc := 116) [.int v115] [] hG (c_X11_shifted τ σ v115 hI) my_X11_shifted w519 w518 dX11_dot_116 rfl rfl (Nat.le_of_ble_eq_true rfl) (by decide) (fun v116 p116 => ?_)
      exact q_irt hG hE dX11_dot_119 ⟨rfl, p116.1⟩
    by_cases z14_5 : x2.toInt = 5
    · skip
      refine q_tsIn (pc := 14) 5 120 hG dX11_dot_14 z14_5 (by decide) rfl rfl ?_
      refine q_aload_n (pc := 120) hG dX11_dot_120 0 rfl ?_
      refine q_getV (pc := 121) (v := .ref b1) hG fl_X11_41 dX11_dot_121 tA0 f1 ?_
      refine q_iload_n (pc := 124) hG dX11_dot_124 1 rfl ?_
      have r_8 := q_rle r_2 rl_63 (show _ ≤ (63 : Int32).toInt from g_1.2)
      refine q_pV (pc := 125) [.int x1] [] hG (c_X7_isPainted τ σ b1 x1 hI T1 r_8) my_X7_isPainted mv_X7_isPainted w392 dX11_dot_125 T1 (by decide) rfl rfl (Nat.le_of_ble_eq_true rfl) (by decide) (fun v125 p125 => ?_)
      refine q_if_eq (pc := 128) hG 143 dX11_dot_128 rfl ?_ ?_
      · intro c128
        refine q_bipush (pc := 143) hG dX11_dot_143 kb_m2 ?_
        exact q_irt hG hE dX11_dot_145 ⟨rfl, (q_r.mono rl_m2 (by decide))⟩
      intro c128
      refine q_aload_n (pc := 131) hG dX11_dot_131 0 rfl ?_
      refine q_getV (pc := 132) (v := .ref b1) hG fl_X11_41 dX11_dot_132 tA0 f1 ?_
      refine q_getR (pc := 135) (k2 := 121) (n2 := 64) hG fl_X11_203 dX11_dot_135 hI T1 ff_6_6 (fun b135 f135 T135 => ?_)
      refine q_iload_n (pc := 138) hG dX11_dot_138 1 rfl ?_
      refine q_iald (pc := 139) hG dX11_dot_139 hI ai_121 T135 (q_ix r_8 (by decide)) (fun v139 f139 g139 => ?_)
      refine q_goto (pc := 140) 145 hG dX11_dot_140 rfl ?_
      exact q_irt hG hE dX11_dot_145 ⟨rfl, g139⟩
    by_cases z14_6 : x2.toInt = 6
    · skip
      refine q_tsIn (pc := 14) 6 146 hG dX11_dot_14 z14_6 (by decide) rfl rfl ?_
      refine q_aload_n (pc := 146) hG dX11_dot_146 0 rfl ?_
      refine q_getV (pc := 147) (v := .ref b1) hG fl_X11_41 dX11_dot_147 tA0 f1 ?_
      refine q_getR (pc := 150) (k2 := 123) (n2 := 64) hG fl_X11_206 dX11_dot_150 hI T1 ff_6_8 (fun b150 f150 T150 => ?_)
      refine q_iload_n (pc := 153) hG dX11_dot_153 1 rfl ?_
      have r_9 := q_rle r_2 rl_63 (show _ ≤ (63 : Int32).toInt from g_1.2)
      refine q_iald (pc := 154) hG dX11_dot_154 hI ai_123 T150 (q_ix r_9 (by decide)) (fun v154 f154 g154 => ?_)
      exact q_irt hG hE dX11_dot_155 ⟨rfl, g154⟩
    by_cases z14_7 : x2.toInt = 7
    · skip
      refine q_tsIn (pc := 14) 7 156 hG dX11_dot_14 z14_7 (by decide) rfl rfl ?_
      refine q_aload_n (pc := 156) hG dX11_dot_156 0 rfl ?_
      refine q_getV (pc := 157) (v := .ref b1) hG fl_X11_41 dX11_dot_157 tA0 f1 ?_
      refine q_iload_n (pc := 160) hG dX11_dot_160 1 rfl ?_
      have r_10 := q_rle r_2 rl_63 (show _ ≤ (63 : Int32).toInt from g_1.2)
      refine q_pV (pc := 161) [.int x1] [] hG (c_X7_isWet τ σ b1 x1 hI T1 r_10) my_X7_isWet mv_X7_isWet w521 dX11_dot_161 T1 (by decide) rfl rfl (Nat.le_of_ble_eq_true rfl) (by decide) (fun v161 p161 => ?_)
      refine q_if_eq (pc := 164) hG 171 dX11_dot_164 rfl ?_ ?_
      · intro c164
        refine q_iconst (pc := 171) hG dX11_dot_171 ki_0 ?_
        exact q_irt hG hE dX11_dot_172 ⟨rfl, (q_r.mono rl_0 (by decide))⟩
      intro c164
      refine q_iconst (pc := 167) hG dX11_dot_167 ki_1 ?_
      refine q_goto (pc := 168) 172 hG dX11_dot_168 rfl ?_
      exact q_irt hG hE dX11_dot_172 ⟨rfl, (q_r.mono rl_1 (by decide))⟩
    by_cases z14_8 : x2.toInt = 8
    · skip
      refine q_tsIn (pc := 14) 8 173 hG dX11_dot_14 z14_8 (by decide) rfl rfl ?_
      refine q_aload_n (pc := 173) hG dX11_dot_173 0 rfl ?_
      refine q_getV (pc := 174) (v := .ref b1) hG fl_X11_41 dX11_dot_174 tA0 f1 ?_
      refine q_iload_n (pc := 177) hG dX11_dot_177 1 rfl ?_
      refine q_pV (pc := 178) [.int x1] [] hG (c_X7_painterOf τ σ b1 x1 hI T1) my_X7_painterOf mv_X7_painterOf w522 dX11_dot_178 T1 (by decide) rfl rfl (Nat.le_of_ble_eq_true rfl) (by decide) (fun v178 p178 => ?_)
      exact q_irt hG hE dX11_dot_181 ⟨rfl, (q_r.mono p178.1 (by decide))⟩
    refine q_tsOut (pc := 14) 182 hG dX11_dot_14 (by have q := (q_r_any x2); unfold q_r at q; omega) rfl ?_
    refine q_iconst (pc := 182) hG dX11_dot_182 ki_m1 ?_
    exact q_irt hG hE dX11_dot_183 ⟨rfl, (q_r.mono rl_m1 (by decide))⟩
  intro c8
  refine q_iconst (pc := 11) hG dX11_dot_11 ki_m1 ?_
  exact q_irt hG hE dX11_dot_12 ⟨rfl, (q_r.mono rl_m1 (by decide))⟩
theorem dX11_smooth_0 : decode cX11_smooth 0 = .ok (.iload_n 1, 1) := by decide +kernel
theorem dX11_smooth_1 : decode cX11_smooth 1 = .ok (.iconst 0, 1) := by decide +kernel
theorem dX11_smooth_2 : decode cX11_smooth 2 = .ok (.bipush 9, 2) := by decide +kernel
theorem dX11_smooth_4 : decode cX11_smooth 4 = .ok (.invokestatic 90, 3) := by decide +kernel
theorem dX11_smooth_7 : decode cX11_smooth 7 = .ok (.ifCond .eq 20, 3) := by decide +kernel
theorem dX11_smooth_10 : decode cX11_smooth 10 = .ok (.iload_n 2, 1) := by decide +kernel
theorem dX11_smooth_11 : decode cX11_smooth 11 = .ok (.bipush 100, 2) := by decide +kernel
theorem dX11_smooth_13 : decode cX11_smooth 13 = .ok (.if_icmp .eq 16, 3) := by decide +kernel
theorem dX11_smooth_16 : decode cX11_smooth 16 = .ok (.aload_n 0, 1) := by decide +kernel
theorem dX11_smooth_17 : decode cX11_smooth 17 = .ok (.getfield 41, 3) := by decide +kernel
theorem dX11_smooth_20 : decode cX11_smooth 20 = .ok (.iload_n 2, 1) := by decide +kernel
theorem dX11_smooth_21 : decode cX11_smooth 21 = .ok (.invokevirtual 184, 3) := by decide +kernel
theorem dX11_smooth_24 : decode cX11_smooth 24 = .ok (.ifCond .ne 5, 3) := by decide +kernel
theorem dX11_smooth_27 : decode cX11_smooth 27 = .ok (.iconst (-1), 1) := by decide +kernel
theorem dX11_smooth_28 : decode cX11_smooth 28 = .ok (.ireturn, 1) := by decide +kernel
theorem dX11_smooth_29 : decode cX11_smooth 29 = .ok (.aload_n 0, 1) := by decide +kernel
theorem dX11_smooth_30 : decode cX11_smooth 30 = .ok (.getfield 65, 3) := by decide +kernel
theorem dX11_smooth_33 : decode cX11_smooth 33 = .ok (.aload_n 0, 1) := by decide +kernel
theorem dX11_smooth_34 : decode cX11_smooth 34 = .ok (.getfield 41, 3) := by decide +kernel
theorem dX11_smooth_37 : decode cX11_smooth 37 = .ok (.iload_n 1, 1) := by decide +kernel
theorem dX11_smooth_38 : decode cX11_smooth 38 = .ok (.invokevirtual 215, 3) := by decide +kernel
theorem dX11_smooth_41 : decode cX11_smooth 41 = .ok (.istore_n 3, 1) := by decide +kernel
theorem dX11_smooth_42 : decode cX11_smooth 42 = .ok (.iload_n 2, 1) := by decide +kernel
theorem dX11_smooth_43 : decode cX11_smooth 43 = .ok (.bipush 100, 2) := by decide +kernel
theorem dX11_smooth_45 : decode cX11_smooth 45 = .ok (.if_icmp .ne 7, 3) := by decide +kernel
theorem dX11_smooth_48 : decode cX11_smooth 48 = .ok (.iload_n 3, 1) := by decide +kernel
theorem dX11_smooth_49 : decode cX11_smooth 49 = .ok (.goto 15, 3) := by decide +kernel
theorem dX11_smooth_52 : decode cX11_smooth 52 = .ok (.aload_n 0, 1) := by decide +kernel
theorem dX11_smooth_53 : decode cX11_smooth 53 = .ok (.getfield 65, 3) := by decide +kernel
theorem dX11_smooth_56 : decode cX11_smooth 56 = .ok (.getfield 219, 3) := by decide +kernel
theorem dX11_smooth_59 : decode cX11_smooth 59 = .ok (.iload_n 2, 1) := by decide +kernel
theorem dX11_smooth_60 : decode cX11_smooth 60 = .ok (.iaload, 1) := by decide +kernel
theorem dX11_smooth_61 : decode cX11_smooth 61 = .ok (.bipush 100, 2) := by decide +kernel
theorem dX11_smooth_63 : decode cX11_smooth 63 = .ok (.iadd, 1) := by decide +kernel
theorem dX11_smooth_64 : decode cX11_smooth 64 = .ok (.ireturn, 1) := by decide +kernel
def md_X11_smooth : List (Nat × Nat) := [(132, 0), (133, 0), (134, 0), (136, 0)]
set_option maxRecDepth 100000 in
set_option maxHeartbeats 4000000 in
theorem c_X11_smooth {l : Launch} {D : q_D} (τ : q_T) (σ : q_V) (a0 : Nat) (x1 : Int32) (x2 : Int32) (hI : q_I τ σ) (tA0 : τ a0 = some (9, 1)) : q_Ci l D yX11_smooth cX11_smooth 4 (some .int) 4 91 τ σ [.ref a0, .int x1, .int x2] (fun r σ1 => q_S md_X11_smooth τ σ σ1 ∧ (q_r r (-2147483648) 2147483647)) := by
  refine q_meti rfl (Nat.le_of_ble_eq_true rfl) (fun X hG hE => ?_)
  show q_O X 0 0 τ σ 0 [(0, .ref a0), (1, .int x1), (2, .int x2)] []
  have hS0 : q_S md_X11_smooth τ σ σ := q_S.rf hI
  refine q_iload_n (pc := 0) hG dX11_smooth_0 1 rfl ?_
  refine q_iconst (pc := 1) hG dX11_smooth_1 ki_0 ?_
  refine q_bipush (pc := 2) hG dX11_smooth_2 kb_9 ?_
  refine q_pS (pc := 4) [.int x1, .int 0, .int 9] [] hG (c_X11_isIn τ σ x1 0 9 hI) my_X11_isIn w238 w237 dX11_smooth_4 rfl rfl (Nat.le_of_ble_eq_true rfl) (by decide) (fun v4 p4 => ?_)
  refine q_if_eq (pc := 7) hG 27 dX11_smooth_7 rfl ?_ ?_
  · intro c7
    refine q_iconst (pc := 27) hG dX11_smooth_27 ki_m1 ?_
    exact q_irt hG hE dX11_smooth_28 ⟨hS0, (q_r.mono rl_m1 (by decide))⟩
  intro c7
  have g_1 := p4.2.2.mp (q_one p4.1 c7)
  have r_2 := q_rge (q_r_any x1) rl_0 g_1.1
  refine q_iload_n (pc := 10) hG dX11_smooth_10 2 rfl ?_
  refine q_bipush (pc := 11) hG dX11_smooth_11 kb_100 ?_
  have J29 : (x2.toInt = 100 ∨ (0 ≤ x2.toInt ∧ x2.toInt ≤ 63)) → q_O X 0 0 τ σ 29 [(0, .ref a0), (1, .int x1), (2, .int x2)] [] := by
    intro iA29
    refine q_aload_n (pc := 29) hG dX11_smooth_29 0 rfl ?_
    refine q_getR (pc := 30) (k2 := 1) (n2 := 1) hG fl_X11_65 dX11_smooth_30 hI tA0 ff_9_10 (fun b30 f30 T30 => ?_)
    refine q_aload_n (pc := 33) hG dX11_smooth_33 0 rfl ?_
    refine q_getR (pc := 34) (k2 := 6) (n2 := 1) hG fl_X11_41 dX11_smooth_34 hI tA0 ff_9_5 (fun b34 f34 T34 => ?_)
    refine q_iload_n (pc := 37) hG dX11_smooth_37 1 rfl ?_
    have r_3 := q_rle r_2 rl_9 g_1.2
    refine q_cVi (pc := 38) [.ref b34, .int x1] [] hG (c_X1_makeSmooth τ σ b30 b34 x1 hI T30 T34 r_3) my_X1_makeSmooth mv_X1_makeSmooth w527 dX11_smooth_38 T30 (by decide) rfl rfl (Nat.le_of_ble_eq_true rfl) (by decide) (fun v38 s38 p38 => ?_)
    have w38 := hS0.trans p38.1 rfl
    refine q_istore_n (pc := 41) [(3, .int v38), (0, .ref a0), (1, .int x1), (2, .int x2)] hG dX11_smooth_41 (by decide) rfl ?_
    refine q_iload_n (pc := 42) hG dX11_smooth_42 3 rfl ?_
    refine q_bipush (pc := 43) hG dX11_smooth_43 kb_100 ?_
    refine q_icmp_ne (pc := 45) hG 52 dX11_smooth_45 rfl ?_ ?_
    · intro c45
      refine q_aload_n (pc := 52) hG dX11_smooth_52 1 rfl ?_
      refine q_getV (pc := 53) (v := .ref b30) hG fl_X11_65 dX11_smooth_53 tA0 (w38.same tA0 rfl f30) ?_
      refine q_getR (pc := 56) (k2 := 136) (n2 := 64) hG fl_X11_219 dX11_smooth_56 w38.1 T30 ff_1_4 (fun b56 f56 T56 => ?_)
      have f_4 := (w38.2 _ _ _ _ T30 rfl).symm.trans f56
      refine q_iload_n (pc := 59) hG dX11_smooth_59 3 rfl ?_
      refine q_iald (pc := 60) hG dX11_smooth_60 w38.1 ai_136 T56 (by have o0 := iA29; have o1 := c45; have l2 := tl_100; omega) (fun v60 f60 g60 => ?_)
      refine q_bipush (pc := 61) hG dX11_smooth_61 kb_100 ?_
      refine q_iadd (pc := 63) hG dX11_smooth_63 (fun v63 e63 => ?_)
      exact q_irt hG hE dX11_smooth_64 ⟨w38, (q_r_any v63)⟩
    intro c45
    refine q_iload_n (pc := 48) hG dX11_smooth_48 0 rfl ?_
    refine q_goto (pc := 49) 64 hG dX11_smooth_49 rfl ?_
    exact q_irt hG hE dX11_smooth_64 ⟨w38, p38.2⟩
  refine q_icmp_eq (pc := 13) hG 29 dX11_smooth_13 rfl ?_ ?_
  · intro c13
    refine q_lv [0, 1, 2] rfl ?_
    have r_5 := q_req rl_100 c13
    exact J29 (by have o0 := c13; have o1 := r_5; have l2 := tl_100; unfold q_r at o1; omega)
  intro c13
  refine q_aload_n (pc := 16) hG dX11_smooth_16 0 rfl ?_
  refine q_getR (pc := 17) (k2 := 6) (n2 := 1) hG fl_X11_41 dX11_smooth_17 hI tA0 ff_9_5 (fun b17 f17 T17 => ?_)
  refine q_iload_n (pc := 20) hG dX11_smooth_20 2 rfl ?_
  refine q_pV (pc := 21) [.int x2] [] hG (c_X7_isDot τ σ b17 x2 hI T17) my_X7_isDot mv_X7_isDot w517 dX11_smooth_21 T17 (by decide) rfl rfl (Nat.le_of_ble_eq_true rfl) (by decide) (fun v21 p21 => ?_)
  refine q_if_ne (pc := 24) hG 29 dX11_smooth_24 rfl ?_ ?_
  · intro c24
    have g_6 := p21.2.2.1 (q_one p21.1 c24)
    have r_7 := q_rge (q_r_any x2) rl_0 (show (0 : Int32).toInt ≤ _ from g_6.1)
    refine q_lv [0, 1, 2] rfl ?_
    have r_8 := q_rle r_7 rl_63 (show _ ≤ (63 : Int32).toInt from g_6.2)
    exact J29 (by have o0 := c13; have o1 := (show (0 : Int32).toInt ≤ _ from g_6.1); have o2 := (show _ ≤ (63 : Int32).toInt from g_6.2); have o3 := r_8; have l4 := tl_0; have l5 := tl_63; have l6 := tl_100; unfold q_r at o3; omega)
  intro c24
  refine q_iconst (pc := 27) hG dX11_smooth_27 ki_m1 ?_
  exact q_irt hG hE dX11_smooth_28 ⟨hS0, (q_r.mono rl_m1 (by decide))⟩
theorem dX11_apart_0 : decode cX11_apart 0 = .ok (.iload_n 1, 1) := by decide +kernel
theorem dX11_apart_1 : decode cX11_apart 1 = .ok (.iconst 0, 1) := by decide +kernel
theorem dX11_apart_2 : decode cX11_apart 2 = .ok (.bipush 99, 2) := by decide +kernel
theorem dX11_apart_4 : decode cX11_apart 4 = .ok (.invokestatic 90, 3) := by decide +kernel
theorem dX11_apart_7 : decode cX11_apart 7 = .ok (.ifCond .eq 12, 3) := by decide +kernel
theorem dX11_apart_10 : decode cX11_apart 10 = .ok (.iload_n 2, 1) := by decide +kernel
theorem dX11_apart_11 : decode cX11_apart 11 = .ok (.iconst 0, 1) := by decide +kernel
theorem dX11_apart_12 : decode cX11_apart 12 = .ok (.iconst 1, 1) := by decide +kernel
theorem dX11_apart_13 : decode cX11_apart 13 = .ok (.invokestatic 90, 3) := by decide +kernel
theorem dX11_apart_16 : decode cX11_apart 16 = .ok (.ifCond .ne 5, 3) := by decide +kernel
theorem dX11_apart_19 : decode cX11_apart 19 = .ok (.iconst (-1), 1) := by decide +kernel
theorem dX11_apart_20 : decode cX11_apart 20 = .ok (.ireturn, 1) := by decide +kernel
theorem dX11_apart_21 : decode cX11_apart 21 = .ok (.aload_n 0, 1) := by decide +kernel
theorem dX11_apart_22 : decode cX11_apart 22 = .ok (.getfield 41, 3) := by decide +kernel
theorem dX11_apart_25 : decode cX11_apart 25 = .ok (.iload_n 1, 1) := by decide +kernel
theorem dX11_apart_26 : decode cX11_apart 26 = .ok (.invokestatic 222, 3) := by decide +kernel
theorem dX11_apart_29 : decode cX11_apart 29 = .ok (.istore_n 3, 1) := by decide +kernel
theorem dX11_apart_30 : decode cX11_apart 30 = .ok (.iload_n 2, 1) := by decide +kernel
theorem dX11_apart_31 : decode cX11_apart 31 = .ok (.ifCond .ne 7, 3) := by decide +kernel
theorem dX11_apart_34 : decode cX11_apart 34 = .ok (.iload_n 3, 1) := by decide +kernel
theorem dX11_apart_35 : decode cX11_apart 35 = .ok (.goto 11, 3) := by decide +kernel
theorem dX11_apart_38 : decode cX11_apart 38 = .ok (.aload_n 0, 1) := by decide +kernel
theorem dX11_apart_39 : decode cX11_apart 39 = .ok (.getfield 41, 3) := by decide +kernel
theorem dX11_apart_42 : decode cX11_apart 42 = .ok (.iload_n 3, 1) := by decide +kernel
theorem dX11_apart_43 : decode cX11_apart 43 = .ok (.invokestatic 225, 3) := by decide +kernel
theorem dX11_apart_46 : decode cX11_apart 46 = .ok (.ireturn, 1) := by decide +kernel
set_option maxRecDepth 100000 in
set_option maxHeartbeats 4000000 in
theorem c_X11_apart {l : Launch} {D : q_D} (τ : q_T) (σ : q_V) (a0 : Nat) (x1 : Int32) (x2 : Int32) (hI : q_I τ σ) (tA0 : τ a0 = some (9, 1)) : q_Cp l D yX11_apart cX11_apart 4 (some .int) 5 113 τ σ [.ref a0, .int x1, .int x2] (fun r => q_r r (-2147483648) 2147483647) := by
  refine q_meti rfl (Nat.le_of_ble_eq_true rfl) (fun X hG hE => ?_)
  show q_O X 0 0 τ σ 0 [(0, .ref a0), (1, .int x1), (2, .int x2)] []
  refine q_iload_n (pc := 0) hG dX11_apart_0 1 rfl ?_
  refine q_iconst (pc := 1) hG dX11_apart_1 ki_0 ?_
  refine q_bipush (pc := 2) hG dX11_apart_2 kb_99 ?_
  refine q_pS (pc := 4) [.int x1, .int 0, .int 99] [] hG (c_X11_isIn τ σ x1 0 99 hI) my_X11_isIn w238 w237 dX11_apart_4 rfl rfl (Nat.le_of_ble_eq_true rfl) (by decide) (fun v4 p4 => ?_)
  refine q_if_eq (pc := 7) hG 19 dX11_apart_7 rfl ?_ ?_
  · intro c7
    refine q_iconst (pc := 19) hG dX11_apart_19 ki_m1 ?_
    exact q_irt hG hE dX11_apart_20 ⟨rfl, (q_r.mono rl_m1 (by decide))⟩
  intro c7
  have g_1 := p4.2.2.mp (q_one p4.1 c7)
  have r_2 := q_rge (q_r_any x1) rl_0 g_1.1
  refine q_iload_n (pc := 10) hG dX11_apart_10 2 rfl ?_
  refine q_iconst (pc := 11) hG dX11_apart_11 ki_0 ?_
  refine q_iconst (pc := 12) hG dX11_apart_12 ki_1 ?_
  refine q_pS (pc := 13) [.int x2, .int 0, .int 1] [] hG (c_X11_isIn τ σ x2 0 1 hI) my_X11_isIn w238 w237 dX11_apart_13 rfl rfl (Nat.le_of_ble_eq_true rfl) (by decide) (fun v13 p13 => ?_)
  refine q_if_ne (pc := 16) hG 21 dX11_apart_16 rfl ?_ ?_
  · intro c16
    have g_3 := p13.2.2.mp (q_one p13.1 c16)
    have r_4 := q_rge (q_r_any x2) rl_0 g_3.1
    refine q_aload_n (pc := 21) hG dX11_apart_21 0 rfl ?_
    refine q_getR (pc := 22) (k2 := 6) (n2 := 1) hG fl_X11_41 dX11_apart_22 hI tA0 ff_9_5 (fun b22 f22 T22 => ?_)
    refine q_iload_n (pc := 25) hG dX11_apart_25 1 rfl ?_
    refine q_pS (pc := 26) [.ref b22, .int x1] [] hG (c_X1_greatestApart τ σ b22 x1 hI T22) my_X1_greatestApart w544 w543 dX11_apart_26 rfl rfl (Nat.le_of_ble_eq_true rfl) (by decide) (fun v26 p26 => ?_)
    refine q_istore_n (pc := 29) [(3, .int v26), (0, .ref a0), (1, .int x1), (2, .int x2)] hG dX11_apart_29 (by decide) rfl ?_
    refine q_iload_n (pc := 30) hG dX11_apart_30 3 rfl ?_
    refine q_if_ne (pc := 31) hG 38 dX11_apart_31 rfl ?_ ?_
    · intro c31
      have r_5 := q_rle r_4 rl_1 g_3.2
      refine q_aload_n (pc := 38) hG dX11_apart_38 1 rfl ?_
      refine q_getV (pc := 39) (v := .ref b22) hG fl_X11_41 dX11_apart_39 tA0 f22 ?_
      refine q_iload_n (pc := 42) hG dX11_apart_42 0 rfl ?_
      refine q_pS (pc := 43) [.ref b22, .int v26] [] hG (c_X1_offByApart τ σ b22 v26 hI T22 p26) my_X1_offByApart w558 w557 dX11_apart_43 rfl rfl (Nat.le_of_ble_eq_true rfl) (by decide) (fun v43 p43 => ?_)
      exact q_irt hG hE dX11_apart_46 ⟨rfl, p43⟩
    intro c31
    have r_6 := q_rle r_4 rl_1 g_3.2
    refine q_iload_n (pc := 34) hG dX11_apart_34 0 rfl ?_
    refine q_goto (pc := 35) 46 hG dX11_apart_35 rfl ?_
    exact q_irt hG hE dX11_apart_46 ⟨rfl, (q_r.mono p26 (by decide))⟩
  intro c16
  refine q_iconst (pc := 19) hG dX11_apart_19 ki_m1 ?_
  exact q_irt hG hE dX11_apart_20 ⟨rfl, (q_r.mono rl_m1 (by decide))⟩
theorem dX11_seen_0 : decode cX11_seen 0 = .ok (.aload_n 0, 1) := by decide +kernel
theorem dX11_seen_1 : decode cX11_seen 1 = .ok (.getfield 41, 3) := by decide +kernel
theorem dX11_seen_4 : decode cX11_seen 4 = .ok (.iload_n 1, 1) := by decide +kernel
theorem dX11_seen_5 : decode cX11_seen 5 = .ok (.invokevirtual 184, 3) := by decide +kernel
theorem dX11_seen_8 : decode cX11_seen 8 = .ok (.ifCond .eq 19, 3) := by decide +kernel
theorem dX11_seen_11 : decode cX11_seen 11 = .ok (.iload_n 2, 1) := by decide +kernel
theorem dX11_seen_12 : decode cX11_seen 12 = .ok (.iconst 0, 1) := by decide +kernel
theorem dX11_seen_13 : decode cX11_seen 13 = .ok (.iconst 1, 1) := by decide +kernel
theorem dX11_seen_14 : decode cX11_seen 14 = .ok (.invokestatic 90, 3) := by decide +kernel
theorem dX11_seen_17 : decode cX11_seen 17 = .ok (.ifCond .eq 10, 3) := by decide +kernel
theorem dX11_seen_20 : decode cX11_seen 20 = .ok (.iload_n 3, 1) := by decide +kernel
theorem dX11_seen_21 : decode cX11_seen 21 = .ok (.invokestatic 228, 3) := by decide +kernel
theorem dX11_seen_24 : decode cX11_seen 24 = .ok (.ifCond .ne 5, 3) := by decide +kernel
theorem dX11_seen_27 : decode cX11_seen 27 = .ok (.iconst (-1), 1) := by decide +kernel
theorem dX11_seen_28 : decode cX11_seen 28 = .ok (.ireturn, 1) := by decide +kernel
theorem dX11_seen_29 : decode cX11_seen 29 = .ok (.aload_n 0, 1) := by decide +kernel
theorem dX11_seen_30 : decode cX11_seen 30 = .ok (.getfield 41, 3) := by decide +kernel
theorem dX11_seen_33 : decode cX11_seen 33 = .ok (.iload_n 1, 1) := by decide +kernel
theorem dX11_seen_34 : decode cX11_seen 34 = .ok (.iload_n 2, 1) := by decide +kernel
theorem dX11_seen_35 : decode cX11_seen 35 = .ok (.iload_n 3, 1) := by decide +kernel
theorem dX11_seen_36 : decode cX11_seen 36 = .ok (.invokestatic 231, 3) := by decide +kernel
theorem dX11_seen_39 : decode cX11_seen 39 = .ok (.ireturn, 1) := by decide +kernel
set_option maxRecDepth 100000 in
set_option maxHeartbeats 4000000 in
theorem c_X11_seen {l : Launch} {D : q_D} (τ : q_T) (σ : q_V) (a0 : Nat) (x1 : Int32) (x2 : Int32) (x3 : Int32) (hI : q_I τ σ) (tA0 : τ a0 = some (9, 1)) : q_Cp l D yX11_seen cX11_seen 4 (some .int) 2 50 τ σ [.ref a0, .int x1, .int x2, .int x3] (fun r => q_r r (-2147483648) 2147483647) := by
  refine q_meti rfl (Nat.le_of_ble_eq_true rfl) (fun X hG hE => ?_)
  show q_O X 0 0 τ σ 0 [(0, .ref a0), (1, .int x1), (2, .int x2), (3, .int x3)] []
  refine q_aload_n (pc := 0) hG dX11_seen_0 0 rfl ?_
  refine q_getR (pc := 1) (k2 := 6) (n2 := 1) hG fl_X11_41 dX11_seen_1 hI tA0 ff_9_5 (fun b1 f1 T1 => ?_)
  refine q_iload_n (pc := 4) hG dX11_seen_4 1 rfl ?_
  refine q_pV (pc := 5) [.int x1] [] hG (c_X7_isDot τ σ b1 x1 hI T1) my_X7_isDot mv_X7_isDot w517 dX11_seen_5 T1 (by decide) rfl rfl (Nat.le_of_ble_eq_true rfl) (by decide) (fun v5 p5 => ?_)
  refine q_if_eq (pc := 8) hG 27 dX11_seen_8 rfl ?_ ?_
  · intro c8
    refine q_iconst (pc := 27) hG dX11_seen_27 ki_m1 ?_
    exact q_irt hG hE dX11_seen_28 ⟨rfl, (q_r.mono rl_m1 (by decide))⟩
  intro c8
  have g_1 := p5.2.2.1 (q_one p5.1 c8)
  have r_2 := q_rge (q_r_any x1) rl_0 (show (0 : Int32).toInt ≤ _ from g_1.1)
  refine q_iload_n (pc := 11) hG dX11_seen_11 2 rfl ?_
  refine q_iconst (pc := 12) hG dX11_seen_12 ki_0 ?_
  refine q_iconst (pc := 13) hG dX11_seen_13 ki_1 ?_
  refine q_pS (pc := 14) [.int x2, .int 0, .int 1] [] hG (c_X11_isIn τ σ x2 0 1 hI) my_X11_isIn w238 w237 dX11_seen_14 rfl rfl (Nat.le_of_ble_eq_true rfl) (by decide) (fun v14 p14 => ?_)
  refine q_if_eq (pc := 17) hG 27 dX11_seen_17 rfl ?_ ?_
  · intro c17
    refine q_iconst (pc := 27) hG dX11_seen_27 ki_m1 ?_
    exact q_irt hG hE dX11_seen_28 ⟨rfl, (q_r.mono rl_m1 (by decide))⟩
  intro c17
  have g_3 := p14.2.2.mp (q_one p14.1 c17)
  have r_4 := q_rge (q_r_any x2) rl_0 g_3.1
  refine q_iload_n (pc := 20) hG dX11_seen_20 3 rfl ?_
  refine q_pS (pc := 21) [.int x3] [] hG (c_X11_isEye τ σ x3 hI) my_X11_isEye w568 w567 dX11_seen_21 rfl rfl (Nat.le_of_ble_eq_true rfl) (by decide) (fun v21 p21 => ?_)
  refine q_if_ne (pc := 24) hG 29 dX11_seen_24 rfl ?_ ?_
  · intro c24
    have g_5 := p21.2.mp (q_one p21.1 c24)
    have r_6 := q_rge (q_r_any x3) rl_1 (show (1 : Int32).toInt ≤ _ from g_5.1)
    refine q_aload_n (pc := 29) hG dX11_seen_29 0 rfl ?_
    refine q_getV (pc := 30) (v := .ref b1) hG fl_X11_41 dX11_seen_30 tA0 f1 ?_
    refine q_iload_n (pc := 33) hG dX11_seen_33 1 rfl ?_
    refine q_iload_n (pc := 34) hG dX11_seen_34 2 rfl ?_
    refine q_iload_n (pc := 35) hG dX11_seen_35 3 rfl ?_
    have r_7 := q_rle r_2 rl_63 (show _ ≤ (63 : Int32).toInt from g_1.2)
    have r_8 := q_rle r_4 rl_1 g_3.2
    refine q_pS (pc := 36) [.ref b1, .int x1, .int x2, .int x3] [] hG (c_X9_dotsAhead τ σ b1 x1 x2 x3 hI T1 r_7 r_8) my_X9_dotsAhead w571 w570 dX11_seen_36 rfl rfl (Nat.le_of_ble_eq_true rfl) (by decide) (fun v36 p36 => ?_)
    exact q_irt hG hE dX11_seen_39 ⟨rfl, p36⟩
  intro c24
  refine q_iconst (pc := 27) hG dX11_seen_27 ki_m1 ?_
  exact q_irt hG hE dX11_seen_28 ⟨rfl, (q_r.mono rl_m1 (by decide))⟩
theorem dX11_marked_0 : decode cX11_marked 0 = .ok (.aload_n 0, 1) := by decide +kernel
theorem dX11_marked_1 : decode cX11_marked 1 = .ok (.getfield 41, 3) := by decide +kernel
theorem dX11_marked_4 : decode cX11_marked 4 = .ok (.iload_n 1, 1) := by decide +kernel
theorem dX11_marked_5 : decode cX11_marked 5 = .ok (.invokevirtual 184, 3) := by decide +kernel
theorem dX11_marked_8 : decode cX11_marked 8 = .ok (.ifCond .eq 10, 3) := by decide +kernel
theorem dX11_marked_11 : decode cX11_marked 11 = .ok (.iload_n 2, 1) := by decide +kernel
theorem dX11_marked_12 : decode cX11_marked 12 = .ok (.invokestatic 228, 3) := by decide +kernel
theorem dX11_marked_15 : decode cX11_marked 15 = .ok (.ifCond .ne 5, 3) := by decide +kernel
theorem dX11_marked_18 : decode cX11_marked 18 = .ok (.iconst (-1), 1) := by decide +kernel
theorem dX11_marked_19 : decode cX11_marked 19 = .ok (.ireturn, 1) := by decide +kernel
theorem dX11_marked_20 : decode cX11_marked 20 = .ok (.aload_n 0, 1) := by decide +kernel
theorem dX11_marked_21 : decode cX11_marked 21 = .ok (.getfield 41, 3) := by decide +kernel
theorem dX11_marked_24 : decode cX11_marked 24 = .ok (.aload_n 0, 1) := by decide +kernel
theorem dX11_marked_25 : decode cX11_marked 25 = .ok (.getfield 34, 3) := by decide +kernel
theorem dX11_marked_28 : decode cX11_marked 28 = .ok (.iload_n 1, 1) := by decide +kernel
theorem dX11_marked_29 : decode cX11_marked 29 = .ok (.iload_n 2, 1) := by decide +kernel
theorem dX11_marked_30 : decode cX11_marked 30 = .ok (.invokestatic 237, 3) := by decide +kernel
theorem dX11_marked_33 : decode cX11_marked 33 = .ok (.ireturn, 1) := by decide +kernel
def md_X11_marked : List (Nat × Nat) := [(3, 9), (3, 10), (3, 11), (3, 12), (3, 13), (3, 14), (3, 15), (117, 0)]
set_option maxRecDepth 100000 in
set_option maxHeartbeats 4000000 in
theorem c_X11_marked {l : Launch} {D : q_D} (τ : q_T) (σ : q_V) (a0 : Nat) (x1 : Int32) (x2 : Int32) (hI : q_I τ σ) (tA0 : τ a0 = some (9, 1)) : q_Ci l D yX11_marked cX11_marked 3 (some .int) 7 168 τ σ [.ref a0, .int x1, .int x2] (fun r σ1 => q_S md_X11_marked τ σ σ1 ∧ (q_r r (-1) 3)) := by
  refine q_meti rfl (Nat.le_of_ble_eq_true rfl) (fun X hG hE => ?_)
  show q_O X 0 0 τ σ 0 [(0, .ref a0), (1, .int x1), (2, .int x2)] []
  have hS0 : q_S md_X11_marked τ σ σ := q_S.rf hI
  refine q_aload_n (pc := 0) hG dX11_marked_0 0 rfl ?_
  refine q_getR (pc := 1) (k2 := 6) (n2 := 1) hG fl_X11_41 dX11_marked_1 hI tA0 ff_9_5 (fun b1 f1 T1 => ?_)
  refine q_iload_n (pc := 4) hG dX11_marked_4 1 rfl ?_
  refine q_pV (pc := 5) [.int x1] [] hG (c_X7_isDot τ σ b1 x1 hI T1) my_X7_isDot mv_X7_isDot w517 dX11_marked_5 T1 (by decide) rfl rfl (Nat.le_of_ble_eq_true rfl) (by decide) (fun v5 p5 => ?_)
  refine q_if_eq (pc := 8) hG 18 dX11_marked_8 rfl ?_ ?_
  · intro c8
    refine q_iconst (pc := 18) hG dX11_marked_18 ki_m1 ?_
    exact q_irt hG hE dX11_marked_19 ⟨hS0, (q_r.mono rl_m1 (by decide))⟩
  intro c8
  have g_1 := p5.2.2.1 (q_one p5.1 c8)
  have r_2 := q_rge (q_r_any x1) rl_0 (show (0 : Int32).toInt ≤ _ from g_1.1)
  refine q_iload_n (pc := 11) hG dX11_marked_11 2 rfl ?_
  refine q_pS (pc := 12) [.int x2] [] hG (c_X11_isEye τ σ x2 hI) my_X11_isEye w568 w567 dX11_marked_12 rfl rfl (Nat.le_of_ble_eq_true rfl) (by decide) (fun v12 p12 => ?_)
  refine q_if_ne (pc := 15) hG 20 dX11_marked_15 rfl ?_ ?_
  · intro c15
    have g_3 := p12.2.mp (q_one p12.1 c15)
    have r_4 := q_rge (q_r_any x2) rl_1 (show (1 : Int32).toInt ≤ _ from g_3.1)
    refine q_aload_n (pc := 20) hG dX11_marked_20 0 rfl ?_
    refine q_getV (pc := 21) (v := .ref b1) hG fl_X11_41 dX11_marked_21 tA0 f1 ?_
    refine q_aload_n (pc := 24) hG dX11_marked_24 0 rfl ?_
    refine q_getR (pc := 25) (k2 := 3) (n2 := 1) hG fl_X11_34 dX11_marked_25 hI tA0 ff_9_4 (fun b25 f25 T25 => ?_)
    refine q_iload_n (pc := 28) hG dX11_marked_28 1 rfl ?_
    refine q_iload_n (pc := 29) hG dX11_marked_29 2 rfl ?_
    have r_5 := q_rle r_2 rl_63 (show _ ≤ (63 : Int32).toInt from g_1.2)
    refine q_cSi (pc := 30) [.ref b1, .ref b25, .int x1, .int x2] [] hG (c_X9_marking τ σ b1 b25 x1 x2 hI T1 T25 r_5) my_X9_marking w579 w578 dX11_marked_30 rfl rfl (Nat.le_of_ble_eq_true rfl) (by decide) (fun v30 s30 p30 => ?_)
    have w30 := hS0.trans p30.1 rfl
    exact q_irt hG hE dX11_marked_33 ⟨w30, (q_r.mono p30.2 (by decide))⟩
  intro c15
  refine q_iconst (pc := 18) hG dX11_marked_18 ki_m1 ?_
  exact q_irt hG hE dX11_marked_19 ⟨hS0, (q_r.mono rl_m1 (by decide))⟩
theorem dX11_markings_0 : decode cX11_markings 0 = .ok (.iload_n 1, 1) := by decide +kernel
theorem dX11_markings_1 : decode cX11_markings 1 = .ok (.invokestatic 228, 3) := by decide +kernel
theorem dX11_markings_4 : decode cX11_markings 4 = .ok (.ifCond .eq 21, 3) := by decide +kernel
theorem dX11_markings_7 : decode cX11_markings 7 = .ok (.iload_n 2, 1) := by decide +kernel
theorem dX11_markings_8 : decode cX11_markings 8 = .ok (.iconst 0, 1) := by decide +kernel
theorem dX11_markings_9 : decode cX11_markings 9 = .ok (.iconst 3, 1) := by decide +kernel
theorem dX11_markings_10 : decode cX11_markings 10 = .ok (.invokestatic 90, 3) := by decide +kernel
theorem dX11_markings_13 : decode cX11_markings 13 = .ok (.ifCond .eq 12, 3) := by decide +kernel
theorem dX11_markings_16 : decode cX11_markings 16 = .ok (.iload_n 3, 1) := by decide +kernel
theorem dX11_markings_17 : decode cX11_markings 17 = .ok (.iconst 0, 1) := by decide +kernel
theorem dX11_markings_18 : decode cX11_markings 18 = .ok (.iconst 1, 1) := by decide +kernel
theorem dX11_markings_19 : decode cX11_markings 19 = .ok (.invokestatic 90, 3) := by decide +kernel
theorem dX11_markings_22 : decode cX11_markings 22 = .ok (.ifCond .ne 5, 3) := by decide +kernel
theorem dX11_markings_25 : decode cX11_markings 25 = .ok (.iconst (-1), 1) := by decide +kernel
theorem dX11_markings_26 : decode cX11_markings 26 = .ok (.ireturn, 1) := by decide +kernel
theorem dX11_markings_27 : decode cX11_markings 27 = .ok (.iconst 0, 1) := by decide +kernel
theorem dX11_markings_28 : decode cX11_markings 28 = .ok (.istore 4, 2) := by decide +kernel
theorem dX11_markings_30 : decode cX11_markings 30 = .ok (.iconst 0, 1) := by decide +kernel
theorem dX11_markings_31 : decode cX11_markings 31 = .ok (.istore 5, 2) := by decide +kernel
theorem dX11_markings_33 : decode cX11_markings 33 = .ok (.iconst 0, 1) := by decide +kernel
theorem dX11_markings_34 : decode cX11_markings 34 = .ok (.istore 6, 2) := by decide +kernel
theorem dX11_markings_36 : decode cX11_markings 36 = .ok (.iconst 0, 1) := by decide +kernel
theorem dX11_markings_37 : decode cX11_markings 37 = .ok (.istore 7, 2) := by decide +kernel
theorem dX11_markings_39 : decode cX11_markings 39 = .ok (.iload 7, 2) := by decide +kernel
theorem dX11_markings_41 : decode cX11_markings 41 = .ok (.aload_n 0, 1) := by decide +kernel
theorem dX11_markings_42 : decode cX11_markings 42 = .ok (.getfield 41, 3) := by decide +kernel
theorem dX11_markings_45 : decode cX11_markings 45 = .ok (.getfield 98, 3) := by decide +kernel
theorem dX11_markings_48 : decode cX11_markings 48 = .ok (.if_icmp .ge 48, 3) := by decide +kernel
theorem dX11_markings_51 : decode cX11_markings 51 = .ok (.aload_n 0, 1) := by decide +kernel
theorem dX11_markings_52 : decode cX11_markings 52 = .ok (.getfield 41, 3) := by decide +kernel
theorem dX11_markings_55 : decode cX11_markings 55 = .ok (.aload_n 0, 1) := by decide +kernel
theorem dX11_markings_56 : decode cX11_markings 56 = .ok (.getfield 34, 3) := by decide +kernel
theorem dX11_markings_59 : decode cX11_markings 59 = .ok (.iload 7, 2) := by decide +kernel
theorem dX11_markings_61 : decode cX11_markings 61 = .ok (.iload_n 1, 1) := by decide +kernel
theorem dX11_markings_62 : decode cX11_markings 62 = .ok (.invokestatic 237, 3) := by decide +kernel
theorem dX11_markings_65 : decode cX11_markings 65 = .ok (.iload_n 2, 1) := by decide +kernel
theorem dX11_markings_66 : decode cX11_markings 66 = .ok (.if_icmp .ne 12, 3) := by decide +kernel
theorem dX11_markings_69 : decode cX11_markings 69 = .ok (.iinc 4 1, 3) := by decide +kernel
theorem dX11_markings_72 : decode cX11_markings 72 = .ok (.iinc 5 1, 3) := by decide +kernel
theorem dX11_markings_75 : decode cX11_markings 75 = .ok (.goto 6, 3) := by decide +kernel
theorem dX11_markings_78 : decode cX11_markings 78 = .ok (.iconst 0, 1) := by decide +kernel
theorem dX11_markings_79 : decode cX11_markings 79 = .ok (.istore 5, 2) := by decide +kernel
theorem dX11_markings_81 : decode cX11_markings 81 = .ok (.iload 6, 2) := by decide +kernel
theorem dX11_markings_83 : decode cX11_markings 83 = .ok (.iload 5, 2) := by decide +kernel
theorem dX11_markings_85 : decode cX11_markings 85 = .ok (.invokestatic 241, 3) := by decide +kernel
theorem dX11_markings_88 : decode cX11_markings 88 = .ok (.istore 6, 2) := by decide +kernel
theorem dX11_markings_90 : decode cX11_markings 90 = .ok (.iinc 7 1, 3) := by decide +kernel
theorem dX11_markings_93 : decode cX11_markings 93 = .ok (.goto (-54), 3) := by decide +kernel
theorem dX11_markings_96 : decode cX11_markings 96 = .ok (.iload_n 3, 1) := by decide +kernel
theorem dX11_markings_97 : decode cX11_markings 97 = .ok (.ifCond .ne 8, 3) := by decide +kernel
theorem dX11_markings_100 : decode cX11_markings 100 = .ok (.iload 4, 2) := by decide +kernel
theorem dX11_markings_102 : decode cX11_markings 102 = .ok (.goto 5, 3) := by decide +kernel
theorem dX11_markings_105 : decode cX11_markings 105 = .ok (.iload 6, 2) := by decide +kernel
theorem dX11_markings_107 : decode cX11_markings 107 = .ok (.ireturn, 1) := by decide +kernel
def md_X11_markings : List (Nat × Nat) := [(3, 9), (3, 10), (3, 11), (3, 12), (3, 13), (3, 14), (3, 15), (117, 0)]
set_option maxRecDepth 100000 in
set_option maxHeartbeats 4000000 in
theorem c_X11_markings {l : Launch} {D : q_D} (τ : q_T) (σ : q_V) (a0 : Nat) (x1 : Int32) (x2 : Int32) (x3 : Int32) (hI : q_I τ σ) (tA0 : τ a0 = some (9, 1)) : q_Ci l D yX11_markings cX11_markings 8 (some .int) 7 168 τ σ [.ref a0, .int x1, .int x2, .int x3] (fun r σ1 => q_S md_X11_markings τ σ σ1 ∧ (q_r r (-2147483648) 2147483647)) := by
  refine q_meti rfl (Nat.le_of_ble_eq_true rfl) (fun X hG hE => ?_)
  show q_O X 0 0 τ σ 0 [(0, .ref a0), (1, .int x1), (2, .int x2), (3, .int x3)] []
  have hS0 : q_S md_X11_markings τ σ σ := q_S.rf hI
  refine q_iload_n (pc := 0) hG dX11_markings_0 1 rfl ?_
  refine q_pS (pc := 1) [.int x1] [] hG (c_X11_isEye τ σ x1 hI) my_X11_isEye w568 w567 dX11_markings_1 rfl rfl (Nat.le_of_ble_eq_true rfl) (by decide) (fun v1 p1 => ?_)
  refine q_if_eq (pc := 4) hG 25 dX11_markings_4 rfl ?_ ?_
  · intro c4
    refine q_iconst (pc := 25) hG dX11_markings_25 ki_m1 ?_
    exact q_irt hG hE dX11_markings_26 ⟨hS0, (q_r.mono rl_m1 (by decide))⟩
  intro c4
  have g_1 := p1.2.mp (q_one p1.1 c4)
  have r_2 := q_rge (q_r_any x1) rl_1 (show (1 : Int32).toInt ≤ _ from g_1.1)
  refine q_iload_n (pc := 7) hG dX11_markings_7 2 rfl ?_
  refine q_iconst (pc := 8) hG dX11_markings_8 ki_0 ?_
  refine q_iconst (pc := 9) hG dX11_markings_9 ki_3 ?_
  refine q_pS (pc := 10) [.int x2, .int 0, .int 3] [] hG (c_X11_isIn τ σ x2 0 3 hI) my_X11_isIn w238 w237 dX11_markings_10 rfl rfl (Nat.le_of_ble_eq_true rfl) (by decide) (fun v10 p10 => ?_)
  refine q_if_eq (pc := 13) hG 25 dX11_markings_13 rfl ?_ ?_
  · intro c13
    refine q_iconst (pc := 25) hG dX11_markings_25 ki_m1 ?_
    exact q_irt hG hE dX11_markings_26 ⟨hS0, (q_r.mono rl_m1 (by decide))⟩
  intro c13
  have g_3 := p10.2.2.mp (q_one p10.1 c13)
  have r_4 := q_rge (q_r_any x2) rl_0 g_3.1
  refine q_iload_n (pc := 16) hG dX11_markings_16 3 rfl ?_
  refine q_iconst (pc := 17) hG dX11_markings_17 ki_0 ?_
  refine q_iconst (pc := 18) hG dX11_markings_18 ki_1 ?_
  refine q_pS (pc := 19) [.int x3, .int 0, .int 1] [] hG (c_X11_isIn τ σ x3 0 1 hI) my_X11_isIn w238 w237 dX11_markings_19 rfl rfl (Nat.le_of_ble_eq_true rfl) (by decide) (fun v19 p19 => ?_)
  refine q_if_ne (pc := 22) hG 27 dX11_markings_22 rfl ?_ ?_
  · intro c22
    have g_5 := p19.2.2.mp (q_one p19.1 c22)
    have r_6 := q_rge (q_r_any x3) rl_0 g_5.1
    refine q_iconst (pc := 27) hG dX11_markings_27 ki_0 ?_
    refine q_istore (pc := 28) [(4, .int 0), (0, .ref a0), (1, .int x1), (2, .int x2), (3, .int x3)] hG dX11_markings_28 (by decide) rfl ?_
    refine q_iconst (pc := 30) hG dX11_markings_30 ki_0 ?_
    refine q_istore (pc := 31) [(5, .int 0), (4, .int 0), (0, .ref a0), (1, .int x1), (2, .int x2), (3, .int x3)] hG dX11_markings_31 (by decide) rfl ?_
    refine q_iconst (pc := 33) hG dX11_markings_33 ki_0 ?_
    refine q_istore (pc := 34) [(6, .int 0), (5, .int 0), (4, .int 0), (0, .ref a0), (1, .int x1), (2, .int x2), (3, .int x3)] hG dX11_markings_34 (by decide) rfl ?_
    refine q_iconst (pc := 36) hG dX11_markings_36 ki_0 ?_
    refine q_istore (pc := 37) [(7, .int 0), (6, .int 0), (5, .int 0), (4, .int 0), (0, .ref a0), (1, .int x1), (2, .int x2), (3, .int x3)] hG dX11_markings_37 (by decide) rfl ?_
    have J39 : ∀ (n39 : Nat) (p39_4 : Int32) (p39_5 : Int32) (p39_6 : Int32) (p39_7 : Int32) (σ39 : q_V), (q_r p39_6 0 2147483647) → (q_r p39_7 0 64) → (q_S md_X11_markings τ σ σ39) → ((64 - p39_7.toInt).toNat < n39) → q_O X 0 0 τ σ39 39 [(0, .ref a0), (1, .int x1), (2, .int x2), (3, .int x3), (4, .int p39_4), (5, .int p39_5), (6, .int p39_6), (7, .int p39_7)] [] := by
      intro n39
      induction n39 with
      | zero => intro p39_4 p39_5 p39_6 p39_7 σ39 r39_6 r39_7 hS39 hm39; exact absurd hm39 (Nat.not_lt_zero _)
      | succ n39 ih39 =>
        intro p39_4 p39_5 p39_6 p39_7 σ39 r39_6 r39_7 hS39 hm39
        refine q_iload (pc := 39) hG dX11_markings_39 7 rfl ?_
        refine q_aload_n (pc := 41) hG dX11_markings_41 0 rfl ?_
        refine q_getR (pc := 42) (k2 := 6) (n2 := 1) hG fl_X11_41 dX11_markings_42 hS39.1 tA0 ff_9_5 (fun b42 f42 T42 => ?_)
        have f_7 := (hS39.2 _ _ _ _ tA0 rfl).symm.trans f42
        refine q_getI (pc := 45) hG fl_X11_98 dX11_markings_45 hS39.1 T42 ff_6_0 (fun v45 f45 g45 => ?_)
        have f_8 := (hS39.2 _ _ _ _ T42 rfl).symm.trans f45
        refine q_icmp_ge (pc := 48) hG 96 dX11_markings_48 rfl ?_ ?_
        · intro c48
          refine q_iload_n (pc := 96) hG dX11_markings_96 3 rfl ?_
          refine q_if_ne (pc := 97) hG 105 dX11_markings_97 rfl ?_ ?_
          · intro c97
            have r_9 := q_rle r_6 rl_1 g_5.2
            refine q_iload (pc := 105) hG dX11_markings_105 6 rfl ?_
            exact q_irt hG hE dX11_markings_107 ⟨hS39, (q_r.mono r39_6 (by decide))⟩
          intro c97
          have r_10 := q_rle r_6 rl_1 g_5.2
          refine q_iload (pc := 100) hG dX11_markings_100 4 rfl ?_
          refine q_goto (pc := 102) 107 hG dX11_markings_102 rfl ?_
          exact q_irt hG hE dX11_markings_107 ⟨hS39, (q_r_any p39_4)⟩
        intro c48
        refine q_aload_n (pc := 51) hG dX11_markings_51 0 rfl ?_
        refine q_getV (pc := 52) (v := .ref b42) hG fl_X11_41 dX11_markings_52 tA0 (hS39.same tA0 rfl f_7) ?_
        refine q_aload_n (pc := 55) hG dX11_markings_55 0 rfl ?_
        refine q_getR (pc := 56) (k2 := 3) (n2 := 1) hG fl_X11_34 dX11_markings_56 hS39.1 tA0 ff_9_4 (fun b56 f56 T56 => ?_)
        have f_11 := (hS39.2 _ _ _ _ tA0 rfl).symm.trans f56
        refine q_iload (pc := 59) hG dX11_markings_59 7 rfl ?_
        refine q_iload_n (pc := 61) hG dX11_markings_61 1 rfl ?_
        have r_12 := q_rlt r39_7 g45 c48 63 (by decide)
        refine q_cSi (pc := 62) [.ref b42, .ref b56, .int p39_7, .int x1] [] hG (c_X9_marking τ σ39 b42 b56 p39_7 x1 hS39.1 T42 T56 r_12) my_X9_marking w579 w578 dX11_markings_62 rfl rfl (Nat.le_of_ble_eq_true rfl) (by decide) (fun v62 s62 p62 => ?_)
        have w62 := hS39.trans p62.1 rfl
        refine q_iload_n (pc := 65) hG dX11_markings_65 2 rfl ?_
        have J81 : ∀ (p81_4 : Int32) (p81_5 : Int32), q_O X 0 0 τ s62 81 [(0, .ref a0), (1, .int x1), (2, .int x2), (3, .int x3), (4, .int p81_4), (5, .int p81_5), (6, .int p39_6), (7, .int p39_7)] [] := by
          intro p81_4 p81_5
          refine q_iload (pc := 81) hG dX11_markings_81 6 rfl ?_
          refine q_iload (pc := 83) hG dX11_markings_83 5 rfl ?_
          refine q_pS (pc := 85) [.int p39_6, .int p81_5] [] hG (c_J9_max_7cf53 τ s62 p39_6 p81_5 w62.1) my_J9_max_7cf53 w262 w463 dX11_markings_85 rfl rfl (Nat.le_of_ble_eq_true rfl) (by decide) (fun v85 p85 => ?_)
          refine q_istore (pc := 88) [(6, .int v85), (0, .ref a0), (1, .int x1), (2, .int x2), (3, .int x3), (4, .int p81_4), (5, .int p81_5), (7, .int p39_7)] hG dX11_markings_88 (by decide) rfl ?_
          obtain ⟨v90, e90⟩ : ∃ z : Int32, z = p39_7 + Int32.ofInt 1 := ⟨_, rfl⟩
          have h90 := q_incN (lo := 1) (hi := 64) r_12 (by decide) (by decide) e90
          refine q_iinc (pc := 90) [(7, .int v90), (6, .int v85), (0, .ref a0), (1, .int x1), (2, .int x2), (3, .int x3), (4, .int p81_4), (5, .int p81_5)] hG dX11_markings_90 7 rfl e90 (by decide) rfl ?_
          refine q_goto (pc := 93) 39 hG dX11_markings_93 rfl ?_
          refine q_lv [2, 3, 4, 5, 6, 7, 1, 0] rfl ?_
          have r_13 := q_maxN (lo := 0) (hi := 2147483647) p85.2.2 r39_6 (q_r_any p81_5) (by decide)
          exact ih39 p81_4 p81_5 v85 v90 s62 r_13 (q_r.mono h90.2 (by decide)) w62 (q_measU hm39 (by have o0 := c48; have o1 := h90.1; have o2 := r_12; have o3 := g45; have o4 := h90.2; unfold q_r at o2 o3 o4; omega) (h90.2).2)
        refine q_icmp_ne (pc := 66) hG 78 dX11_markings_66 rfl ?_ ?_
        · intro c66
          have r_14 := q_rle r_4 rl_3 g_3.2
          refine q_iconst (pc := 78) hG dX11_markings_78 ki_0 ?_
          refine q_istore (pc := 79) [(5, .int 0), (0, .ref a0), (1, .int x1), (2, .int x2), (3, .int x3), (4, .int p39_4), (6, .int p39_6), (7, .int p39_7)] hG dX11_markings_79 (by decide) rfl ?_
          refine q_lv [1, 2, 3, 4, 5, 0, 6, 7] rfl ?_
          exact J81 p39_4 0
        intro c66
        have r_15 := q_rle r_4 rl_3 g_3.2
        obtain ⟨v69, e69⟩ : ∃ z : Int32, z = p39_4 + Int32.ofInt 1 := ⟨_, rfl⟩
        refine q_iinc (pc := 69) [(4, .int v69), (0, .ref a0), (1, .int x1), (2, .int x2), (3, .int x3), (5, .int p39_5), (6, .int p39_6), (7, .int p39_7)] hG dX11_markings_69 4 rfl e69 (by decide) rfl ?_
        obtain ⟨v72, e72⟩ : ∃ z : Int32, z = p39_5 + Int32.ofInt 1 := ⟨_, rfl⟩
        refine q_iinc (pc := 72) [(5, .int v72), (4, .int v69), (0, .ref a0), (1, .int x1), (2, .int x2), (3, .int x3), (6, .int p39_6), (7, .int p39_7)] hG dX11_markings_72 5 rfl e72 (by decide) rfl ?_
        refine q_goto (pc := 75) 81 hG dX11_markings_75 rfl ?_
        refine q_lv [2, 3, 4, 5, 1, 0, 6, 7] rfl ?_
        exact J81 v69 v72
    refine q_lv [4, 5, 6, 7, 3, 2, 1, 0] rfl ?_
    exact J39 _ 0 0 0 0 σ (q_r.mono rl_0 (by decide)) (q_r.mono rl_0 (by decide)) hS0 (Nat.lt_succ_self _)
  intro c22
  refine q_iconst (pc := 25) hG dX11_markings_25 ki_m1 ?_
  exact q_irt hG hE dX11_markings_26 ⟨hS0, (q_r.mono rl_m1 (by decide))⟩
theorem dX11_joins_0 : decode cX11_joins 0 = .ok (.iload_n 1, 1) := by decide +kernel
theorem dX11_joins_1 : decode cX11_joins 1 = .ok (.invokestatic 247, 3) := by decide +kernel
theorem dX11_joins_4 : decode cX11_joins 4 = .ok (.ifCond .eq 20, 3) := by decide +kernel
theorem dX11_joins_7 : decode cX11_joins 7 = .ok (.iload_n 2, 1) := by decide +kernel
theorem dX11_joins_8 : decode cX11_joins 8 = .ok (.invokestatic 247, 3) := by decide +kernel
theorem dX11_joins_11 : decode cX11_joins 11 = .ok (.ifCond .eq 13, 3) := by decide +kernel
theorem dX11_joins_14 : decode cX11_joins 14 = .ok (.iload_n 3, 1) := by decide +kernel
theorem dX11_joins_15 : decode cX11_joins 15 = .ok (.iconst 0, 1) := by decide +kernel
theorem dX11_joins_16 : decode cX11_joins 16 = .ok (.bipush 9, 2) := by decide +kernel
theorem dX11_joins_18 : decode cX11_joins 18 = .ok (.invokestatic 90, 3) := by decide +kernel
theorem dX11_joins_21 : decode cX11_joins 21 = .ok (.ifCond .ne 5, 3) := by decide +kernel
theorem dX11_joins_24 : decode cX11_joins 24 = .ok (.iconst (-1), 1) := by decide +kernel
theorem dX11_joins_25 : decode cX11_joins 25 = .ok (.ireturn, 1) := by decide +kernel
theorem dX11_joins_26 : decode cX11_joins 26 = .ok (.iload_n 1, 1) := by decide +kernel
theorem dX11_joins_27 : decode cX11_joins 27 = .ok (.iload_n 2, 1) := by decide +kernel
theorem dX11_joins_28 : decode cX11_joins 28 = .ok (.isub, 1) := by decide +kernel
theorem dX11_joins_29 : decode cX11_joins 29 = .ok (.invokestatic 250, 3) := by decide +kernel
theorem dX11_joins_32 : decode cX11_joins 32 = .ok (.istore 4, 2) := by decide +kernel
theorem dX11_joins_34 : decode cX11_joins 34 = .ok (.iload 4, 2) := by decide +kernel
theorem dX11_joins_36 : decode cX11_joins 36 = .ok (.ifCond .ne 5, 3) := by decide +kernel
theorem dX11_joins_39 : decode cX11_joins 39 = .ok (.iconst 0, 1) := by decide +kernel
theorem dX11_joins_40 : decode cX11_joins 40 = .ok (.ireturn, 1) := by decide +kernel
theorem dX11_joins_41 : decode cX11_joins 41 = .ok (.iload_n 3, 1) := by decide +kernel
theorem dX11_joins_42 : decode cX11_joins 42 = .ok (.ifCond .gt 8, 3) := by decide +kernel
theorem dX11_joins_45 : decode cX11_joins 45 = .ok (.bipush (-2), 2) := by decide +kernel
theorem dX11_joins_47 : decode cX11_joins 47 = .ok (.goto 9, 3) := by decide +kernel
theorem dX11_joins_50 : decode cX11_joins 50 = .ok (.iload 4, 2) := by decide +kernel
theorem dX11_joins_52 : decode cX11_joins 52 = .ok (.iconst 1, 1) := by decide +kernel
theorem dX11_joins_53 : decode cX11_joins 53 = .ok (.isub, 1) := by decide +kernel
theorem dX11_joins_54 : decode cX11_joins 54 = .ok (.iload_n 3, 1) := by decide +kernel
theorem dX11_joins_55 : decode cX11_joins 55 = .ok (.idiv, 1) := by decide +kernel
theorem dX11_joins_56 : decode cX11_joins 56 = .ok (.ireturn, 1) := by decide +kernel
set_option maxRecDepth 100000 in
set_option maxHeartbeats 4000000 in
theorem c_X11_joins {l : Launch} {D : q_D} (τ : q_T) (σ : q_V) (a0 : Nat) (x1 : Int32) (x2 : Int32) (x3 : Int32) (hI : q_I τ σ) (tA0 : τ a0 = some (9, 1)) : q_Cp l D yX11_joins cX11_joins 5 (some .int) 2 42 τ σ [.ref a0, .int x1, .int x2, .int x3] (fun r => q_r r (-2) 197) := by
  refine q_meti rfl (Nat.le_of_ble_eq_true rfl) (fun X hG hE => ?_)
  show q_O X 0 0 τ σ 0 [(0, .ref a0), (1, .int x1), (2, .int x2), (3, .int x3)] []
  refine q_iload_n (pc := 0) hG dX11_joins_0 1 rfl ?_
  refine q_pS (pc := 1) [.int x1] [] hG (c_X11_isOffset τ σ x1 hI) my_X11_isOffset w598 w597 dX11_joins_1 rfl rfl (Nat.le_of_ble_eq_true rfl) (by decide) (fun v1 p1 => ?_)
  refine q_if_eq (pc := 4) hG 24 dX11_joins_4 rfl ?_ ?_
  · intro c4
    refine q_iconst (pc := 24) hG dX11_joins_24 ki_m1 ?_
    exact q_irt hG hE dX11_joins_25 ⟨rfl, (q_r.mono rl_m1 (by decide))⟩
  intro c4
  have g_1 := p1.2.mp (q_one p1.1 c4)
  have r_2 := q_rge (q_r_any x1) rl_m99 (show (-99 : Int32).toInt ≤ _ from g_1.1)
  refine q_iload_n (pc := 7) hG dX11_joins_7 2 rfl ?_
  refine q_pS (pc := 8) [.int x2] [] hG (c_X11_isOffset τ σ x2 hI) my_X11_isOffset w598 w597 dX11_joins_8 rfl rfl (Nat.le_of_ble_eq_true rfl) (by decide) (fun v8 p8 => ?_)
  refine q_if_eq (pc := 11) hG 24 dX11_joins_11 rfl ?_ ?_
  · intro c11
    refine q_iconst (pc := 24) hG dX11_joins_24 ki_m1 ?_
    exact q_irt hG hE dX11_joins_25 ⟨rfl, (q_r.mono rl_m1 (by decide))⟩
  intro c11
  have g_3 := p8.2.mp (q_one p8.1 c11)
  have r_4 := q_rge (q_r_any x2) rl_m99 (show (-99 : Int32).toInt ≤ _ from g_3.1)
  refine q_iload_n (pc := 14) hG dX11_joins_14 3 rfl ?_
  refine q_iconst (pc := 15) hG dX11_joins_15 ki_0 ?_
  refine q_bipush (pc := 16) hG dX11_joins_16 kb_9 ?_
  refine q_pS (pc := 18) [.int x3, .int 0, .int 9] [] hG (c_X11_isIn τ σ x3 0 9 hI) my_X11_isIn w238 w237 dX11_joins_18 rfl rfl (Nat.le_of_ble_eq_true rfl) (by decide) (fun v18 p18 => ?_)
  refine q_if_ne (pc := 21) hG 26 dX11_joins_21 rfl ?_ ?_
  · intro c21
    have g_5 := p18.2.2.mp (q_one p18.1 c21)
    have r_6 := q_rge (q_r_any x3) rl_0 g_5.1
    refine q_iload_n (pc := 26) hG dX11_joins_26 1 rfl ?_
    refine q_iload_n (pc := 27) hG dX11_joins_27 2 rfl ?_
    refine q_isub (pc := 28) hG dX11_joins_28 (fun v28 e28 => ?_)
    have r_7 := q_rle r_2 rl_99 (show _ ≤ (99 : Int32).toInt from g_1.2)
    have r_8 := q_rle r_4 rl_99 (show _ ≤ (99 : Int32).toInt from g_3.2)
    refine q_pS (pc := 29) [.int v28] [] hG (c_J9_abs_0f7a4 τ σ v28 hI) my_J9_abs_0f7a4 w271 w600 dX11_joins_29 rfl rfl (Nat.le_of_ble_eq_true rfl) (by decide) (fun v29 p29 => ?_)
    have r_9 := (q_subN (lo := (-198)) (hi := 198) e28 r_7 r_8 (by decide)).2
    refine q_istore (pc := 32) [(4, .int v29), (0, .ref a0), (1, .int x1), (2, .int x2), (3, .int x3)] hG dX11_joins_32 (by decide) rfl ?_
    refine q_iload (pc := 34) hG dX11_joins_34 0 rfl ?_
    refine q_if_ne (pc := 36) hG 41 dX11_joins_36 rfl ?_ ?_
    · intro c36
      have r_10 := q_absN (lo := 0) (hi := 198) p29.2.2 r_9 (by decide)
      refine q_iload_n (pc := 41) hG dX11_joins_41 4 rfl ?_
      refine q_if_gt (pc := 42) hG 50 dX11_joins_42 rfl ?_ ?_
      · intro c42
        have r_11 := q_rle r_6 rl_9 g_5.2
        refine q_iload (pc := 50) hG dX11_joins_50 0 rfl ?_
        refine q_iconst (pc := 52) hG dX11_joins_52 ki_1 ?_
        refine q_isub (pc := 53) hG dX11_joins_53 (fun v53 e53 => ?_)
        have r_12 := q_neL (c := 1) r_10 c36 (by decide)
        refine q_iload_n (pc := 54) hG dX11_joins_54 4 rfl ?_
        have r_13 := q_zgt r_11 c42
        refine q_idiv (pc := 55) hG dX11_joins_55 (q_nzr r_13 (by decide)) (fun v55 e55 => ?_)
        have r_14 := (q_subN (lo := 0) (hi := 197) e53 r_12 rl_1 (by decide)).2
        have r_15 := (q_divN (lo := 0) (hi := 197) e55 r_14 r_13 (by decide)).2
        exact q_irt hG hE dX11_joins_56 ⟨rfl, (q_r.mono r_15 (by decide))⟩
      intro c42
      have r_16 := q_rle r_6 rl_9 g_5.2
      refine q_bipush (pc := 45) hG dX11_joins_45 kb_m2 ?_
      refine q_goto (pc := 47) 56 hG dX11_joins_47 rfl ?_
      exact q_irt hG hE dX11_joins_56 ⟨rfl, (q_r.mono rl_m2 (by decide))⟩
    intro c36
    have r_17 := q_absN (lo := 0) (hi := 198) p29.2.2 r_9 (by decide)
    refine q_iconst (pc := 39) hG dX11_joins_39 ki_0 ?_
    exact q_irt hG hE dX11_joins_40 ⟨rfl, (q_r.mono rl_0 (by decide))⟩
  intro c21
  refine q_iconst (pc := 24) hG dX11_joins_24 ki_m1 ?_
  exact q_irt hG hE dX11_joins_25 ⟨rfl, (q_r.mono rl_m1 (by decide))⟩
theorem dX11_begins_0 : decode cX11_begins 0 = .ok (.iload_n 1, 1) := by decide +kernel
theorem dX11_begins_1 : decode cX11_begins 1 = .ok (.iconst 0, 1) := by decide +kernel
theorem dX11_begins_2 : decode cX11_begins 2 = .ok (.sipush 600, 3) := by decide +kernel
theorem dX11_begins_5 : decode cX11_begins 5 = .ok (.invokestatic 90, 3) := by decide +kernel
theorem dX11_begins_8 : decode cX11_begins 8 = .ok (.ifCond .eq 12, 3) := by decide +kernel
theorem dX11_begins_11 : decode cX11_begins 11 = .ok (.iload_n 2, 1) := by decide +kernel
theorem dX11_begins_12 : decode cX11_begins 12 = .ok (.iconst 0, 1) := by decide +kernel
theorem dX11_begins_13 : decode cX11_begins 13 = .ok (.iconst 2, 1) := by decide +kernel
theorem dX11_begins_14 : decode cX11_begins 14 = .ok (.invokestatic 90, 3) := by decide +kernel
theorem dX11_begins_17 : decode cX11_begins 17 = .ok (.ifCond .ne 5, 3) := by decide +kernel
theorem dX11_begins_20 : decode cX11_begins 20 = .ok (.iconst (-1), 1) := by decide +kernel
theorem dX11_begins_21 : decode cX11_begins 21 = .ok (.ireturn, 1) := by decide +kernel
theorem dX11_begins_22 : decode cX11_begins 22 = .ok (.aload_n 0, 1) := by decide +kernel
theorem dX11_begins_23 : decode cX11_begins 23 = .ok (.getfield 58, 3) := by decide +kernel
theorem dX11_begins_26 : decode cX11_begins 26 = .ok (.aload_n 0, 1) := by decide +kernel
theorem dX11_begins_27 : decode cX11_begins 27 = .ok (.getfield 41, 3) := by decide +kernel
theorem dX11_begins_30 : decode cX11_begins 30 = .ok (.aload_n 0, 1) := by decide +kernel
theorem dX11_begins_31 : decode cX11_begins 31 = .ok (.getfield 34, 3) := by decide +kernel
theorem dX11_begins_34 : decode cX11_begins 34 = .ok (.iload_n 1, 1) := by decide +kernel
theorem dX11_begins_35 : decode cX11_begins 35 = .ok (.iload_n 1, 1) := by decide +kernel
theorem dX11_begins_36 : decode cX11_begins 36 = .ok (.invokevirtual 253, 3) := by decide +kernel
theorem dX11_begins_39 : decode cX11_begins 39 = .ok (.iload_n 2, 1) := by decide +kernel
theorem dX11_begins_40 : decode cX11_begins 40 = .ok (.lookupswitch 51 #[(0, 28), (1, 36)], 28) := by decide +kernel
theorem dX11_begins_68 : decode cX11_begins 68 = .ok (.aload_n 0, 1) := by decide +kernel
theorem dX11_begins_69 : decode cX11_begins 69 = .ok (.getfield 58, 3) := by decide +kernel
theorem dX11_begins_72 : decode cX11_begins 72 = .ok (.getfield 257, 3) := by decide +kernel
theorem dX11_begins_75 : decode cX11_begins 75 = .ok (.ireturn, 1) := by decide +kernel
theorem dX11_begins_76 : decode cX11_begins 76 = .ok (.aload_n 0, 1) := by decide +kernel
theorem dX11_begins_77 : decode cX11_begins 77 = .ok (.getfield 58, 3) := by decide +kernel
theorem dX11_begins_80 : decode cX11_begins 80 = .ok (.aload_n 0, 1) := by decide +kernel
theorem dX11_begins_81 : decode cX11_begins 81 = .ok (.getfield 41, 3) := by decide +kernel
theorem dX11_begins_84 : decode cX11_begins 84 = .ok (.getfield 98, 3) := by decide +kernel
theorem dX11_begins_87 : decode cX11_begins 87 = .ok (.invokevirtual 260, 3) := by decide +kernel
theorem dX11_begins_90 : decode cX11_begins 90 = .ok (.ireturn, 1) := by decide +kernel
theorem dX11_begins_91 : decode cX11_begins 91 = .ok (.aload_n 0, 1) := by decide +kernel
theorem dX11_begins_92 : decode cX11_begins 92 = .ok (.getfield 58, 3) := by decide +kernel
theorem dX11_begins_95 : decode cX11_begins 95 = .ok (.getfield 263, 3) := by decide +kernel
theorem dX11_begins_98 : decode cX11_begins 98 = .ok (.ireturn, 1) := by decide +kernel
def md_X11_begins : List (Nat × Nat) := [(3, 9), (3, 10), (3, 11), (3, 12), (3, 13), (3, 14), (3, 15), (5, 3), (5, 4), (5, 5), (5, 6), (117, 0), (129, 0), (130, 0), (131, 0)]
set_option maxRecDepth 100000 in
set_option maxHeartbeats 4000000 in
theorem c_X11_begins {l : Launch} {D : q_D} (τ : q_T) (σ : q_V) (a0 : Nat) (x1 : Int32) (x2 : Int32) (hI : q_I τ σ) (tA0 : τ a0 = some (9, 1)) : q_Ci l D yX11_begins cX11_begins 3 (some .int) 7 172 τ σ [.ref a0, .int x1, .int x2] (fun r σ1 => q_S md_X11_begins τ σ σ1 ∧ (q_r r (-2147483648) 2147483647)) := by
  refine q_meti rfl (Nat.le_of_ble_eq_true rfl) (fun X hG hE => ?_)
  show q_O X 0 0 τ σ 0 [(0, .ref a0), (1, .int x1), (2, .int x2)] []
  have hS0 : q_S md_X11_begins τ σ σ := q_S.rf hI
  refine q_iload_n (pc := 0) hG dX11_begins_0 1 rfl ?_
  refine q_iconst (pc := 1) hG dX11_begins_1 ki_0 ?_
  refine q_sipush (pc := 2) hG dX11_begins_2 ks_600 ?_
  refine q_pS (pc := 5) [.int x1, .int 0, .int 600] [] hG (c_X11_isIn τ σ x1 0 600 hI) my_X11_isIn w238 w237 dX11_begins_5 rfl rfl (Nat.le_of_ble_eq_true rfl) (by decide) (fun v5 p5 => ?_)
  refine q_if_eq (pc := 8) hG 20 dX11_begins_8 rfl ?_ ?_
  · intro c8
    refine q_iconst (pc := 20) hG dX11_begins_20 ki_m1 ?_
    exact q_irt hG hE dX11_begins_21 ⟨hS0, (q_r.mono rl_m1 (by decide))⟩
  intro c8
  have g_1 := p5.2.2.mp (q_one p5.1 c8)
  have r_2 := q_rge (q_r_any x1) rl_0 g_1.1
  refine q_iload_n (pc := 11) hG dX11_begins_11 2 rfl ?_
  refine q_iconst (pc := 12) hG dX11_begins_12 ki_0 ?_
  refine q_iconst (pc := 13) hG dX11_begins_13 ki_2 ?_
  refine q_pS (pc := 14) [.int x2, .int 0, .int 2] [] hG (c_X11_isIn τ σ x2 0 2 hI) my_X11_isIn w238 w237 dX11_begins_14 rfl rfl (Nat.le_of_ble_eq_true rfl) (by decide) (fun v14 p14 => ?_)
  refine q_if_ne (pc := 17) hG 22 dX11_begins_17 rfl ?_ ?_
  · intro c17
    have g_3 := p14.2.2.mp (q_one p14.1 c17)
    have r_4 := q_rge (q_r_any x2) rl_0 g_3.1
    refine q_aload_n (pc := 22) hG dX11_begins_22 0 rfl ?_
    refine q_getR (pc := 23) (k2 := 5) (n2 := 1) hG fl_X11_58 dX11_begins_23 hI tA0 ff_9_9 (fun b23 f23 T23 => ?_)
    refine q_aload_n (pc := 26) hG dX11_begins_26 0 rfl ?_
    refine q_getR (pc := 27) (k2 := 6) (n2 := 1) hG fl_X11_41 dX11_begins_27 hI tA0 ff_9_5 (fun b27 f27 T27 => ?_)
    refine q_aload_n (pc := 30) hG dX11_begins_30 0 rfl ?_
    refine q_getR (pc := 31) (k2 := 3) (n2 := 1) hG fl_X11_34 dX11_begins_31 hI tA0 ff_9_4 (fun b31 f31 T31 => ?_)
    refine q_iload_n (pc := 34) hG dX11_begins_34 1 rfl ?_
    refine q_iload_n (pc := 35) hG dX11_begins_35 1 rfl ?_
    refine q_cVv (pc := 36) [.ref b27, .ref b31, .int x1, .int x1] [] hG (c_X6_paint τ σ b23 b27 b31 x1 x1 hI T23 T27 T31) my_X6_paint mv_X6_paint w605 dX11_begins_36 T23 (by decide) rfl rfl (Nat.le_of_ble_eq_true rfl) (by decide) (fun s36 p36 => ?_)
    have w36 := hS0.trans p36 rfl
    refine q_iload_n (pc := 39) hG dX11_begins_39 2 rfl ?_
    by_cases z40_0 : x2.toInt = 0
    · skip
      refine q_ls (pc := 40) (off := 28) 68 hG dX11_begins_40 rfl (by rw [z40_0]; rfl) rfl ?_
      refine q_aload_n (pc := 68) hG dX11_begins_68 0 rfl ?_
      refine q_getV (pc := 69) (v := .ref b23) hG fl_X11_58 dX11_begins_69 tA0 (w36.same tA0 rfl f23) ?_
      refine q_getI (pc := 72) hG fl_X11_257 dX11_begins_72 w36.1 T23 ff_5_3 (fun v72 f72 g72 => ?_)
      exact q_irt hG hE dX11_begins_75 ⟨w36, g72⟩
    by_cases z40_1 : x2.toInt = 1
    · skip
      refine q_ls (pc := 40) (off := 36) 76 hG dX11_begins_40 rfl (by rw [z40_1]; rfl) rfl ?_
      refine q_aload_n (pc := 76) hG dX11_begins_76 0 rfl ?_
      refine q_getV (pc := 77) (v := .ref b23) hG fl_X11_58 dX11_begins_77 tA0 (w36.same tA0 rfl f23) ?_
      refine q_aload_n (pc := 80) hG dX11_begins_80 0 rfl ?_
      refine q_getV (pc := 81) (v := .ref b27) hG fl_X11_41 dX11_begins_81 tA0 (w36.same tA0 rfl f27) ?_
      refine q_getI (pc := 84) hG fl_X11_98 dX11_begins_84 w36.1 T27 ff_6_0 (fun v84 f84 g84 => ?_)
      have f_5 := (w36.2 _ _ _ _ T27 rfl).symm.trans f84
      refine q_pV (pc := 87) [.int v84] [] hG (c_X6_conesNeeded τ s36 b23 v84 w36.1 T23 g84) my_X6_conesNeeded mv_X6_conesNeeded w614 dX11_begins_87 T23 (by decide) rfl rfl (Nat.le_of_ble_eq_true rfl) (by decide) (fun v87 p87 => ?_)
      exact q_irt hG hE dX11_begins_90 ⟨w36, (q_r.mono p87 (by decide))⟩
    refine q_ls (pc := 40) (off := 51) 91 hG dX11_begins_40 rfl (by show Op.lookupswitch.offset [(0, 28), (1, 36)] 51 _ = _; rw [Op.lookupswitch.offset_cons, if_neg (fun q => z40_0 q.symm), Op.lookupswitch.offset_cons, if_neg (fun q => z40_1 q.symm), Op.lookupswitch.offset_nil]) rfl ?_
    refine q_aload_n (pc := 91) hG dX11_begins_91 0 rfl ?_
    refine q_getV (pc := 92) (v := .ref b23) hG fl_X11_58 dX11_begins_92 tA0 (w36.same tA0 rfl f23) ?_
    refine q_getI (pc := 95) hG fl_X11_263 dX11_begins_95 w36.1 T23 ff_5_5 (fun v95 f95 g95 => ?_)
    exact q_irt hG hE dX11_begins_98 ⟨w36, g95⟩
  intro c17
  refine q_iconst (pc := 20) hG dX11_begins_20 ki_m1 ?_
  exact q_irt hG hE dX11_begins_21 ⟨hS0, (q_r.mono rl_m1 (by decide))⟩
theorem dX11_latest_0 : decode cX11_latest 0 = .ok (.iload_n 1, 1) := by decide +kernel
theorem dX11_latest_1 : decode cX11_latest 1 = .ok (.iconst 0, 1) := by decide +kernel
theorem dX11_latest_2 : decode cX11_latest 2 = .ok (.sipush 600, 3) := by decide +kernel
theorem dX11_latest_5 : decode cX11_latest 5 = .ok (.invokestatic 90, 3) := by decide +kernel
theorem dX11_latest_8 : decode cX11_latest 8 = .ok (.ifCond .ne 5, 3) := by decide +kernel
theorem dX11_latest_11 : decode cX11_latest 11 = .ok (.iconst (-1), 1) := by decide +kernel
theorem dX11_latest_12 : decode cX11_latest 12 = .ok (.ireturn, 1) := by decide +kernel
theorem dX11_latest_13 : decode cX11_latest 13 = .ok (.aload_n 0, 1) := by decide +kernel
theorem dX11_latest_14 : decode cX11_latest 14 = .ok (.getfield 34, 3) := by decide +kernel
theorem dX11_latest_17 : decode cX11_latest 17 = .ok (.getfield 266, 3) := by decide +kernel
theorem dX11_latest_20 : decode cX11_latest 20 = .ok (.ifCond .ne 46, 3) := by decide +kernel
theorem dX11_latest_23 : decode cX11_latest 23 = .ok (.aload_n 0, 1) := by decide +kernel
theorem dX11_latest_24 : decode cX11_latest 24 = .ok (.getfield 58, 3) := by decide +kernel
theorem dX11_latest_27 : decode cX11_latest 27 = .ok (.aload_n 0, 1) := by decide +kernel
theorem dX11_latest_28 : decode cX11_latest 28 = .ok (.getfield 41, 3) := by decide +kernel
theorem dX11_latest_31 : decode cX11_latest 31 = .ok (.aload_n 0, 1) := by decide +kernel
theorem dX11_latest_32 : decode cX11_latest 32 = .ok (.getfield 34, 3) := by decide +kernel
theorem dX11_latest_35 : decode cX11_latest 35 = .ok (.iconst 0, 1) := by decide +kernel
theorem dX11_latest_36 : decode cX11_latest 36 = .ok (.iconst 0, 1) := by decide +kernel
theorem dX11_latest_37 : decode cX11_latest 37 = .ok (.invokevirtual 253, 3) := by decide +kernel
theorem dX11_latest_40 : decode cX11_latest 40 = .ok (.iload_n 1, 1) := by decide +kernel
theorem dX11_latest_41 : decode cX11_latest 41 = .ok (.aload_n 0, 1) := by decide +kernel
theorem dX11_latest_42 : decode cX11_latest 42 = .ok (.getfield 58, 3) := by decide +kernel
theorem dX11_latest_45 : decode cX11_latest 45 = .ok (.getfield 257, 3) := by decide +kernel
theorem dX11_latest_48 : decode cX11_latest 48 = .ok (.if_icmp .lt 15, 3) := by decide +kernel
theorem dX11_latest_51 : decode cX11_latest 51 = .ok (.iload_n 1, 1) := by decide +kernel
theorem dX11_latest_52 : decode cX11_latest 52 = .ok (.aload_n 0, 1) := by decide +kernel
theorem dX11_latest_53 : decode cX11_latest 53 = .ok (.getfield 58, 3) := by decide +kernel
theorem dX11_latest_56 : decode cX11_latest 56 = .ok (.getfield 257, 3) := by decide +kernel
theorem dX11_latest_59 : decode cX11_latest 59 = .ok (.isub, 1) := by decide +kernel
theorem dX11_latest_60 : decode cX11_latest 60 = .ok (.goto 5, 3) := by decide +kernel
theorem dX11_latest_63 : decode cX11_latest 63 = .ok (.bipush (-2), 2) := by decide +kernel
theorem dX11_latest_65 : decode cX11_latest 65 = .ok (.ireturn, 1) := by decide +kernel
theorem dX11_latest_66 : decode cX11_latest 66 = .ok (.iload_n 1, 1) := by decide +kernel
theorem dX11_latest_67 : decode cX11_latest 67 = .ok (.aload_n 0, 1) := by decide +kernel
theorem dX11_latest_68 : decode cX11_latest 68 = .ok (.getfield 41, 3) := by decide +kernel
theorem dX11_latest_71 : decode cX11_latest 71 = .ok (.getfield 98, 3) := by decide +kernel
theorem dX11_latest_74 : decode cX11_latest 74 = .ok (.iconst 1, 1) := by decide +kernel
theorem dX11_latest_75 : decode cX11_latest 75 = .ok (.iadd, 1) := by decide +kernel
theorem dX11_latest_76 : decode cX11_latest 76 = .ok (.iconst 2, 1) := by decide +kernel
theorem dX11_latest_77 : decode cX11_latest 77 = .ok (.idiv, 1) := by decide +kernel
theorem dX11_latest_78 : decode cX11_latest 78 = .ok (.isub, 1) := by decide +kernel
theorem dX11_latest_79 : decode cX11_latest 79 = .ok (.istore_n 2, 1) := by decide +kernel
theorem dX11_latest_80 : decode cX11_latest 80 = .ok (.iload_n 2, 1) := by decide +kernel
theorem dX11_latest_81 : decode cX11_latest 81 = .ok (.istore_n 3, 1) := by decide +kernel
theorem dX11_latest_82 : decode cX11_latest 82 = .ok (.iload_n 3, 1) := by decide +kernel
theorem dX11_latest_83 : decode cX11_latest 83 = .ok (.ifCond .lt 39, 3) := by decide +kernel
theorem dX11_latest_86 : decode cX11_latest 86 = .ok (.aload_n 0, 1) := by decide +kernel
theorem dX11_latest_87 : decode cX11_latest 87 = .ok (.getfield 58, 3) := by decide +kernel
theorem dX11_latest_90 : decode cX11_latest 90 = .ok (.aload_n 0, 1) := by decide +kernel
theorem dX11_latest_91 : decode cX11_latest 91 = .ok (.getfield 41, 3) := by decide +kernel
theorem dX11_latest_94 : decode cX11_latest 94 = .ok (.aload_n 0, 1) := by decide +kernel
theorem dX11_latest_95 : decode cX11_latest 95 = .ok (.getfield 34, 3) := by decide +kernel
theorem dX11_latest_98 : decode cX11_latest 98 = .ok (.iload_n 3, 1) := by decide +kernel
theorem dX11_latest_99 : decode cX11_latest 99 = .ok (.iload_n 3, 1) := by decide +kernel
theorem dX11_latest_100 : decode cX11_latest 100 = .ok (.invokevirtual 253, 3) := by decide +kernel
theorem dX11_latest_103 : decode cX11_latest 103 = .ok (.aload_n 0, 1) := by decide +kernel
theorem dX11_latest_104 : decode cX11_latest 104 = .ok (.getfield 58, 3) := by decide +kernel
theorem dX11_latest_107 : decode cX11_latest 107 = .ok (.getfield 257, 3) := by decide +kernel
theorem dX11_latest_110 : decode cX11_latest 110 = .ok (.iload_n 1, 1) := by decide +kernel
theorem dX11_latest_111 : decode cX11_latest 111 = .ok (.if_icmp .gt 5, 3) := by decide +kernel
theorem dX11_latest_114 : decode cX11_latest 114 = .ok (.iload_n 3, 1) := by decide +kernel
theorem dX11_latest_115 : decode cX11_latest 115 = .ok (.ireturn, 1) := by decide +kernel
theorem dX11_latest_116 : decode cX11_latest 116 = .ok (.iinc 3 (-1), 3) := by decide +kernel
theorem dX11_latest_119 : decode cX11_latest 119 = .ok (.goto (-37), 3) := by decide +kernel
theorem dX11_latest_122 : decode cX11_latest 122 = .ok (.bipush (-2), 2) := by decide +kernel
theorem dX11_latest_124 : decode cX11_latest 124 = .ok (.ireturn, 1) := by decide +kernel
def md_X11_latest : List (Nat × Nat) := [(3, 9), (3, 10), (3, 11), (3, 12), (3, 13), (3, 14), (3, 15), (5, 3), (5, 4), (5, 5), (5, 6), (117, 0), (129, 0), (130, 0), (131, 0)]
set_option maxRecDepth 100000 in
set_option maxHeartbeats 4000000 in
theorem c_X11_latest {l : Launch} {D : q_D} (τ : q_T) (σ : q_V) (a0 : Nat) (x1 : Int32) (hI : q_I τ σ) (tA0 : τ a0 = some (9, 1)) : q_Ci l D yX11_latest cX11_latest 4 (some .int) 7 172 τ σ [.ref a0, .int x1] (fun r σ1 => q_S md_X11_latest τ σ σ1 ∧ (q_r r (-2147483648) 2147483647)) := by
  refine q_meti rfl (Nat.le_of_ble_eq_true rfl) (fun X hG hE => ?_)
  show q_O X 0 0 τ σ 0 [(0, .ref a0), (1, .int x1)] []
  have hS0 : q_S md_X11_latest τ σ σ := q_S.rf hI
  refine q_iload_n (pc := 0) hG dX11_latest_0 1 rfl ?_
  refine q_iconst (pc := 1) hG dX11_latest_1 ki_0 ?_
  refine q_sipush (pc := 2) hG dX11_latest_2 ks_600 ?_
  refine q_pS (pc := 5) [.int x1, .int 0, .int 600] [] hG (c_X11_isIn τ σ x1 0 600 hI) my_X11_isIn w238 w237 dX11_latest_5 rfl rfl (Nat.le_of_ble_eq_true rfl) (by decide) (fun v5 p5 => ?_)
  refine q_if_ne (pc := 8) hG 13 dX11_latest_8 rfl ?_ ?_
  · intro c8
    have g_1 := p5.2.2.mp (q_one p5.1 c8)
    have r_2 := q_rge (q_r_any x1) rl_0 g_1.1
    refine q_aload_n (pc := 13) hG dX11_latest_13 0 rfl ?_
    refine q_getR (pc := 14) (k2 := 3) (n2 := 1) hG fl_X11_34 dX11_latest_14 hI tA0 ff_9_4 (fun b14 f14 T14 => ?_)
    refine q_getI (pc := 17) hG fl_X11_266 dX11_latest_17 hI T14 ff_3_2 (fun v17 f17 g17 => ?_)
    refine q_if_ne (pc := 20) hG 66 dX11_latest_20 rfl ?_ ?_
    · intro c20
      refine q_iload_n (pc := 66) hG dX11_latest_66 1 rfl ?_
      refine q_aload_n (pc := 67) hG dX11_latest_67 0 rfl ?_
      refine q_getR (pc := 68) (k2 := 6) (n2 := 1) hG fl_X11_41 dX11_latest_68 hI tA0 ff_9_5 (fun b68 f68 T68 => ?_)
      refine q_getI (pc := 71) hG fl_X11_98 dX11_latest_71 hI T68 ff_6_0 (fun v71 f71 g71 => ?_)
      refine q_iconst (pc := 74) hG dX11_latest_74 ki_1 ?_
      refine q_iadd (pc := 75) hG dX11_latest_75 (fun v75 e75 => ?_)
      refine q_iconst (pc := 76) hG dX11_latest_76 ki_2 ?_
      refine q_idiv (pc := 77) hG dX11_latest_77 (q_nzr rl_2 (by decide)) (fun v77 e77 => ?_)
      have r_3 := (q_addN (lo := 9) (hi := 65) e75 g71 rl_1 (by decide)).2
      refine q_isub (pc := 78) hG dX11_latest_78 (fun v78 e78 => ?_)
      have r_4 := q_rle r_2 rl_600 g_1.2
      have r_5 := (⟨by have q1 := q_divP e77 r_3 rl_2 (by decide); have q2 := r_3; have q3 := tl_2; rw [q3] at q1; unfold q_r at q2; omega, by have q1 := q_divP e77 r_3 rl_2 (by decide); have q2 := r_3; have q3 := tl_2; rw [q3] at q1; unfold q_r at q2; omega⟩ : q_r v77 4 32)
      refine q_istore_n (pc := 79) [(2, .int v78), (0, .ref a0), (1, .int x1)] hG dX11_latest_79 (by decide) rfl ?_
      refine q_iload_n (pc := 80) hG dX11_latest_80 0 rfl ?_
      refine q_istore_n (pc := 81) [(3, .int v78), (2, .int v78), (0, .ref a0), (1, .int x1)] hG dX11_latest_81 (by decide) rfl ?_
      have J82 : ∀ (n82 : Nat) (p82_3 : Int32) (σ82 : q_V), (q_r p82_3 (-32) 596) → (q_S md_X11_latest τ σ σ82) → ((p82_3.toInt - (-32)).toNat < n82) → q_O X 0 0 τ σ82 82 [(0, .ref a0), (1, .int x1), (3, .int p82_3)] [] := by
        intro n82
        induction n82 with
        | zero => intro p82_3 σ82 r82_3 hS82 hm82; exact absurd hm82 (Nat.not_lt_zero _)
        | succ n82 ih82 =>
          intro p82_3 σ82 r82_3 hS82 hm82
          refine q_iload_n (pc := 82) hG dX11_latest_82 2 rfl ?_
          refine q_if_lt (pc := 83) hG 122 dX11_latest_83 rfl ?_ ?_
          · intro c83
            refine q_bipush (pc := 122) hG dX11_latest_122 kb_m2 ?_
            exact q_irt hG hE dX11_latest_124 ⟨hS82, (q_r.mono rl_m2 (by decide))⟩
          intro c83
          refine q_aload_n (pc := 86) hG dX11_latest_86 0 rfl ?_
          refine q_getR (pc := 87) (k2 := 5) (n2 := 1) hG fl_X11_58 dX11_latest_87 hS82.1 tA0 ff_9_9 (fun b87 f87 T87 => ?_)
          have f_6 := (hS82.2 _ _ _ _ tA0 rfl).symm.trans f87
          refine q_aload_n (pc := 90) hG dX11_latest_90 0 rfl ?_
          refine q_getV (pc := 91) (v := .ref b68) hG fl_X11_41 dX11_latest_91 tA0 (hS82.same tA0 rfl f68) ?_
          refine q_aload_n (pc := 94) hG dX11_latest_94 0 rfl ?_
          refine q_getV (pc := 95) (v := .ref b14) hG fl_X11_34 dX11_latest_95 tA0 (hS82.same tA0 rfl f14) ?_
          refine q_iload_n (pc := 98) hG dX11_latest_98 2 rfl ?_
          refine q_iload_n (pc := 99) hG dX11_latest_99 2 rfl ?_
          refine q_cVv (pc := 100) [.ref b68, .ref b14, .int p82_3, .int p82_3] [] hG (c_X6_paint τ σ82 b87 b68 b14 p82_3 p82_3 hS82.1 T87 T68 T14) my_X6_paint mv_X6_paint w605 dX11_latest_100 T87 (by decide) rfl rfl (Nat.le_of_ble_eq_true rfl) (by decide) (fun s100 p100 => ?_)
          have w100 := hS82.trans p100 rfl
          refine q_aload_n (pc := 103) hG dX11_latest_103 0 rfl ?_
          refine q_getV (pc := 104) (v := .ref b87) hG fl_X11_58 dX11_latest_104 tA0 (w100.same tA0 rfl f_6) ?_
          refine q_getI (pc := 107) hG fl_X11_257 dX11_latest_107 w100.1 T87 ff_5_3 (fun v107 f107 g107 => ?_)
          refine q_iload_n (pc := 110) hG dX11_latest_110 1 rfl ?_
          refine q_icmp_gt (pc := 111) hG 116 dX11_latest_111 rfl ?_ ?_
          · intro c111
            obtain ⟨v116, e116⟩ : ∃ z : Int32, z = p82_3 + Int32.ofInt (-1) := ⟨_, rfl⟩
            have r_7 := q_zge r82_3 c83
            have h116 := q_incN (lo := (-1)) (hi := 595) r_7 (by decide) (by decide) e116
            refine q_iinc (pc := 116) [(3, .int v116), (0, .ref a0), (1, .int x1)] hG dX11_latest_116 2 rfl e116 (by decide) rfl ?_
            refine q_goto (pc := 119) 82 hG dX11_latest_119 rfl ?_
            refine q_lv [1, 2, 0] rfl ?_
            exact ih82 v116 s100 (q_r.mono h116.2 (by decide)) w100 (q_measD hm82 (by have o0 := c83; have o1 := h116.1; have o2 := r_7; have o3 := h116.2; unfold q_r at o2 o3; omega) (q_r.mono h116.2 (by decide : ((-32) : Int) ≤ (-1) ∧ (595 : Int) ≤ 2147483647)).1)
          intro c111
          refine q_iload_n (pc := 114) hG dX11_latest_114 2 rfl ?_
          have r_8 := q_zge r82_3 c83
          exact q_irt hG hE dX11_latest_115 ⟨w100, (q_r.mono r_8 (by decide))⟩
      refine q_lv [2, 3, 0] rfl ?_
      have r_9 := (q_subN (lo := (-32)) (hi := 596) e78 r_4 r_5 (by decide)).2
      exact J82 _ v78 σ r_9 hS0 (Nat.lt_succ_self _)
    intro c20
    refine q_aload_n (pc := 23) hG dX11_latest_23 0 rfl ?_
    refine q_getR (pc := 24) (k2 := 5) (n2 := 1) hG fl_X11_58 dX11_latest_24 hI tA0 ff_9_9 (fun b24 f24 T24 => ?_)
    refine q_aload_n (pc := 27) hG dX11_latest_27 0 rfl ?_
    refine q_getR (pc := 28) (k2 := 6) (n2 := 1) hG fl_X11_41 dX11_latest_28 hI tA0 ff_9_5 (fun b28 f28 T28 => ?_)
    refine q_aload_n (pc := 31) hG dX11_latest_31 0 rfl ?_
    refine q_getV (pc := 32) (v := .ref b14) hG fl_X11_34 dX11_latest_32 tA0 f14 ?_
    refine q_iconst (pc := 35) hG dX11_latest_35 ki_0 ?_
    refine q_iconst (pc := 36) hG dX11_latest_36 ki_0 ?_
    refine q_cVv (pc := 37) [.ref b28, .ref b14, .int 0, .int 0] [] hG (c_X6_paint τ σ b24 b28 b14 0 0 hI T24 T28 T14) my_X6_paint mv_X6_paint w605 dX11_latest_37 T24 (by decide) rfl rfl (Nat.le_of_ble_eq_true rfl) (by decide) (fun s37 p37 => ?_)
    have w37 := hS0.trans p37 rfl
    refine q_iload_n (pc := 40) hG dX11_latest_40 1 rfl ?_
    refine q_aload_n (pc := 41) hG dX11_latest_41 0 rfl ?_
    refine q_getV (pc := 42) (v := .ref b24) hG fl_X11_58 dX11_latest_42 tA0 (w37.same tA0 rfl f24) ?_
    refine q_getI (pc := 45) hG fl_X11_257 dX11_latest_45 w37.1 T24 ff_5_3 (fun v45 f45 g45 => ?_)
    refine q_icmp_lt (pc := 48) hG 63 dX11_latest_48 rfl ?_ ?_
    · intro c48
      have r_10 := q_rle r_2 rl_600 g_1.2
      refine q_bipush (pc := 63) hG dX11_latest_63 kb_m2 ?_
      exact q_irt hG hE dX11_latest_65 ⟨w37, (q_r.mono rl_m2 (by decide))⟩
    intro c48
    have r_11 := q_rle r_2 rl_600 g_1.2
    refine q_iload_n (pc := 51) hG dX11_latest_51 1 rfl ?_
    refine q_aload_n (pc := 52) hG dX11_latest_52 0 rfl ?_
    refine q_getV (pc := 53) (v := .ref b24) hG fl_X11_58 dX11_latest_53 tA0 (w37.same tA0 rfl f24) ?_
    refine q_getV (pc := 56) (v := .int v45) hG fl_X11_257 dX11_latest_56 T24 f45 ?_
    refine q_isub (pc := 59) hG dX11_latest_59 (fun v59 e59 => ?_)
    refine q_goto (pc := 60) 65 hG dX11_latest_60 rfl ?_
    exact q_irt hG hE dX11_latest_65 ⟨w37, (q_r_any v59)⟩
  intro c8
  refine q_iconst (pc := 11) hG dX11_latest_11 ki_m1 ?_
  exact q_irt hG hE dX11_latest_12 ⟨hS0, (q_r.mono rl_m1 (by decide))⟩
theorem dX11_dewOdds_0 : decode cX11_dewOdds 0 = .ok (.iload_n 1, 1) := by decide +kernel
theorem dX11_dewOdds_1 : decode cX11_dewOdds 1 = .ok (.iconst 0, 1) := by decide +kernel
theorem dX11_dewOdds_2 : decode cX11_dewOdds 2 = .ok (.sipush 600, 3) := by decide +kernel
theorem dX11_dewOdds_5 : decode cX11_dewOdds 5 = .ok (.invokestatic 90, 3) := by decide +kernel
theorem dX11_dewOdds_8 : decode cX11_dewOdds 8 = .ok (.ifCond .eq 42, 3) := by decide +kernel
theorem dX11_dewOdds_11 : decode cX11_dewOdds 11 = .ok (.iload_n 2, 1) := by decide +kernel
theorem dX11_dewOdds_12 : decode cX11_dewOdds 12 = .ok (.iconst 0, 1) := by decide +kernel
theorem dX11_dewOdds_13 : decode cX11_dewOdds 13 = .ok (.sipush 9999, 3) := by decide +kernel
theorem dX11_dewOdds_16 : decode cX11_dewOdds 16 = .ok (.invokestatic 90, 3) := by decide +kernel
theorem dX11_dewOdds_19 : decode cX11_dewOdds 19 = .ok (.ifCond .eq 31, 3) := by decide +kernel
theorem dX11_dewOdds_22 : decode cX11_dewOdds 22 = .ok (.iload_n 3, 1) := by decide +kernel
theorem dX11_dewOdds_23 : decode cX11_dewOdds 23 = .ok (.iconst 1, 1) := by decide +kernel
theorem dX11_dewOdds_24 : decode cX11_dewOdds 24 = .ok (.bipush 40, 2) := by decide +kernel
theorem dX11_dewOdds_26 : decode cX11_dewOdds 26 = .ok (.invokestatic 90, 3) := by decide +kernel
theorem dX11_dewOdds_29 : decode cX11_dewOdds 29 = .ok (.ifCond .eq 21, 3) := by decide +kernel
theorem dX11_dewOdds_32 : decode cX11_dewOdds 32 = .ok (.iload 4, 2) := by decide +kernel
theorem dX11_dewOdds_34 : decode cX11_dewOdds 34 = .ok (.iconst 0, 1) := by decide +kernel
theorem dX11_dewOdds_35 : decode cX11_dewOdds 35 = .ok (.iconst 1, 1) := by decide +kernel
theorem dX11_dewOdds_36 : decode cX11_dewOdds 36 = .ok (.invokestatic 90, 3) := by decide +kernel
theorem dX11_dewOdds_39 : decode cX11_dewOdds 39 = .ok (.ifCond .eq 11, 3) := by decide +kernel
theorem dX11_dewOdds_42 : decode cX11_dewOdds 42 = .ok (.iload_n 3, 1) := by decide +kernel
theorem dX11_dewOdds_43 : decode cX11_dewOdds 43 = .ok (.aload_n 0, 1) := by decide +kernel
theorem dX11_dewOdds_44 : decode cX11_dewOdds 44 = .ok (.getfield 13, 3) := by decide +kernel
theorem dX11_dewOdds_47 : decode cX11_dewOdds 47 = .ok (.if_icmp .le 5, 3) := by decide +kernel
theorem dX11_dewOdds_50 : decode cX11_dewOdds 50 = .ok (.iconst (-1), 1) := by decide +kernel
theorem dX11_dewOdds_51 : decode cX11_dewOdds 51 = .ok (.ireturn, 1) := by decide +kernel
theorem dX11_dewOdds_52 : decode cX11_dewOdds 52 = .ok (.aload_n 0, 1) := by decide +kernel
theorem dX11_dewOdds_53 : decode cX11_dewOdds 53 = .ok (.getfield 58, 3) := by decide +kernel
theorem dX11_dewOdds_56 : decode cX11_dewOdds 56 = .ok (.aload_n 0, 1) := by decide +kernel
theorem dX11_dewOdds_57 : decode cX11_dewOdds 57 = .ok (.getfield 41, 3) := by decide +kernel
theorem dX11_dewOdds_60 : decode cX11_dewOdds 60 = .ok (.aload_n 0, 1) := by decide +kernel
theorem dX11_dewOdds_61 : decode cX11_dewOdds 61 = .ok (.getfield 34, 3) := by decide +kernel
theorem dX11_dewOdds_64 : decode cX11_dewOdds 64 = .ok (.iload_n 1, 1) := by decide +kernel
theorem dX11_dewOdds_65 : decode cX11_dewOdds 65 = .ok (.iload_n 1, 1) := by decide +kernel
theorem dX11_dewOdds_66 : decode cX11_dewOdds 66 = .ok (.invokevirtual 253, 3) := by decide +kernel
theorem dX11_dewOdds_69 : decode cX11_dewOdds 69 = .ok (.iconst 0, 1) := by decide +kernel
theorem dX11_dewOdds_70 : decode cX11_dewOdds 70 = .ok (.istore 5, 2) := by decide +kernel
theorem dX11_dewOdds_72 : decode cX11_dewOdds 72 = .ok (.iconst 0, 1) := by decide +kernel
theorem dX11_dewOdds_73 : decode cX11_dewOdds 73 = .ok (.istore 6, 2) := by decide +kernel
theorem dX11_dewOdds_75 : decode cX11_dewOdds 75 = .ok (.iconst 0, 1) := by decide +kernel
theorem dX11_dewOdds_76 : decode cX11_dewOdds 76 = .ok (.istore 7, 2) := by decide +kernel
theorem dX11_dewOdds_78 : decode cX11_dewOdds 78 = .ok (.iload 7, 2) := by decide +kernel
theorem dX11_dewOdds_80 : decode cX11_dewOdds 80 = .ok (.iload_n 3, 1) := by decide +kernel
theorem dX11_dewOdds_81 : decode cX11_dewOdds 81 = .ok (.if_icmp .ge 50, 3) := by decide +kernel
theorem dX11_dewOdds_84 : decode cX11_dewOdds 84 = .ok (.aload_n 0, 1) := by decide +kernel
theorem dX11_dewOdds_85 : decode cX11_dewOdds 85 = .ok (.getfield 9, 3) := by decide +kernel
theorem dX11_dewOdds_88 : decode cX11_dewOdds 88 = .ok (.iload 7, 2) := by decide +kernel
theorem dX11_dewOdds_90 : decode cX11_dewOdds 90 = .ok (.iaload, 1) := by decide +kernel
theorem dX11_dewOdds_91 : decode cX11_dewOdds 91 = .ok (.istore 8, 2) := by decide +kernel
theorem dX11_dewOdds_93 : decode cX11_dewOdds 93 = .ok (.iload 6, 2) := by decide +kernel
theorem dX11_dewOdds_95 : decode cX11_dewOdds 95 = .ok (.iload 8, 2) := by decide +kernel
theorem dX11_dewOdds_97 : decode cX11_dewOdds 97 = .ok (.iadd, 1) := by decide +kernel
theorem dX11_dewOdds_98 : decode cX11_dewOdds 98 = .ok (.istore 6, 2) := by decide +kernel
theorem dX11_dewOdds_100 : decode cX11_dewOdds 100 = .ok (.iload 5, 2) := by decide +kernel
theorem dX11_dewOdds_102 : decode cX11_dewOdds 102 = .ok (.aload_n 0, 1) := by decide +kernel
theorem dX11_dewOdds_103 : decode cX11_dewOdds 103 = .ok (.getfield 58, 3) := by decide +kernel
theorem dX11_dewOdds_106 : decode cX11_dewOdds 106 = .ok (.getfield 257, 3) := by decide +kernel
theorem dX11_dewOdds_109 : decode cX11_dewOdds 109 = .ok (.iload_n 2, 1) := by decide +kernel
theorem dX11_dewOdds_110 : decode cX11_dewOdds 110 = .ok (.iload 7, 2) := by decide +kernel
theorem dX11_dewOdds_112 : decode cX11_dewOdds 112 = .ok (.iadd, 1) := by decide +kernel
theorem dX11_dewOdds_113 : decode cX11_dewOdds 113 = .ok (.if_icmp .gt 8, 3) := by decide +kernel
theorem dX11_dewOdds_116 : decode cX11_dewOdds 116 = .ok (.iload 8, 2) := by decide +kernel
theorem dX11_dewOdds_118 : decode cX11_dewOdds 118 = .ok (.goto 4, 3) := by decide +kernel
theorem dX11_dewOdds_121 : decode cX11_dewOdds 121 = .ok (.iconst 0, 1) := by decide +kernel
theorem dX11_dewOdds_122 : decode cX11_dewOdds 122 = .ok (.iadd, 1) := by decide +kernel
theorem dX11_dewOdds_123 : decode cX11_dewOdds 123 = .ok (.istore 5, 2) := by decide +kernel
theorem dX11_dewOdds_125 : decode cX11_dewOdds 125 = .ok (.iinc 7 1, 3) := by decide +kernel
theorem dX11_dewOdds_128 : decode cX11_dewOdds 128 = .ok (.goto (-50), 3) := by decide +kernel
theorem dX11_dewOdds_131 : decode cX11_dewOdds 131 = .ok (.aload_n 0, 1) := by decide +kernel
theorem dX11_dewOdds_132 : decode cX11_dewOdds 132 = .ok (.iconst 0, 1) := by decide +kernel
theorem dX11_dewOdds_133 : decode cX11_dewOdds 133 = .ok (.putfield 13, 3) := by decide +kernel
theorem dX11_dewOdds_136 : decode cX11_dewOdds 136 = .ok (.iload 6, 2) := by decide +kernel
theorem dX11_dewOdds_138 : decode cX11_dewOdds 138 = .ok (.ifCond .gt 6, 3) := by decide +kernel
theorem dX11_dewOdds_141 : decode cX11_dewOdds 141 = .ok (.bipush (-2), 2) := by decide +kernel
theorem dX11_dewOdds_143 : decode cX11_dewOdds 143 = .ok (.ireturn, 1) := by decide +kernel
theorem dX11_dewOdds_144 : decode cX11_dewOdds 144 = .ok (.iload 5, 2) := by decide +kernel
theorem dX11_dewOdds_146 : decode cX11_dewOdds 146 = .ok (.iload 6, 2) := by decide +kernel
theorem dX11_dewOdds_148 : decode cX11_dewOdds 148 = .ok (.invokestatic 269, 3) := by decide +kernel
theorem dX11_dewOdds_151 : decode cX11_dewOdds 151 = .ok (.istore 7, 2) := by decide +kernel
theorem dX11_dewOdds_153 : decode cX11_dewOdds 153 = .ok (.iload 4, 2) := by decide +kernel
theorem dX11_dewOdds_155 : decode cX11_dewOdds 155 = .ok (.ifCond .ne 8, 3) := by decide +kernel
theorem dX11_dewOdds_158 : decode cX11_dewOdds 158 = .ok (.iload 5, 2) := by decide +kernel
theorem dX11_dewOdds_160 : decode cX11_dewOdds 160 = .ok (.goto 5, 3) := by decide +kernel
theorem dX11_dewOdds_163 : decode cX11_dewOdds 163 = .ok (.iload 6, 2) := by decide +kernel
theorem dX11_dewOdds_165 : decode cX11_dewOdds 165 = .ok (.iload 7, 2) := by decide +kernel
theorem dX11_dewOdds_167 : decode cX11_dewOdds 167 = .ok (.idiv, 1) := by decide +kernel
theorem dX11_dewOdds_168 : decode cX11_dewOdds 168 = .ok (.ireturn, 1) := by decide +kernel
def md_X11_dewOdds : List (Nat × Nat) := [(3, 9), (3, 10), (3, 11), (3, 12), (3, 13), (3, 14), (3, 15), (5, 3), (5, 4), (5, 5), (5, 6), (9, 1), (117, 0), (129, 0), (130, 0), (131, 0)]
set_option maxRecDepth 100000 in
set_option maxHeartbeats 4000000 in
theorem c_X11_dewOdds {l : Launch} {D : q_D} (τ : q_T) (σ : q_V) (a0 : Nat) (x1 : Int32) (x2 : Int32) (x3 : Int32) (x4 : Int32) (hI : q_I τ σ) (tA0 : τ a0 = some (9, 1)) : q_Ci l D yX11_dewOdds cX11_dewOdds 9 (some .int) 7 172 τ σ [.ref a0, .int x1, .int x2, .int x3, .int x4] (fun r σ1 => q_S md_X11_dewOdds τ σ σ1 ∧ (q_r r (-2147483648) 2147483647) ∧ (∀ t : Int32, σ a0 1 = .int t → ∃ z : Int32, σ1 a0 1 = .int z ∧ (((0 ≤ x1.toInt ∧ x1.toInt ≤ 600) ∧ (0 ≤ x2.toInt ∧ x2.toInt ≤ 9999) ∧ (1 ≤ x3.toInt ∧ x3.toInt ≤ 40) ∧ (0 ≤ x4.toInt ∧ x4.toInt ≤ 1) ∧ x3.toInt ≤ t.toInt) → z.toInt = 0) ∧ (¬ ((0 ≤ x1.toInt ∧ x1.toInt ≤ 600) ∧ (0 ≤ x2.toInt ∧ x2.toInt ≤ 9999) ∧ (1 ≤ x3.toInt ∧ x3.toInt ≤ 40) ∧ (0 ≤ x4.toInt ∧ x4.toInt ≤ 1) ∧ x3.toInt ≤ t.toInt) → z.toInt = t.toInt))) := by
  refine q_meti rfl (Nat.le_of_ble_eq_true rfl) (fun X hG hE => ?_)
  show q_O X 0 0 τ σ 0 [(0, .ref a0), (1, .int x1), (2, .int x2), (3, .int x3), (4, .int x4)] []
  have hS0 : q_S md_X11_dewOdds τ σ σ := q_S.rf hI
  obtain ⟨q_1v, q_1f, q_1r⟩ := (hI a0 9 1 tA0 1 (by decide)).int ff_9_1
  refine q_iload_n (pc := 0) hG dX11_dewOdds_0 1 rfl ?_
  refine q_iconst (pc := 1) hG dX11_dewOdds_1 ki_0 ?_
  refine q_sipush (pc := 2) hG dX11_dewOdds_2 ks_600 ?_
  refine q_pS (pc := 5) [.int x1, .int 0, .int 600] [] hG (c_X11_isIn τ σ x1 0 600 hI) my_X11_isIn w238 w237 dX11_dewOdds_5 rfl rfl (Nat.le_of_ble_eq_true rfl) (by decide) (fun v5 p5 => ?_)
  refine q_if_eq (pc := 8) hG 50 dX11_dewOdds_8 rfl ?_ ?_
  · intro c8
    refine q_iconst (pc := 50) hG dX11_dewOdds_50 ki_m1 ?_
    have r_2 := q_zeq c8
    exact q_irt hG hE dX11_dewOdds_51 ⟨hS0, (q_r.mono rl_m1 (by decide)), (fun t e => by cases e.symm.trans q_1f; exact ⟨q_1v, q_1f, (by have o0 := p5.2.2; have o1 := c8; have o2 := q_1r; have o3 := r_2; have l4 := tl_m1; have l5 := tl_0; have l6 := tl_600; unfold q_r at o2 o3; omega)⟩)⟩
  intro c8
  have g_3 := p5.2.2.mp (q_one p5.1 c8)
  have r_4 := q_rge (q_r_any x1) rl_0 g_3.1
  refine q_iload_n (pc := 11) hG dX11_dewOdds_11 2 rfl ?_
  refine q_iconst (pc := 12) hG dX11_dewOdds_12 ki_0 ?_
  refine q_sipush (pc := 13) hG dX11_dewOdds_13 ks_9999 ?_
  refine q_pS (pc := 16) [.int x2, .int 0, .int 9999] [] hG (c_X11_isIn τ σ x2 0 9999 hI) my_X11_isIn w238 w237 dX11_dewOdds_16 rfl rfl (Nat.le_of_ble_eq_true rfl) (by decide) (fun v16 p16 => ?_)
  refine q_if_eq (pc := 19) hG 50 dX11_dewOdds_19 rfl ?_ ?_
  · intro c19
    refine q_iconst (pc := 50) hG dX11_dewOdds_50 ki_m1 ?_
    have r_5 := q_zeq c19
    have r_6 := q_neL (c := 1) p5.1 c8 (by decide)
    have r_7 := q_rle r_4 rl_600 g_3.2
    exact q_irt hG hE dX11_dewOdds_51 ⟨hS0, (q_r.mono rl_m1 (by decide)), (fun t e => by cases e.symm.trans q_1f; exact ⟨q_1v, q_1f, (by have o0 := p5.2.2; have o1 := c8; have o2 := g_3.1; have o3 := g_3.2; have o4 := p16.2.2; have o5 := c19; have o6 := q_1r; have o7 := r_5; have o8 := r_6; have o9 := r_7; have l10 := tl_m1; have l11 := tl_0; have l12 := tl_600; have l13 := tl_9999; unfold q_r at o6 o7 o8 o9; omega)⟩)⟩
  intro c19
  have g_8 := p16.2.2.mp (q_one p16.1 c19)
  have r_9 := q_rge (q_r_any x2) rl_0 g_8.1
  refine q_iload_n (pc := 22) hG dX11_dewOdds_22 3 rfl ?_
  refine q_iconst (pc := 23) hG dX11_dewOdds_23 ki_1 ?_
  refine q_bipush (pc := 24) hG dX11_dewOdds_24 kb_40 ?_
  refine q_pS (pc := 26) [.int x3, .int 1, .int 40] [] hG (c_X11_isIn τ σ x3 1 40 hI) my_X11_isIn w238 w237 dX11_dewOdds_26 rfl rfl (Nat.le_of_ble_eq_true rfl) (by decide) (fun v26 p26 => ?_)
  refine q_if_eq (pc := 29) hG 50 dX11_dewOdds_29 rfl ?_ ?_
  · intro c29
    refine q_iconst (pc := 50) hG dX11_dewOdds_50 ki_m1 ?_
    have r_10 := q_neL (c := 1) p16.1 c19 (by decide)
    have r_11 := q_zeq c29
    have r_12 := q_neL (c := 1) p5.1 c8 (by decide)
    have r_13 := q_rle r_4 rl_600 g_3.2
    have r_14 := q_rle r_9 rl_9999 g_8.2
    exact q_irt hG hE dX11_dewOdds_51 ⟨hS0, (q_r.mono rl_m1 (by decide)), (fun t e => by cases e.symm.trans q_1f; exact ⟨q_1v, q_1f, (by have o0 := p5.2.2; have o1 := c8; have o2 := g_3.1; have o3 := g_3.2; have o4 := p16.2.2; have o5 := c19; have o6 := g_8.1; have o7 := g_8.2; have o8 := p26.2.2; have o9 := c29; have o10 := q_1r; have o11 := r_10; have o12 := r_11; have o13 := r_12; have o14 := r_13; have o15 := r_14; have l16 := tl_m1; have l17 := tl_0; have l18 := tl_1; have l19 := tl_40; have l20 := tl_600; have l21 := tl_9999; unfold q_r at o10 o11 o12 o13 o14 o15; omega)⟩)⟩
  intro c29
  have g_15 := p26.2.2.mp (q_one p26.1 c29)
  have r_16 := q_rge (q_r_any x3) rl_1 g_15.1
  refine q_iload (pc := 32) hG dX11_dewOdds_32 4 rfl ?_
  refine q_iconst (pc := 34) hG dX11_dewOdds_34 ki_0 ?_
  refine q_iconst (pc := 35) hG dX11_dewOdds_35 ki_1 ?_
  refine q_pS (pc := 36) [.int x4, .int 0, .int 1] [] hG (c_X11_isIn τ σ x4 0 1 hI) my_X11_isIn w238 w237 dX11_dewOdds_36 rfl rfl (Nat.le_of_ble_eq_true rfl) (by decide) (fun v36 p36 => ?_)
  refine q_if_eq (pc := 39) hG 50 dX11_dewOdds_39 rfl ?_ ?_
  · intro c39
    refine q_iconst (pc := 50) hG dX11_dewOdds_50 ki_m1 ?_
    have r_17 := q_neL (c := 1) p16.1 c19 (by decide)
    have r_18 := q_neL (c := 1) p26.1 c29 (by decide)
    have r_19 := q_zeq c39
    have r_20 := q_neL (c := 1) p5.1 c8 (by decide)
    have r_21 := q_rle r_4 rl_600 g_3.2
    have r_22 := q_rle r_9 rl_9999 g_8.2
    have r_23 := q_rle r_16 rl_40 g_15.2
    exact q_irt hG hE dX11_dewOdds_51 ⟨hS0, (q_r.mono rl_m1 (by decide)), (fun t e => by cases e.symm.trans q_1f; exact ⟨q_1v, q_1f, (by have o0 := p5.2.2; have o1 := c8; have o2 := g_3.1; have o3 := g_3.2; have o4 := p16.2.2; have o5 := c19; have o6 := g_8.1; have o7 := g_8.2; have o8 := p26.2.2; have o9 := c29; have o10 := g_15.1; have o11 := g_15.2; have o12 := p36.2.2; have o13 := c39; have o14 := q_1r; have o15 := r_17; have o16 := r_18; have o17 := r_19; have o18 := r_20; have o19 := r_21; have o20 := r_22; have o21 := r_23; have l22 := tl_m1; have l23 := tl_0; have l24 := tl_1; have l25 := tl_40; have l26 := tl_600; have l27 := tl_9999; unfold q_r at o14 o15 o16 o17 o18 o19 o20 o21; omega)⟩)⟩
  intro c39
  have g_24 := p36.2.2.mp (q_one p36.1 c39)
  have r_25 := q_rge (q_r_any x4) rl_0 g_24.1
  refine q_iload_n (pc := 42) hG dX11_dewOdds_42 3 rfl ?_
  refine q_aload_n (pc := 43) hG dX11_dewOdds_43 0 rfl ?_
  refine q_getV (pc := 44) (v := .int q_1v) hG fl_X11_13 dX11_dewOdds_44 tA0 q_1f ?_
  refine q_icmp_le (pc := 47) hG 52 dX11_dewOdds_47 rfl ?_ ?_
  · intro c47
    have r_26 := q_rle r_16 rl_40 g_15.2
    refine q_aload_n (pc := 52) hG dX11_dewOdds_52 0 rfl ?_
    refine q_getR (pc := 53) (k2 := 5) (n2 := 1) hG fl_X11_58 dX11_dewOdds_53 hI tA0 ff_9_9 (fun b53 f53 T53 => ?_)
    refine q_aload_n (pc := 56) hG dX11_dewOdds_56 0 rfl ?_
    refine q_getR (pc := 57) (k2 := 6) (n2 := 1) hG fl_X11_41 dX11_dewOdds_57 hI tA0 ff_9_5 (fun b57 f57 T57 => ?_)
    refine q_aload_n (pc := 60) hG dX11_dewOdds_60 0 rfl ?_
    refine q_getR (pc := 61) (k2 := 3) (n2 := 1) hG fl_X11_34 dX11_dewOdds_61 hI tA0 ff_9_4 (fun b61 f61 T61 => ?_)
    refine q_iload_n (pc := 64) hG dX11_dewOdds_64 1 rfl ?_
    refine q_iload_n (pc := 65) hG dX11_dewOdds_65 1 rfl ?_
    refine q_cVv (pc := 66) [.ref b57, .ref b61, .int x1, .int x1] [] hG (c_X6_paint τ σ b53 b57 b61 x1 x1 hI T53 T57 T61) my_X6_paint mv_X6_paint w605 dX11_dewOdds_66 T53 (by decide) rfl rfl (Nat.le_of_ble_eq_true rfl) (by decide) (fun s66 p66 => ?_)
    have w66 := hS0.trans p66 rfl
    refine q_iconst (pc := 69) hG dX11_dewOdds_69 ki_0 ?_
    refine q_istore (pc := 70) [(5, .int 0), (0, .ref a0), (1, .int x1), (2, .int x2), (3, .int x3), (4, .int x4)] hG dX11_dewOdds_70 (by decide) rfl ?_
    refine q_iconst (pc := 72) hG dX11_dewOdds_72 ki_0 ?_
    refine q_istore (pc := 73) [(6, .int 0), (5, .int 0), (0, .ref a0), (1, .int x1), (2, .int x2), (3, .int x3), (4, .int x4)] hG dX11_dewOdds_73 (by decide) rfl ?_
    refine q_iconst (pc := 75) hG dX11_dewOdds_75 ki_0 ?_
    refine q_istore (pc := 76) [(7, .int 0), (6, .int 0), (5, .int 0), (0, .ref a0), (1, .int x1), (2, .int x2), (3, .int x3), (4, .int x4)] hG dX11_dewOdds_76 (by decide) rfl ?_
    have J78 : ∀ (n78 : Nat) (p78_5 : Int32) (p78_6 : Int32) (p78_7 : Int32), (q_r p78_7 0 40) → ((40 - p78_7.toInt).toNat < n78) → q_O X 0 0 τ s66 78 [(0, .ref a0), (2, .int x2), (3, .int x3), (4, .int x4), (5, .int p78_5), (6, .int p78_6), (7, .int p78_7)] [] := by
      intro n78
      induction n78 with
      | zero => intro p78_5 p78_6 p78_7 r78_7 hm78; exact absurd hm78 (Nat.not_lt_zero _)
      | succ n78 ih78 =>
        intro p78_5 p78_6 p78_7 r78_7 hm78
        refine q_iload (pc := 78) hG dX11_dewOdds_78 6 rfl ?_
        refine q_iload_n (pc := 80) hG dX11_dewOdds_80 2 rfl ?_
        refine q_icmp_ge (pc := 81) hG 131 dX11_dewOdds_81 rfl ?_ ?_
        · intro c81
          refine q_aload_n (pc := 131) hG dX11_dewOdds_131 0 rfl ?_
          refine q_iconst (pc := 132) hG dX11_dewOdds_132 ki_0 ?_
          refine q_putI (pc := 133) hG fl_X11_13 dX11_dewOdds_133 w66 tA0 ff_9_1 rl_0 (by decide) rfl (fun s133 u133 w133 => ?_)
          have m133 : s133 a0 1 = .int 0 := by rw [u133]; exact q_up_same
          refine q_iload (pc := 136) hG dX11_dewOdds_136 5 rfl ?_
          refine q_if_gt (pc := 138) hG 144 dX11_dewOdds_138 rfl ?_ ?_
          · intro c138
            refine q_iload (pc := 144) hG dX11_dewOdds_144 4 rfl ?_
            refine q_iload (pc := 146) hG dX11_dewOdds_146 5 rfl ?_
            refine q_pS (pc := 148) [.int p78_5, .int p78_6] [] hG (c_X11_commonDivisor τ s133 p78_5 p78_6 w133.1) my_X11_commonDivisor w627 w626 dX11_dewOdds_148 rfl rfl (Nat.le_of_ble_eq_true rfl) (by decide) (fun v148 p148 => ?_)
            refine q_istore (pc := 151) [(7, .int v148), (0, .ref a0), (2, .int x2), (3, .int x3), (4, .int x4), (5, .int p78_5), (6, .int p78_6)] hG dX11_dewOdds_151 (by decide) rfl ?_
            refine q_iload (pc := 153) hG dX11_dewOdds_153 4 rfl ?_
            refine q_if_ne (pc := 155) hG 163 dX11_dewOdds_155 rfl ?_ ?_
            · intro c155
              have r_27 := q_rle r_25 rl_1 g_24.2
              refine q_iload (pc := 163) hG dX11_dewOdds_163 6 rfl ?_
              refine q_iload (pc := 165) hG dX11_dewOdds_165 0 rfl ?_
              refine q_idiv (pc := 167) hG dX11_dewOdds_167 (q_nzr p148 (by decide)) (fun v167 e167 => ?_)
              have r_28 := q_zgt (q_r_any p78_6) c138
              have r_29 := (q_divN (lo := 0) (hi := 2147483647) e167 r_28 p148 (by decide)).2
              have r_30 := q_rge r78_7 r_26 c81
              have r_31 := q_rge q_1r r_26 c47
              have r_32 := q_neL (c := 1) p16.1 c19 (by decide)
              have r_33 := q_neL (c := 1) p26.1 c29 (by decide)
              have r_34 := q_neL (c := 1) p36.1 c39 (by decide)
              have r_35 := q_neL (c := 1) p5.1 c8 (by decide)
              have r_36 := q_rle r_4 rl_600 g_3.2
              have r_37 := q_rle r_9 rl_9999 g_8.2
              have r_38 := q_neL (c := 1) r_27 c155 (by decide)
              exact q_irt hG hE dX11_dewOdds_168 ⟨w133, (q_r.mono r_29 (by decide)), (fun t e => by cases e.symm.trans q_1f; exact ⟨0, m133, (by have o0 := p5.2.2; have o1 := c8; have o2 := g_3.1; have o3 := g_3.2; have o4 := p16.2.2; have o5 := c19; have o6 := g_8.1; have o7 := g_8.2; have o8 := p26.2.2; have o9 := c29; have o10 := g_15.1; have o11 := g_15.2; have o12 := p36.2.2; have o13 := c39; have o14 := g_24.1; have o15 := g_24.2; have o16 := c47; have o17 := c81; have o18 := c155; have o19 := r_30; have o20 := r_31; have o21 := r_32; have o22 := r_29; have o23 := r_33; have o24 := r_34; have o25 := r_35; have o26 := r_36; have o27 := r_37; have o28 := r_26; have o29 := r_38; have l30 := tl_0; have l31 := tl_1; have l32 := tl_40; have l33 := tl_600; have l34 := tl_9999; unfold q_r at o19 o20 o21 o22 o23 o24 o25 o26 o27 o28 o29; omega)⟩)⟩
            intro c155
            have r_39 := q_rle r_25 rl_1 g_24.2
            refine q_iload (pc := 158) hG dX11_dewOdds_158 5 rfl ?_
            refine q_goto (pc := 160) 165 hG dX11_dewOdds_160 rfl ?_
            refine q_iload (pc := 165) hG dX11_dewOdds_165 0 rfl ?_
            refine q_idiv (pc := 167) hG dX11_dewOdds_167 (q_nzr p148 (by decide)) (fun v167 e167 => ?_)
            have r_40 := (q_divN (lo := (-2147483648)) (hi := 2147483647) e167 (q_r_any p78_5) p148 (by decide)).2
            have r_41 := q_rge r78_7 r_26 c81
            have r_42 := q_rge q_1r r_26 c47
            have r_43 := q_neL (c := 1) p16.1 c19 (by decide)
            have r_44 := q_neL (c := 1) p26.1 c29 (by decide)
            have r_45 := q_neL (c := 1) p36.1 c39 (by decide)
            have r_46 := q_neL (c := 1) p5.1 c8 (by decide)
            have r_47 := q_rle r_4 rl_600 g_3.2
            have r_48 := q_rle r_9 rl_9999 g_8.2
            have r_49 := q_zeq c155
            exact q_irt hG hE dX11_dewOdds_168 ⟨w133, r_40, (fun t e => by cases e.symm.trans q_1f; exact ⟨0, m133, (by have o0 := p5.2.2; have o1 := c8; have o2 := g_3.1; have o3 := g_3.2; have o4 := p16.2.2; have o5 := c19; have o6 := g_8.1; have o7 := g_8.2; have o8 := p26.2.2; have o9 := c29; have o10 := g_15.1; have o11 := g_15.2; have o12 := p36.2.2; have o13 := c39; have o14 := g_24.1; have o15 := g_24.2; have o16 := c47; have o17 := c81; have o18 := c155; have o19 := r_41; have o20 := r_42; have o21 := r_43; have o22 := r_40; have o23 := r_44; have o24 := r_45; have o25 := r_46; have o26 := r_47; have o27 := r_48; have o28 := r_26; have o29 := r_49; have l30 := tl_0; have l31 := tl_1; have l32 := tl_40; have l33 := tl_600; have l34 := tl_9999; unfold q_r at o19 o20 o21 o22 o23 o24 o25 o26 o27 o28 o29; omega)⟩)⟩
          intro c138
          refine q_bipush (pc := 141) hG dX11_dewOdds_141 kb_m2 ?_
          have r_50 := q_rge r78_7 r_26 c81
          have r_51 := q_rge q_1r r_26 c47
          have r_52 := q_neL (c := 1) p16.1 c19 (by decide)
          have r_53 := q_neL (c := 1) p26.1 c29 (by decide)
          have r_54 := q_neL (c := 1) p36.1 c39 (by decide)
          have r_55 := q_neL (c := 1) p5.1 c8 (by decide)
          have r_56 := q_rle r_4 rl_600 g_3.2
          have r_57 := q_rle r_9 rl_9999 g_8.2
          have r_58 := q_rle r_25 rl_1 g_24.2
          exact q_irt hG hE dX11_dewOdds_143 ⟨w133, (q_r.mono rl_m2 (by decide)), (fun t e => by cases e.symm.trans q_1f; exact ⟨0, m133, (by have o0 := p5.2.2; have o1 := c8; have o2 := g_3.1; have o3 := g_3.2; have o4 := p16.2.2; have o5 := c19; have o6 := g_8.1; have o7 := g_8.2; have o8 := p26.2.2; have o9 := c29; have o10 := g_15.1; have o11 := g_15.2; have o12 := p36.2.2; have o13 := c39; have o14 := g_24.1; have o15 := g_24.2; have o16 := c47; have o17 := c81; have o18 := r_50; have o19 := r_51; have o20 := r_52; have o21 := r_53; have o22 := r_54; have o23 := r_55; have o24 := r_56; have o25 := r_57; have o26 := r_26; have o27 := r_58; have l28 := tl_m2; have l29 := tl_0; have l30 := tl_1; have l31 := tl_40; have l32 := tl_600; have l33 := tl_9999; unfold q_r at o18 o19 o20 o21 o22 o23 o24 o25 o26 o27; omega)⟩)⟩
        intro c81
        refine q_aload_n (pc := 84) hG dX11_dewOdds_84 0 rfl ?_
        refine q_getR (pc := 85) (k2 := 110) (n2 := 260) hG fl_X11_9 dX11_dewOdds_85 w66.1 tA0 ff_9_0 (fun b85 f85 T85 => ?_)
        have f_59 := (w66.2 _ _ _ _ tA0 rfl).symm.trans f85
        refine q_iload (pc := 88) hG dX11_dewOdds_88 6 rfl ?_
        have r_60 := q_rlt r78_7 r_26 c81 39 (by decide)
        refine q_iald (pc := 90) hG dX11_dewOdds_90 w66.1 ai_110 T85 (q_ix r_60 (by decide)) (fun v90 f90 g90 => ?_)
        have f_61 := (w66.2 _ _ _ _ T85 rfl).symm.trans f90
        refine q_istore (pc := 91) [(8, .int v90), (0, .ref a0), (2, .int x2), (3, .int x3), (4, .int x4), (5, .int p78_5), (6, .int p78_6), (7, .int p78_7)] hG dX11_dewOdds_91 (by decide) rfl ?_
        refine q_iload (pc := 93) hG dX11_dewOdds_93 6 rfl ?_
        refine q_iload (pc := 95) hG dX11_dewOdds_95 0 rfl ?_
        refine q_iadd (pc := 97) hG dX11_dewOdds_97 (fun v97 e97 => ?_)
        refine q_istore (pc := 98) [(6, .int v97), (8, .int v90), (0, .ref a0), (2, .int x2), (3, .int x3), (4, .int x4), (5, .int p78_5), (7, .int p78_7)] hG dX11_dewOdds_98 (by decide) rfl ?_
        refine q_iload (pc := 100) hG dX11_dewOdds_100 6 rfl ?_
        refine q_aload_n (pc := 102) hG dX11_dewOdds_102 2 rfl ?_
        refine q_getV (pc := 103) (v := .ref b53) hG fl_X11_58 dX11_dewOdds_103 tA0 (w66.same tA0 rfl f53) ?_
        refine q_getI (pc := 106) hG fl_X11_257 dX11_dewOdds_106 w66.1 T53 ff_5_3 (fun v106 f106 g106 => ?_)
        refine q_iload_n (pc := 109) hG dX11_dewOdds_109 3 rfl ?_
        refine q_iload (pc := 110) hG dX11_dewOdds_110 7 rfl ?_
        refine q_iadd (pc := 112) hG dX11_dewOdds_112 (fun v112 e112 => ?_)
        have r_62 := q_rle r_9 rl_9999 g_8.2
        have J122 : ∀ (p122_s0 : Int32), (q_r p122_s0 0 255) → q_O X 0 0 τ s66 122 [(0, .ref a0), (2, .int x2), (3, .int x3), (4, .int x4), (6, .int v97), (7, .int p78_7)] [.int p122_s0, .int p78_5] := by
          intro p122_s0 r122_s0
          refine q_iadd (pc := 122) hG dX11_dewOdds_122 (fun v122 e122 => ?_)
          refine q_istore (pc := 123) [(5, .int v122), (0, .ref a0), (2, .int x2), (3, .int x3), (4, .int x4), (6, .int v97), (7, .int p78_7)] hG dX11_dewOdds_123 (by decide) rfl ?_
          obtain ⟨v125, e125⟩ : ∃ z : Int32, z = p78_7 + Int32.ofInt 1 := ⟨_, rfl⟩
          have h125 := q_incN (lo := 1) (hi := 40) r_60 (by decide) (by decide) e125
          refine q_iinc (pc := 125) [(7, .int v125), (5, .int v122), (0, .ref a0), (2, .int x2), (3, .int x3), (4, .int x4), (6, .int v97)] hG dX11_dewOdds_125 6 rfl e125 (by decide) rfl ?_
          refine q_goto (pc := 128) 78 hG dX11_dewOdds_128 rfl ?_
          refine q_lv [2, 3, 4, 5, 1, 6, 0] rfl ?_
          have r_63 := q_rge q_1r r_26 c47
          have r_64 := (q_addN (lo := 0) (hi := 10038) e112 r_62 r_60 (by decide)).2
          have r_65 := q_neL (c := 1) p16.1 c19 (by decide)
          have r_66 := q_neL (c := 1) p26.1 c29 (by decide)
          exact ih78 v122 v97 v125 (q_r.mono h125.2 (by decide)) (q_measU hm78 (by have o0 := c81; have o1 := (q_addN (lo := 0) (hi := 10038) e112 r_62 r_60 (by decide)).1; have o2 := h125.1; have o3 := p16.2.2; have o4 := c19; have o5 := g_8.1; have o6 := g_8.2; have o7 := p26.2.2; have o8 := c29; have o9 := g_15.1; have o10 := g_15.2; have o11 := c47; have o12 := r_60; have o13 := r_63; have o14 := r_64; have o15 := h125.2; have o16 := r_65; have o17 := r_66; have o18 := r_62; have o19 := r_26; have l20 := tl_0; have l21 := tl_1; have l22 := tl_40; have l23 := tl_9999; unfold q_r at o12 o13 o14 o15 o16 o17 o18 o19; omega) (h125.2).2)
        refine q_icmp_gt (pc := 113) hG 121 dX11_dewOdds_113 rfl ?_ ?_
        · intro c113
          have r_67 := (q_addN (lo := 0) (hi := 10038) e112 r_62 r_60 (by decide)).2
          refine q_iconst (pc := 121) hG dX11_dewOdds_121 ki_0 ?_
          refine q_lv [2, 3, 4, 5, 0, 7] rfl ?_
          exact J122 0 (q_r.mono rl_0 (by decide))
        intro c113
        have r_68 := (q_addN (lo := 0) (hi := 10038) e112 r_62 r_60 (by decide)).2
        refine q_iload (pc := 116) hG dX11_dewOdds_116 1 rfl ?_
        refine q_goto (pc := 118) 122 hG dX11_dewOdds_118 rfl ?_
        refine q_lv [2, 3, 4, 5, 0, 7] rfl ?_
        exact J122 v90 g90
    refine q_lv [3, 5, 6, 7, 2, 1, 0] rfl ?_
    exact J78 _ 0 0 0 (q_r.mono rl_0 (by decide)) (Nat.lt_succ_self _)
  intro c47
  have r_69 := q_rle r_16 rl_40 g_15.2
  refine q_iconst (pc := 50) hG dX11_dewOdds_50 ki_m1 ?_
  have r_70 := q_rlt q_1r r_69 c47 39 (by decide)
  have r_71 := q_neL (c := 1) p16.1 c19 (by decide)
  have r_72 := q_neL (c := 1) p26.1 c29 (by decide)
  have r_73 := q_neL (c := 1) p36.1 c39 (by decide)
  have r_74 := q_neL (c := 1) p5.1 c8 (by decide)
  have r_75 := q_rle r_4 rl_600 g_3.2
  have r_76 := q_rle r_9 rl_9999 g_8.2
  have r_77 := q_rle r_25 rl_1 g_24.2
  exact q_irt hG hE dX11_dewOdds_51 ⟨hS0, (q_r.mono rl_m1 (by decide)), (fun t e => by cases e.symm.trans q_1f; exact ⟨q_1v, q_1f, (by have o0 := p5.2.2; have o1 := c8; have o2 := g_3.1; have o3 := g_3.2; have o4 := p16.2.2; have o5 := c19; have o6 := g_8.1; have o7 := g_8.2; have o8 := p26.2.2; have o9 := c29; have o10 := g_15.1; have o11 := g_15.2; have o12 := p36.2.2; have o13 := c39; have o14 := g_24.1; have o15 := g_24.2; have o16 := c47; have o17 := r_70; have o18 := r_71; have o19 := r_72; have o20 := r_73; have o21 := r_74; have o22 := r_75; have o23 := r_76; have o24 := r_69; have o25 := r_77; have l26 := tl_m1; have l27 := tl_0; have l28 := tl_1; have l29 := tl_40; have l30 := tl_600; have l31 := tl_9999; unfold q_r at o17 o18 o19 o20 o21 o22 o23 o24 o25; omega)⟩)⟩
theorem dX11_meet_0 : decode cX11_meet 0 = .ok (.iload_n 1, 1) := by decide +kernel
theorem dX11_meet_1 : decode cX11_meet 1 = .ok (.iconst 0, 1) := by decide +kernel
theorem dX11_meet_2 : decode cX11_meet 2 = .ok (.sipush 600, 3) := by decide +kernel
theorem dX11_meet_5 : decode cX11_meet 5 = .ok (.invokestatic 90, 3) := by decide +kernel
theorem dX11_meet_8 : decode cX11_meet 8 = .ok (.ifCond .eq 23, 3) := by decide +kernel
theorem dX11_meet_11 : decode cX11_meet 11 = .ok (.iload_n 2, 1) := by decide +kernel
theorem dX11_meet_12 : decode cX11_meet 12 = .ok (.iconst 0, 1) := by decide +kernel
theorem dX11_meet_13 : decode cX11_meet 13 = .ok (.sipush 600, 3) := by decide +kernel
theorem dX11_meet_16 : decode cX11_meet 16 = .ok (.invokestatic 90, 3) := by decide +kernel
theorem dX11_meet_19 : decode cX11_meet 19 = .ok (.ifCond .eq 12, 3) := by decide +kernel
theorem dX11_meet_22 : decode cX11_meet 22 = .ok (.iload_n 3, 1) := by decide +kernel
theorem dX11_meet_23 : decode cX11_meet 23 = .ok (.iconst 0, 1) := by decide +kernel
theorem dX11_meet_24 : decode cX11_meet 24 = .ok (.iconst 2, 1) := by decide +kernel
theorem dX11_meet_25 : decode cX11_meet 25 = .ok (.invokestatic 90, 3) := by decide +kernel
theorem dX11_meet_28 : decode cX11_meet 28 = .ok (.ifCond .ne 5, 3) := by decide +kernel
theorem dX11_meet_31 : decode cX11_meet 31 = .ok (.iconst (-1), 1) := by decide +kernel
theorem dX11_meet_32 : decode cX11_meet 32 = .ok (.ireturn, 1) := by decide +kernel
theorem dX11_meet_33 : decode cX11_meet 33 = .ok (.aload_n 0, 1) := by decide +kernel
theorem dX11_meet_34 : decode cX11_meet 34 = .ok (.getfield 58, 3) := by decide +kernel
theorem dX11_meet_37 : decode cX11_meet 37 = .ok (.aload_n 0, 1) := by decide +kernel
theorem dX11_meet_38 : decode cX11_meet 38 = .ok (.getfield 41, 3) := by decide +kernel
theorem dX11_meet_41 : decode cX11_meet 41 = .ok (.aload_n 0, 1) := by decide +kernel
theorem dX11_meet_42 : decode cX11_meet 42 = .ok (.getfield 34, 3) := by decide +kernel
theorem dX11_meet_45 : decode cX11_meet 45 = .ok (.iload_n 1, 1) := by decide +kernel
theorem dX11_meet_46 : decode cX11_meet 46 = .ok (.iload_n 2, 1) := by decide +kernel
theorem dX11_meet_47 : decode cX11_meet 47 = .ok (.invokevirtual 253, 3) := by decide +kernel
theorem dX11_meet_50 : decode cX11_meet 50 = .ok (.aload_n 0, 1) := by decide +kernel
theorem dX11_meet_51 : decode cX11_meet 51 = .ok (.getfield 58, 3) := by decide +kernel
theorem dX11_meet_54 : decode cX11_meet 54 = .ok (.getfield 272, 3) := by decide +kernel
theorem dX11_meet_57 : decode cX11_meet 57 = .ok (.istore 4, 2) := by decide +kernel
theorem dX11_meet_59 : decode cX11_meet 59 = .ok (.iload_n 3, 1) := by decide +kernel
theorem dX11_meet_60 : decode cX11_meet 60 = .ok (.iconst 1, 1) := by decide +kernel
theorem dX11_meet_61 : decode cX11_meet 61 = .ok (.if_icmp .ne 11, 3) := by decide +kernel
theorem dX11_meet_64 : decode cX11_meet 64 = .ok (.aload_n 0, 1) := by decide +kernel
theorem dX11_meet_65 : decode cX11_meet 65 = .ok (.getfield 58, 3) := by decide +kernel
theorem dX11_meet_68 : decode cX11_meet 68 = .ok (.getfield 275, 3) := by decide +kernel
theorem dX11_meet_71 : decode cX11_meet 71 = .ok (.ireturn, 1) := by decide +kernel
theorem dX11_meet_72 : decode cX11_meet 72 = .ok (.iload_n 3, 1) := by decide +kernel
theorem dX11_meet_73 : decode cX11_meet 73 = .ok (.ifCond .ne 16, 3) := by decide +kernel
theorem dX11_meet_76 : decode cX11_meet 76 = .ok (.iload 4, 2) := by decide +kernel
theorem dX11_meet_78 : decode cX11_meet 78 = .ok (.ifCond .ge 8, 3) := by decide +kernel
theorem dX11_meet_81 : decode cX11_meet 81 = .ok (.bipush (-2), 2) := by decide +kernel
theorem dX11_meet_83 : decode cX11_meet 83 = .ok (.goto 5, 3) := by decide +kernel
theorem dX11_meet_86 : decode cX11_meet 86 = .ok (.iload 4, 2) := by decide +kernel
theorem dX11_meet_88 : decode cX11_meet 88 = .ok (.ireturn, 1) := by decide +kernel
theorem dX11_meet_89 : decode cX11_meet 89 = .ok (.iload 4, 2) := by decide +kernel
theorem dX11_meet_91 : decode cX11_meet 91 = .ok (.ifCond .lt 17, 3) := by decide +kernel
theorem dX11_meet_94 : decode cX11_meet 94 = .ok (.iload 4, 2) := by decide +kernel
theorem dX11_meet_96 : decode cX11_meet 96 = .ok (.aload_n 0, 1) := by decide +kernel
theorem dX11_meet_97 : decode cX11_meet 97 = .ok (.getfield 41, 3) := by decide +kernel
theorem dX11_meet_100 : decode cX11_meet 100 = .ok (.getfield 98, 3) := by decide +kernel
theorem dX11_meet_103 : decode cX11_meet 103 = .ok (.iconst 1, 1) := by decide +kernel
theorem dX11_meet_104 : decode cX11_meet 104 = .ok (.isub, 1) := by decide +kernel
theorem dX11_meet_105 : decode cX11_meet 105 = .ok (.if_icmp .lt 6, 3) := by decide +kernel
theorem dX11_meet_108 : decode cX11_meet 108 = .ok (.bipush (-2), 2) := by decide +kernel
theorem dX11_meet_110 : decode cX11_meet 110 = .ok (.ireturn, 1) := by decide +kernel
theorem dX11_meet_111 : decode cX11_meet 111 = .ok (.aload_n 0, 1) := by decide +kernel
theorem dX11_meet_112 : decode cX11_meet 112 = .ok (.getfield 41, 3) := by decide +kernel
theorem dX11_meet_115 : decode cX11_meet 115 = .ok (.iconst 0, 1) := by decide +kernel
theorem dX11_meet_116 : decode cX11_meet 116 = .ok (.iload 4, 2) := by decide +kernel
theorem dX11_meet_118 : decode cX11_meet 118 = .ok (.invokevirtual 278, 3) := by decide +kernel
theorem dX11_meet_121 : decode cX11_meet 121 = .ok (.aload_n 0, 1) := by decide +kernel
theorem dX11_meet_122 : decode cX11_meet 122 = .ok (.getfield 41, 3) := by decide +kernel
theorem dX11_meet_125 : decode cX11_meet 125 = .ok (.iconst 1, 1) := by decide +kernel
theorem dX11_meet_126 : decode cX11_meet 126 = .ok (.iload 4, 2) := by decide +kernel
theorem dX11_meet_128 : decode cX11_meet 128 = .ok (.iconst 1, 1) := by decide +kernel
theorem dX11_meet_129 : decode cX11_meet 129 = .ok (.iadd, 1) := by decide +kernel
theorem dX11_meet_130 : decode cX11_meet 130 = .ok (.invokevirtual 278, 3) := by decide +kernel
theorem dX11_meet_133 : decode cX11_meet 133 = .ok (.isub, 1) := by decide +kernel
theorem dX11_meet_134 : decode cX11_meet 134 = .ok (.invokestatic 250, 3) := by decide +kernel
theorem dX11_meet_137 : decode cX11_meet 137 = .ok (.ireturn, 1) := by decide +kernel
def md_X11_meet : List (Nat × Nat) := [(3, 9), (3, 10), (3, 11), (3, 12), (3, 13), (3, 14), (3, 15), (5, 3), (5, 4), (5, 5), (5, 6), (117, 0), (129, 0), (130, 0), (131, 0)]
set_option maxRecDepth 100000 in
set_option maxHeartbeats 4000000 in
theorem c_X11_meet {l : Launch} {D : q_D} (τ : q_T) (σ : q_V) (a0 : Nat) (x1 : Int32) (x2 : Int32) (x3 : Int32) (hI : q_I τ σ) (tA0 : τ a0 = some (9, 1)) : q_Ci l D yX11_meet cX11_meet 5 (some .int) 7 172 τ σ [.ref a0, .int x1, .int x2, .int x3] (fun r σ1 => q_S md_X11_meet τ σ σ1 ∧ (q_r r (-2147483648) 2147483647)) := by
  refine q_meti rfl (Nat.le_of_ble_eq_true rfl) (fun X hG hE => ?_)
  show q_O X 0 0 τ σ 0 [(0, .ref a0), (1, .int x1), (2, .int x2), (3, .int x3)] []
  have hS0 : q_S md_X11_meet τ σ σ := q_S.rf hI
  refine q_iload_n (pc := 0) hG dX11_meet_0 1 rfl ?_
  refine q_iconst (pc := 1) hG dX11_meet_1 ki_0 ?_
  refine q_sipush (pc := 2) hG dX11_meet_2 ks_600 ?_
  refine q_pS (pc := 5) [.int x1, .int 0, .int 600] [] hG (c_X11_isIn τ σ x1 0 600 hI) my_X11_isIn w238 w237 dX11_meet_5 rfl rfl (Nat.le_of_ble_eq_true rfl) (by decide) (fun v5 p5 => ?_)
  refine q_if_eq (pc := 8) hG 31 dX11_meet_8 rfl ?_ ?_
  · intro c8
    refine q_iconst (pc := 31) hG dX11_meet_31 ki_m1 ?_
    exact q_irt hG hE dX11_meet_32 ⟨hS0, (q_r.mono rl_m1 (by decide))⟩
  intro c8
  have g_1 := p5.2.2.mp (q_one p5.1 c8)
  have r_2 := q_rge (q_r_any x1) rl_0 g_1.1
  refine q_iload_n (pc := 11) hG dX11_meet_11 2 rfl ?_
  refine q_iconst (pc := 12) hG dX11_meet_12 ki_0 ?_
  refine q_sipush (pc := 13) hG dX11_meet_13 ks_600 ?_
  refine q_pS (pc := 16) [.int x2, .int 0, .int 600] [] hG (c_X11_isIn τ σ x2 0 600 hI) my_X11_isIn w238 w237 dX11_meet_16 rfl rfl (Nat.le_of_ble_eq_true rfl) (by decide) (fun v16 p16 => ?_)
  refine q_if_eq (pc := 19) hG 31 dX11_meet_19 rfl ?_ ?_
  · intro c19
    refine q_iconst (pc := 31) hG dX11_meet_31 ki_m1 ?_
    exact q_irt hG hE dX11_meet_32 ⟨hS0, (q_r.mono rl_m1 (by decide))⟩
  intro c19
  have g_3 := p16.2.2.mp (q_one p16.1 c19)
  have r_4 := q_rge (q_r_any x2) rl_0 g_3.1
  refine q_iload_n (pc := 22) hG dX11_meet_22 3 rfl ?_
  refine q_iconst (pc := 23) hG dX11_meet_23 ki_0 ?_
  refine q_iconst (pc := 24) hG dX11_meet_24 ki_2 ?_
  refine q_pS (pc := 25) [.int x3, .int 0, .int 2] [] hG (c_X11_isIn τ σ x3 0 2 hI) my_X11_isIn w238 w237 dX11_meet_25 rfl rfl (Nat.le_of_ble_eq_true rfl) (by decide) (fun v25 p25 => ?_)
  refine q_if_ne (pc := 28) hG 33 dX11_meet_28 rfl ?_ ?_
  · intro c28
    have g_5 := p25.2.2.mp (q_one p25.1 c28)
    have r_6 := q_rge (q_r_any x3) rl_0 g_5.1
    refine q_aload_n (pc := 33) hG dX11_meet_33 0 rfl ?_
    refine q_getR (pc := 34) (k2 := 5) (n2 := 1) hG fl_X11_58 dX11_meet_34 hI tA0 ff_9_9 (fun b34 f34 T34 => ?_)
    refine q_aload_n (pc := 37) hG dX11_meet_37 0 rfl ?_
    refine q_getR (pc := 38) (k2 := 6) (n2 := 1) hG fl_X11_41 dX11_meet_38 hI tA0 ff_9_5 (fun b38 f38 T38 => ?_)
    refine q_aload_n (pc := 41) hG dX11_meet_41 0 rfl ?_
    refine q_getR (pc := 42) (k2 := 3) (n2 := 1) hG fl_X11_34 dX11_meet_42 hI tA0 ff_9_4 (fun b42 f42 T42 => ?_)
    refine q_iload_n (pc := 45) hG dX11_meet_45 1 rfl ?_
    refine q_iload_n (pc := 46) hG dX11_meet_46 2 rfl ?_
    refine q_cVv (pc := 47) [.ref b38, .ref b42, .int x1, .int x2] [] hG (c_X6_paint τ σ b34 b38 b42 x1 x2 hI T34 T38 T42) my_X6_paint mv_X6_paint w605 dX11_meet_47 T34 (by decide) rfl rfl (Nat.le_of_ble_eq_true rfl) (by decide) (fun s47 p47 => ?_)
    have w47 := hS0.trans p47 rfl
    refine q_aload_n (pc := 50) hG dX11_meet_50 0 rfl ?_
    refine q_getV (pc := 51) (v := .ref b34) hG fl_X11_58 dX11_meet_51 tA0 (w47.same tA0 rfl f34) ?_
    refine q_getI (pc := 54) hG fl_X11_272 dX11_meet_54 w47.1 T34 ff_5_6 (fun v54 f54 g54 => ?_)
    refine q_istore (pc := 57) [(4, .int v54), (0, .ref a0), (1, .int x1), (2, .int x2), (3, .int x3)] hG dX11_meet_57 (by decide) rfl ?_
    refine q_iload_n (pc := 59) hG dX11_meet_59 4 rfl ?_
    refine q_iconst (pc := 60) hG dX11_meet_60 ki_1 ?_
    refine q_icmp_ne (pc := 61) hG 72 dX11_meet_61 rfl ?_ ?_
    · intro c61
      have r_7 := q_rle r_6 rl_2 g_5.2
      refine q_iload_n (pc := 72) hG dX11_meet_72 4 rfl ?_
      refine q_if_ne (pc := 73) hG 89 dX11_meet_73 rfl ?_ ?_
      · intro c73
        refine q_iload (pc := 89) hG dX11_meet_89 0 rfl ?_
        refine q_if_lt (pc := 91) hG 108 dX11_meet_91 rfl ?_ ?_
        · intro c91
          refine q_bipush (pc := 108) hG dX11_meet_108 kb_m2 ?_
          exact q_irt hG hE dX11_meet_110 ⟨w47, (q_r.mono rl_m2 (by decide))⟩
        intro c91
        refine q_iload (pc := 94) hG dX11_meet_94 0 rfl ?_
        refine q_aload_n (pc := 96) hG dX11_meet_96 1 rfl ?_
        refine q_getV (pc := 97) (v := .ref b38) hG fl_X11_41 dX11_meet_97 tA0 (w47.same tA0 rfl f38) ?_
        refine q_getI (pc := 100) hG fl_X11_98 dX11_meet_100 w47.1 T38 ff_6_0 (fun v100 f100 g100 => ?_)
        have f_8 := (w47.2 _ _ _ _ T38 rfl).symm.trans f100
        refine q_iconst (pc := 103) hG dX11_meet_103 ki_1 ?_
        refine q_isub (pc := 104) hG dX11_meet_104 (fun v104 e104 => ?_)
        refine q_icmp_lt (pc := 105) hG 111 dX11_meet_105 rfl ?_ ?_
        · intro c105
          have r_9 := q_zge g54 c91
          have r_10 := (q_subN (lo := 7) (hi := 63) e104 g100 rl_1 (by decide)).2
          refine q_aload_n (pc := 111) hG dX11_meet_111 1 rfl ?_
          refine q_getV (pc := 112) (v := .ref b38) hG fl_X11_41 dX11_meet_112 tA0 (w47.same tA0 rfl f38) ?_
          refine q_iconst (pc := 115) hG dX11_meet_115 ki_0 ?_
          refine q_iload (pc := 116) hG dX11_meet_116 0 rfl ?_
          have r_11 := q_rlt r_9 r_10 c105 62 (by decide)
          refine q_pV (pc := 118) [.int 0, .int v54] [] hG (c_X7_offsetBy τ s47 b38 0 v54 w47.1 T38 (q_r.mono rl_0 (by decide)) (q_r.mono r_11 (by decide))) my_X7_offsetBy mv_X7_offsetBy w633 dX11_meet_118 T38 (by decide) rfl rfl (Nat.le_of_ble_eq_true rfl) (by decide) (fun v118 p118 => ?_)
          refine q_aload_n (pc := 121) hG dX11_meet_121 1 rfl ?_
          refine q_getV (pc := 122) (v := .ref b38) hG fl_X11_41 dX11_meet_122 tA0 (w47.same tA0 rfl f38) ?_
          refine q_iconst (pc := 125) hG dX11_meet_125 ki_1 ?_
          refine q_iload (pc := 126) hG dX11_meet_126 0 rfl ?_
          refine q_iconst (pc := 128) hG dX11_meet_128 ki_1 ?_
          refine q_iadd (pc := 129) hG dX11_meet_129 (fun v129 e129 => ?_)
          have r_12 := (q_addN (lo := 1) (hi := 63) e129 r_11 rl_1 (by decide)).2
          refine q_pV (pc := 130) [.int 1, .int v129] [.int v118] hG (c_X7_offsetBy τ s47 b38 1 v129 w47.1 T38 (q_r.mono rl_1 (by decide)) (q_r.mono r_12 (by decide))) my_X7_offsetBy mv_X7_offsetBy w633 dX11_meet_130 T38 (by decide) rfl rfl (Nat.le_of_ble_eq_true rfl) (by decide) (fun v130 p130 => ?_)
          refine q_isub (pc := 133) hG dX11_meet_133 (fun v133 e133 => ?_)
          refine q_pS (pc := 134) [.int v133] [] hG (c_J9_abs_0f7a4 τ s47 v133 w47.1) my_J9_abs_0f7a4 w271 w600 dX11_meet_134 rfl rfl (Nat.le_of_ble_eq_true rfl) (by decide) (fun v134 p134 => ?_)
          have r_13 := (q_subN (lo := (-198)) (hi := 198) e133 p118.1 p130.1 (by decide)).2
          have r_14 := q_absN (lo := 0) (hi := 198) p134.2.2 r_13 (by decide)
          exact q_irt hG hE dX11_meet_137 ⟨w47, (q_r.mono r_14 (by decide))⟩
        intro c105
        have r_15 := q_zge g54 c91
        have r_16 := (q_subN (lo := 7) (hi := 63) e104 g100 rl_1 (by decide)).2
        refine q_bipush (pc := 108) hG dX11_meet_108 kb_m2 ?_
        exact q_irt hG hE dX11_meet_110 ⟨w47, (q_r.mono rl_m2 (by decide))⟩
      intro c73
      refine q_iload (pc := 76) hG dX11_meet_76 0 rfl ?_
      refine q_if_ge (pc := 78) hG 86 dX11_meet_78 rfl ?_ ?_
      · intro c78
        refine q_iload (pc := 86) hG dX11_meet_86 0 rfl ?_
        have r_17 := q_zge g54 c78
        exact q_irt hG hE dX11_meet_88 ⟨w47, (q_r.mono r_17 (by decide))⟩
      intro c78
      refine q_bipush (pc := 81) hG dX11_meet_81 kb_m2 ?_
      refine q_goto (pc := 83) 88 hG dX11_meet_83 rfl ?_
      exact q_irt hG hE dX11_meet_88 ⟨w47, (q_r.mono rl_m2 (by decide))⟩
    intro c61
    have r_18 := q_rle r_6 rl_2 g_5.2
    refine q_aload_n (pc := 64) hG dX11_meet_64 1 rfl ?_
    refine q_getV (pc := 65) (v := .ref b34) hG fl_X11_58 dX11_meet_65 tA0 (w47.same tA0 rfl f34) ?_
    refine q_getI (pc := 68) hG fl_X11_275 dX11_meet_68 w47.1 T34 ff_5_4 (fun v68 f68 g68 => ?_)
    exact q_irt hG hE dX11_meet_71 ⟨w47, g68⟩
  intro c28
  refine q_iconst (pc := 31) hG dX11_meet_31 ki_m1 ?_
  exact q_irt hG hE dX11_meet_32 ⟨hS0, (q_r.mono rl_m1 (by decide))⟩
theorem dX11_pinned_0 : decode cX11_pinned 0 = .ok (.iload_n 1, 1) := by decide +kernel
theorem dX11_pinned_1 : decode cX11_pinned 1 = .ok (.iconst 0, 1) := by decide +kernel
theorem dX11_pinned_2 : decode cX11_pinned 2 = .ok (.bipush 99, 2) := by decide +kernel
theorem dX11_pinned_4 : decode cX11_pinned 4 = .ok (.invokestatic 90, 3) := by decide +kernel
theorem dX11_pinned_7 : decode cX11_pinned 7 = .ok (.ifCond .ne 5, 3) := by decide +kernel
theorem dX11_pinned_10 : decode cX11_pinned 10 = .ok (.iconst (-1), 1) := by decide +kernel
theorem dX11_pinned_11 : decode cX11_pinned 11 = .ok (.ireturn, 1) := by decide +kernel
theorem dX11_pinned_12 : decode cX11_pinned 12 = .ok (.aload_n 0, 1) := by decide +kernel
theorem dX11_pinned_13 : decode cX11_pinned 13 = .ok (.getfield 65, 3) := by decide +kernel
theorem dX11_pinned_16 : decode cX11_pinned 16 = .ok (.aload_n 0, 1) := by decide +kernel
theorem dX11_pinned_17 : decode cX11_pinned 17 = .ok (.getfield 41, 3) := by decide +kernel
theorem dX11_pinned_20 : decode cX11_pinned 20 = .ok (.iload_n 1, 1) := by decide +kernel
theorem dX11_pinned_21 : decode cX11_pinned 21 = .ok (.invokevirtual 281, 3) := by decide +kernel
theorem dX11_pinned_24 : decode cX11_pinned 24 = .ok (.istore_n 3, 1) := by decide +kernel
theorem dX11_pinned_25 : decode cX11_pinned 25 = .ok (.iload_n 2, 1) := by decide +kernel
theorem dX11_pinned_26 : decode cX11_pinned 26 = .ok (.bipush 100, 2) := by decide +kernel
theorem dX11_pinned_28 : decode cX11_pinned 28 = .ok (.if_icmp .ne 5, 3) := by decide +kernel
theorem dX11_pinned_31 : decode cX11_pinned 31 = .ok (.iload_n 3, 1) := by decide +kernel
theorem dX11_pinned_32 : decode cX11_pinned 32 = .ok (.ireturn, 1) := by decide +kernel
theorem dX11_pinned_33 : decode cX11_pinned 33 = .ok (.iload_n 2, 1) := by decide +kernel
theorem dX11_pinned_34 : decode cX11_pinned 34 = .ok (.bipush 101, 2) := by decide +kernel
theorem dX11_pinned_36 : decode cX11_pinned 36 = .ok (.if_icmp .ne 16, 3) := by decide +kernel
theorem dX11_pinned_39 : decode cX11_pinned 39 = .ok (.aload_n 0, 1) := by decide +kernel
theorem dX11_pinned_40 : decode cX11_pinned 40 = .ok (.getfield 65, 3) := by decide +kernel
theorem dX11_pinned_43 : decode cX11_pinned 43 = .ok (.aload_n 0, 1) := by decide +kernel
theorem dX11_pinned_44 : decode cX11_pinned 44 = .ok (.getfield 41, 3) := by decide +kernel
theorem dX11_pinned_47 : decode cX11_pinned 47 = .ok (.iload_n 3, 1) := by decide +kernel
theorem dX11_pinned_48 : decode cX11_pinned 48 = .ok (.invokevirtual 284, 3) := by decide +kernel
theorem dX11_pinned_51 : decode cX11_pinned 51 = .ok (.ireturn, 1) := by decide +kernel
theorem dX11_pinned_52 : decode cX11_pinned 52 = .ok (.iload_n 2, 1) := by decide +kernel
theorem dX11_pinned_53 : decode cX11_pinned 53 = .ok (.iconst 0, 1) := by decide +kernel
theorem dX11_pinned_54 : decode cX11_pinned 54 = .ok (.iload_n 3, 1) := by decide +kernel
theorem dX11_pinned_55 : decode cX11_pinned 55 = .ok (.iconst 1, 1) := by decide +kernel
theorem dX11_pinned_56 : decode cX11_pinned 56 = .ok (.isub, 1) := by decide +kernel
theorem dX11_pinned_57 : decode cX11_pinned 57 = .ok (.invokestatic 90, 3) := by decide +kernel
theorem dX11_pinned_60 : decode cX11_pinned 60 = .ok (.ifCond .eq 15, 3) := by decide +kernel
theorem dX11_pinned_63 : decode cX11_pinned 63 = .ok (.aload_n 0, 1) := by decide +kernel
theorem dX11_pinned_64 : decode cX11_pinned 64 = .ok (.getfield 65, 3) := by decide +kernel
theorem dX11_pinned_67 : decode cX11_pinned 67 = .ok (.getfield 219, 3) := by decide +kernel
theorem dX11_pinned_70 : decode cX11_pinned 70 = .ok (.iload_n 2, 1) := by decide +kernel
theorem dX11_pinned_71 : decode cX11_pinned 71 = .ok (.iaload, 1) := by decide +kernel
theorem dX11_pinned_72 : decode cX11_pinned 72 = .ok (.goto 5, 3) := by decide +kernel
theorem dX11_pinned_75 : decode cX11_pinned 75 = .ok (.bipush (-2), 2) := by decide +kernel
theorem dX11_pinned_77 : decode cX11_pinned 77 = .ok (.ireturn, 1) := by decide +kernel
def md_X11_pinned : List (Nat × Nat) := [(135, 0), (136, 0)]
set_option maxRecDepth 100000 in
set_option maxHeartbeats 4000000 in
theorem c_X11_pinned {l : Launch} {D : q_D} (τ : q_T) (σ : q_V) (a0 : Nat) (x1 : Int32) (x2 : Int32) (hI : q_I τ σ) (tA0 : τ a0 = some (9, 1)) : q_Ci l D yX11_pinned cX11_pinned 4 (some .int) 4 94 τ σ [.ref a0, .int x1, .int x2] (fun r σ1 => q_S md_X11_pinned τ σ σ1 ∧ (q_r r (-2147483648) 2147483647)) := by
  refine q_meti rfl (Nat.le_of_ble_eq_true rfl) (fun X hG hE => ?_)
  show q_O X 0 0 τ σ 0 [(0, .ref a0), (1, .int x1), (2, .int x2)] []
  have hS0 : q_S md_X11_pinned τ σ σ := q_S.rf hI
  refine q_iload_n (pc := 0) hG dX11_pinned_0 1 rfl ?_
  refine q_iconst (pc := 1) hG dX11_pinned_1 ki_0 ?_
  refine q_bipush (pc := 2) hG dX11_pinned_2 kb_99 ?_
  refine q_pS (pc := 4) [.int x1, .int 0, .int 99] [] hG (c_X11_isIn τ σ x1 0 99 hI) my_X11_isIn w238 w237 dX11_pinned_4 rfl rfl (Nat.le_of_ble_eq_true rfl) (by decide) (fun v4 p4 => ?_)
  refine q_if_ne (pc := 7) hG 12 dX11_pinned_7 rfl ?_ ?_
  · intro c7
    have g_1 := p4.2.2.mp (q_one p4.1 c7)
    have r_2 := q_rge (q_r_any x1) rl_0 g_1.1
    refine q_aload_n (pc := 12) hG dX11_pinned_12 0 rfl ?_
    refine q_getR (pc := 13) (k2 := 1) (n2 := 1) hG fl_X11_65 dX11_pinned_13 hI tA0 ff_9_10 (fun b13 f13 T13 => ?_)
    refine q_aload_n (pc := 16) hG dX11_pinned_16 0 rfl ?_
    refine q_getR (pc := 17) (k2 := 6) (n2 := 1) hG fl_X11_41 dX11_pinned_17 hI tA0 ff_9_5 (fun b17 f17 T17 => ?_)
    refine q_iload_n (pc := 20) hG dX11_pinned_20 1 rfl ?_
    refine q_cVi (pc := 21) [.ref b17, .int x1] [] hG (c_X1_pin τ σ b13 b17 x1 hI T13 T17) my_X1_pin mv_X1_pin w638 dX11_pinned_21 T13 (by decide) rfl rfl (Nat.le_of_ble_eq_true rfl) (by decide) (fun v21 s21 p21 => ?_)
    have w21 := hS0.trans p21.1 rfl
    refine q_istore_n (pc := 24) [(3, .int v21), (0, .ref a0), (1, .int x1), (2, .int x2)] hG dX11_pinned_24 (by decide) rfl ?_
    refine q_iload_n (pc := 25) hG dX11_pinned_25 3 rfl ?_
    refine q_bipush (pc := 26) hG dX11_pinned_26 kb_100 ?_
    refine q_icmp_ne (pc := 28) hG 33 dX11_pinned_28 rfl ?_ ?_
    · intro c28
      refine q_iload_n (pc := 33) hG dX11_pinned_33 3 rfl ?_
      refine q_bipush (pc := 34) hG dX11_pinned_34 kb_101 ?_
      refine q_icmp_ne (pc := 36) hG 52 dX11_pinned_36 rfl ?_ ?_
      · intro c36
        refine q_iload_n (pc := 52) hG dX11_pinned_52 3 rfl ?_
        refine q_iconst (pc := 53) hG dX11_pinned_53 ki_0 ?_
        refine q_iload_n (pc := 54) hG dX11_pinned_54 0 rfl ?_
        refine q_iconst (pc := 55) hG dX11_pinned_55 ki_1 ?_
        refine q_isub (pc := 56) hG dX11_pinned_56 (fun v56 e56 => ?_)
        refine q_pS (pc := 57) [.int x2, .int 0, .int v56] [] hG (c_X11_isIn τ s21 x2 0 v56 w21.1) my_X11_isIn w238 w237 dX11_pinned_57 rfl rfl (Nat.le_of_ble_eq_true rfl) (by decide) (fun v57 p57 => ?_)
        refine q_if_eq (pc := 60) hG 75 dX11_pinned_60 rfl ?_ ?_
        · intro c60
          refine q_bipush (pc := 75) hG dX11_pinned_75 kb_m2 ?_
          exact q_irt hG hE dX11_pinned_77 ⟨w21, (q_r.mono rl_m2 (by decide))⟩
        intro c60
        have g_3 := p57.2.2.mp (q_one p57.1 c60)
        have r_4 := q_rge (q_r_any x2) rl_0 g_3.1
        have r_5 := (q_subN (lo := 0) (hi := 63) e56 p21.2.1 rl_1 (by decide)).2
        refine q_aload_n (pc := 63) hG dX11_pinned_63 1 rfl ?_
        refine q_getV (pc := 64) (v := .ref b13) hG fl_X11_65 dX11_pinned_64 tA0 (w21.same tA0 rfl f13) ?_
        refine q_getR (pc := 67) (k2 := 136) (n2 := 64) hG fl_X11_219 dX11_pinned_67 w21.1 T13 ff_1_4 (fun b67 f67 T67 => ?_)
        have f_6 := (w21.2 _ _ _ _ T13 rfl).symm.trans f67
        refine q_iload_n (pc := 70) hG dX11_pinned_70 3 rfl ?_
        have r_7 := q_rle r_4 r_5 g_3.2
        refine q_iald (pc := 71) hG dX11_pinned_71 w21.1 ai_136 T67 (q_ix r_7 (by decide)) (fun v71 f71 g71 => ?_)
        refine q_goto (pc := 72) 77 hG dX11_pinned_72 rfl ?_
        exact q_irt hG hE dX11_pinned_77 ⟨w21, g71⟩
      intro c36
      refine q_aload_n (pc := 39) hG dX11_pinned_39 1 rfl ?_
      refine q_getV (pc := 40) (v := .ref b13) hG fl_X11_65 dX11_pinned_40 tA0 (w21.same tA0 rfl f13) ?_
      refine q_aload_n (pc := 43) hG dX11_pinned_43 1 rfl ?_
      refine q_getV (pc := 44) (v := .ref b17) hG fl_X11_41 dX11_pinned_44 tA0 (w21.same tA0 rfl f17) ?_
      refine q_iload_n (pc := 47) hG dX11_pinned_47 0 rfl ?_
      obtain ⟨bc, hbc, Tc⟩ := (hI b13 1 1 T13 4 (by decide)).ref (k := 136) (n := 64) rfl
      refine q_pV (pc := 48) [.ref b17, .int v21] [] hG (c_X1_offByPins τ s21 b13 b17 v21 w21.1 T13 T17 p21.2.1 bc (w21.same T13 rfl hbc) Tc (p21.2.2 bc hbc)) my_X1_offByPins mv_X1_offByPins w643 dX11_pinned_48 T13 (by decide) rfl rfl (Nat.le_of_ble_eq_true rfl) (by decide) (fun v48 p48 => ?_)
      exact q_irt hG hE dX11_pinned_51 ⟨w21, p48⟩
    intro c28
    refine q_iload_n (pc := 31) hG dX11_pinned_31 0 rfl ?_
    exact q_irt hG hE dX11_pinned_32 ⟨w21, (q_r.mono p21.2.1 (by decide))⟩
  intro c7
  refine q_iconst (pc := 10) hG dX11_pinned_10 ki_m1 ?_
  exact q_irt hG hE dX11_pinned_11 ⟨hS0, (q_r.mono rl_m1 (by decide))⟩
theorem dX11_lights_0 : decode cX11_lights 0 = .ok (.iload_n 3, 1) := by decide +kernel
theorem dX11_lights_1 : decode cX11_lights 1 = .ok (.bipush 11, 2) := by decide +kernel
theorem dX11_lights_3 : decode cX11_lights 3 = .ok (.bipush 30, 2) := by decide +kernel
theorem dX11_lights_5 : decode cX11_lights 5 = .ok (.invokestatic 90, 3) := by decide +kernel
theorem dX11_lights_8 : decode cX11_lights 8 = .ok (.istore 4, 2) := by decide +kernel
theorem dX11_lights_10 : decode cX11_lights 10 = .ok (.iload_n 1, 1) := by decide +kernel
theorem dX11_lights_11 : decode cX11_lights 11 = .ok (.iconst 1, 1) := by decide +kernel
theorem dX11_lights_12 : decode cX11_lights 12 = .ok (.bipush 20, 2) := by decide +kernel
theorem dX11_lights_14 : decode cX11_lights 14 = .ok (.invokestatic 90, 3) := by decide +kernel
theorem dX11_lights_17 : decode cX11_lights 17 = .ok (.ifCond .eq 37, 3) := by decide +kernel
theorem dX11_lights_20 : decode cX11_lights 20 = .ok (.iload_n 2, 1) := by decide +kernel
theorem dX11_lights_21 : decode cX11_lights 21 = .ok (.iconst 0, 1) := by decide +kernel
theorem dX11_lights_22 : decode cX11_lights 22 = .ok (.bipush 9, 2) := by decide +kernel
theorem dX11_lights_24 : decode cX11_lights 24 = .ok (.invokestatic 90, 3) := by decide +kernel
theorem dX11_lights_27 : decode cX11_lights 27 = .ok (.ifCond .eq 27, 3) := by decide +kernel
theorem dX11_lights_30 : decode cX11_lights 30 = .ok (.iload 4, 2) := by decide +kernel
theorem dX11_lights_32 : decode cX11_lights 32 = .ok (.ifCond .ne 12, 3) := by decide +kernel
theorem dX11_lights_35 : decode cX11_lights 35 = .ok (.iload_n 3, 1) := by decide +kernel
theorem dX11_lights_36 : decode cX11_lights 36 = .ok (.iconst 0, 1) := by decide +kernel
theorem dX11_lights_37 : decode cX11_lights 37 = .ok (.iconst 1, 1) := by decide +kernel
theorem dX11_lights_38 : decode cX11_lights 38 = .ok (.invokestatic 90, 3) := by decide +kernel
theorem dX11_lights_41 : decode cX11_lights 41 = .ok (.ifCond .eq 13, 3) := by decide +kernel
theorem dX11_lights_44 : decode cX11_lights 44 = .ok (.iconst 2, 1) := by decide +kernel
theorem dX11_lights_45 : decode cX11_lights 45 = .ok (.iload_n 1, 1) := by decide +kernel
theorem dX11_lights_46 : decode cX11_lights 46 = .ok (.imul, 1) := by decide +kernel
theorem dX11_lights_47 : decode cX11_lights 47 = .ok (.aload_n 0, 1) := by decide +kernel
theorem dX11_lights_48 : decode cX11_lights 48 = .ok (.getfield 13, 3) := by decide +kernel
theorem dX11_lights_51 : decode cX11_lights 51 = .ok (.if_icmp .le 5, 3) := by decide +kernel
theorem dX11_lights_54 : decode cX11_lights 54 = .ok (.iconst (-1), 1) := by decide +kernel
theorem dX11_lights_55 : decode cX11_lights 55 = .ok (.ireturn, 1) := by decide +kernel
theorem dX11_lights_56 : decode cX11_lights 56 = .ok (.aload_n 0, 1) := by decide +kernel
theorem dX11_lights_57 : decode cX11_lights 57 = .ok (.getfield 86, 3) := by decide +kernel
theorem dX11_lights_60 : decode cX11_lights 60 = .ok (.aload_n 0, 1) := by decide +kernel
theorem dX11_lights_61 : decode cX11_lights 61 = .ok (.getfield 9, 3) := by decide +kernel
theorem dX11_lights_64 : decode cX11_lights 64 = .ok (.iload_n 1, 1) := by decide +kernel
theorem dX11_lights_65 : decode cX11_lights 65 = .ok (.invokevirtual 287, 3) := by decide +kernel
theorem dX11_lights_68 : decode cX11_lights 68 = .ok (.istore 5, 2) := by decide +kernel
theorem dX11_lights_70 : decode cX11_lights 70 = .ok (.aload_n 0, 1) := by decide +kernel
theorem dX11_lights_71 : decode cX11_lights 71 = .ok (.iconst 0, 1) := by decide +kernel
theorem dX11_lights_72 : decode cX11_lights 72 = .ok (.putfield 13, 3) := by decide +kernel
theorem dX11_lights_75 : decode cX11_lights 75 = .ok (.iload 5, 2) := by decide +kernel
theorem dX11_lights_77 : decode cX11_lights 77 = .ok (.ifCond .ne 6, 3) := by decide +kernel
theorem dX11_lights_80 : decode cX11_lights 80 = .ok (.bipush (-2), 2) := by decide +kernel
theorem dX11_lights_82 : decode cX11_lights 82 = .ok (.ireturn, 1) := by decide +kernel
theorem dX11_lights_83 : decode cX11_lights 83 = .ok (.iload 4, 2) := by decide +kernel
theorem dX11_lights_85 : decode cX11_lights 85 = .ok (.ifCond .eq 16, 3) := by decide +kernel
theorem dX11_lights_88 : decode cX11_lights 88 = .ok (.aload_n 0, 1) := by decide +kernel
theorem dX11_lights_89 : decode cX11_lights 89 = .ok (.getfield 86, 3) := by decide +kernel
theorem dX11_lights_92 : decode cX11_lights 92 = .ok (.iload_n 3, 1) := by decide +kernel
theorem dX11_lights_93 : decode cX11_lights 93 = .ok (.bipush 10, 2) := by decide +kernel
theorem dX11_lights_95 : decode cX11_lights 95 = .ok (.isub, 1) := by decide +kernel
theorem dX11_lights_96 : decode cX11_lights 96 = .ok (.iload_n 2, 1) := by decide +kernel
theorem dX11_lights_97 : decode cX11_lights 97 = .ok (.invokevirtual 291, 3) := by decide +kernel
theorem dX11_lights_100 : decode cX11_lights 100 = .ok (.ireturn, 1) := by decide +kernel
theorem dX11_lights_101 : decode cX11_lights 101 = .ok (.aload_n 0, 1) := by decide +kernel
theorem dX11_lights_102 : decode cX11_lights 102 = .ok (.getfield 86, 3) := by decide +kernel
theorem dX11_lights_105 : decode cX11_lights 105 = .ok (.iload_n 2, 1) := by decide +kernel
theorem dX11_lights_106 : decode cX11_lights 106 = .ok (.invokevirtual 294, 3) := by decide +kernel
theorem dX11_lights_109 : decode cX11_lights 109 = .ok (.istore 6, 2) := by decide +kernel
theorem dX11_lights_111 : decode cX11_lights 111 = .ok (.iload_n 3, 1) := by decide +kernel
theorem dX11_lights_112 : decode cX11_lights 112 = .ok (.ifCond .ne 16, 3) := by decide +kernel
theorem dX11_lights_115 : decode cX11_lights 115 = .ok (.aload_n 0, 1) := by decide +kernel
theorem dX11_lights_116 : decode cX11_lights 116 = .ok (.getfield 86, 3) := by decide +kernel
theorem dX11_lights_119 : decode cX11_lights 119 = .ok (.iload 6, 2) := by decide +kernel
theorem dX11_lights_121 : decode cX11_lights 121 = .ok (.iload_n 2, 1) := by decide +kernel
theorem dX11_lights_122 : decode cX11_lights 122 = .ok (.invokevirtual 291, 3) := by decide +kernel
theorem dX11_lights_125 : decode cX11_lights 125 = .ok (.goto 5, 3) := by decide +kernel
theorem dX11_lights_128 : decode cX11_lights 128 = .ok (.iload 6, 2) := by decide +kernel
theorem dX11_lights_130 : decode cX11_lights 130 = .ok (.ireturn, 1) := by decide +kernel
def md_X11_lights : List (Nat × Nat) := [(2, 0), (9, 1), (137, 0), (138, 0), (139, 0)]
set_option maxRecDepth 100000 in
set_option maxHeartbeats 4000000 in
theorem c_X11_lights {l : Launch} {D : q_D} (τ : q_T) (σ : q_V) (a0 : Nat) (x1 : Int32) (x2 : Int32) (x3 : Int32) (hI : q_I τ σ) (tA0 : τ a0 = some (9, 1)) : q_Ci l D yX11_lights cX11_lights 7 (some .int) 4 99 τ σ [.ref a0, .int x1, .int x2, .int x3] (fun r σ1 => q_S md_X11_lights τ σ σ1 ∧ (q_r r (-2147483648) 2147483647) ∧ (∀ t : Int32, σ a0 1 = .int t → ∃ z : Int32, σ1 a0 1 = .int z ∧ (((1 ≤ x1.toInt ∧ x1.toInt ≤ 20) ∧ (0 ≤ x2.toInt ∧ x2.toInt ≤ 9) ∧ ((0 ≤ x3.toInt ∧ x3.toInt ≤ 1) ∨ (11 ≤ x3.toInt ∧ x3.toInt ≤ 30)) ∧ 2 * x1.toInt ≤ t.toInt) → z.toInt = 0) ∧ (¬ ((1 ≤ x1.toInt ∧ x1.toInt ≤ 20) ∧ (0 ≤ x2.toInt ∧ x2.toInt ≤ 9) ∧ ((0 ≤ x3.toInt ∧ x3.toInt ≤ 1) ∨ (11 ≤ x3.toInt ∧ x3.toInt ≤ 30)) ∧ 2 * x1.toInt ≤ t.toInt) → z.toInt = t.toInt))) := by
  refine q_meti rfl (Nat.le_of_ble_eq_true rfl) (fun X hG hE => ?_)
  show q_O X 0 0 τ σ 0 [(0, .ref a0), (1, .int x1), (2, .int x2), (3, .int x3)] []
  have hS0 : q_S md_X11_lights τ σ σ := q_S.rf hI
  obtain ⟨q_1v, q_1f, q_1r⟩ := (hI a0 9 1 tA0 1 (by decide)).int ff_9_1
  refine q_iload_n (pc := 0) hG dX11_lights_0 3 rfl ?_
  refine q_bipush (pc := 1) hG dX11_lights_1 kb_11 ?_
  refine q_bipush (pc := 3) hG dX11_lights_3 kb_30 ?_
  refine q_pS (pc := 5) [.int x3, .int 11, .int 30] [] hG (c_X11_isIn τ σ x3 11 30 hI) my_X11_isIn w238 w237 dX11_lights_5 rfl rfl (Nat.le_of_ble_eq_true rfl) (by decide) (fun v5 p5 => ?_)
  refine q_istore (pc := 8) [(4, .int v5), (0, .ref a0), (1, .int x1), (2, .int x2), (3, .int x3)] hG dX11_lights_8 (by decide) rfl ?_
  refine q_iload_n (pc := 10) hG dX11_lights_10 2 rfl ?_
  refine q_iconst (pc := 11) hG dX11_lights_11 ki_1 ?_
  refine q_bipush (pc := 12) hG dX11_lights_12 kb_20 ?_
  refine q_pS (pc := 14) [.int x1, .int 1, .int 20] [] hG (c_X11_isIn τ σ x1 1 20 hI) my_X11_isIn w238 w237 dX11_lights_14 rfl rfl (Nat.le_of_ble_eq_true rfl) (by decide) (fun v14 p14 => ?_)
  refine q_if_eq (pc := 17) hG 54 dX11_lights_17 rfl ?_ ?_
  · intro c17
    refine q_iconst (pc := 54) hG dX11_lights_54 ki_m1 ?_
    have r_2 := q_zeq c17
    exact q_irt hG hE dX11_lights_55 ⟨hS0, (q_r.mono rl_m1 (by decide)), (fun t e => by cases e.symm.trans q_1f; exact ⟨q_1v, q_1f, (by have o0 := p5.2.2; have o1 := p14.2.2; have o2 := c17; have o3 := q_1r; have o4 := r_2; have o5 := p5.1; have l6 := tl_m1; have l7 := tl_1; have l8 := tl_11; have l9 := tl_20; have l10 := tl_30; unfold q_r at o3 o4 o5; omega)⟩)⟩
  intro c17
  have g_3 := p14.2.2.mp (q_one p14.1 c17)
  have r_4 := q_rge (q_r_any x1) rl_1 g_3.1
  refine q_iload_n (pc := 20) hG dX11_lights_20 3 rfl ?_
  refine q_iconst (pc := 21) hG dX11_lights_21 ki_0 ?_
  refine q_bipush (pc := 22) hG dX11_lights_22 kb_9 ?_
  refine q_pS (pc := 24) [.int x2, .int 0, .int 9] [] hG (c_X11_isIn τ σ x2 0 9 hI) my_X11_isIn w238 w237 dX11_lights_24 rfl rfl (Nat.le_of_ble_eq_true rfl) (by decide) (fun v24 p24 => ?_)
  refine q_if_eq (pc := 27) hG 54 dX11_lights_27 rfl ?_ ?_
  · intro c27
    refine q_iconst (pc := 54) hG dX11_lights_54 ki_m1 ?_
    have r_5 := q_neL (c := 1) p14.1 c17 (by decide)
    have r_6 := q_zeq c27
    have r_7 := q_rle r_4 rl_20 g_3.2
    exact q_irt hG hE dX11_lights_55 ⟨hS0, (q_r.mono rl_m1 (by decide)), (fun t e => by cases e.symm.trans q_1f; exact ⟨q_1v, q_1f, (by have o0 := p5.2.2; have o1 := p14.2.2; have o2 := c17; have o3 := g_3.1; have o4 := g_3.2; have o5 := p24.2.2; have o6 := c27; have o7 := q_1r; have o8 := r_5; have o9 := r_6; have o10 := p5.1; have o11 := r_7; have l12 := tl_m1; have l13 := tl_0; have l14 := tl_1; have l15 := tl_9; have l16 := tl_11; have l17 := tl_20; have l18 := tl_30; unfold q_r at o7 o8 o9 o10 o11; omega)⟩)⟩
  intro c27
  have g_8 := p24.2.2.mp (q_one p24.1 c27)
  have r_9 := q_rge (q_r_any x2) rl_0 g_8.1
  refine q_iload (pc := 30) hG dX11_lights_30 0 rfl ?_
  have J44 : ((0 ≤ x3.toInt ∧ x3.toInt ≤ 1) ∨ (11 ≤ x3.toInt ∧ x3.toInt ≤ 30)) → q_O X 0 0 τ σ 44 [(0, .ref a0), (1, .int x1), (2, .int x2), (3, .int x3), (4, .int v5)] [] := by
    intro iL44
    refine q_iconst (pc := 44) hG dX11_lights_44 ki_2 ?_
    refine q_iload_n (pc := 45) hG dX11_lights_45 1 rfl ?_
    refine q_imul (pc := 46) hG dX11_lights_46 (fun v46 e46 => ?_)
    have r_10 := q_rle r_4 rl_20 g_3.2
    refine q_aload_n (pc := 47) hG dX11_lights_47 0 rfl ?_
    refine q_getV (pc := 48) (v := .int q_1v) hG fl_X11_13 dX11_lights_48 tA0 q_1f ?_
    refine q_icmp_le (pc := 51) hG 56 dX11_lights_51 rfl ?_ ?_
    · intro c51
      have r_11 := (q_mulN (lo := 2) (hi := 40) e46 rl_2 r_10 (by decide)).2
      refine q_aload_n (pc := 56) hG dX11_lights_56 0 rfl ?_
      refine q_getR (pc := 57) (k2 := 2) (n2 := 1) hG fl_X11_86 dX11_lights_57 hI tA0 ff_9_13 (fun b57 f57 T57 => ?_)
      refine q_aload_n (pc := 60) hG dX11_lights_60 0 rfl ?_
      refine q_getR (pc := 61) (k2 := 110) (n2 := 260) hG fl_X11_9 dX11_lights_61 hI tA0 ff_9_0 (fun b61 f61 T61 => ?_)
      refine q_iload_n (pc := 64) hG dX11_lights_64 1 rfl ?_
      refine q_cVi (pc := 65) [.ref b61, .int x1] [] hG (c_X2_take τ σ b57 b61 x1 hI T57 T61) my_X2_take mv_X2_take w651 dX11_lights_65 T57 (by decide) rfl rfl (Nat.le_of_ble_eq_true rfl) (by decide) (fun v65 s65 p65 => ?_)
      have w65 := hS0.trans p65.1 rfl
      refine q_istore (pc := 68) [(5, .int v65), (0, .ref a0), (1, .int x1), (2, .int x2), (3, .int x3), (4, .int v5)] hG dX11_lights_68 (by decide) rfl ?_
      refine q_aload_n (pc := 70) hG dX11_lights_70 1 rfl ?_
      refine q_iconst (pc := 71) hG dX11_lights_71 ki_0 ?_
      refine q_putI (pc := 72) hG fl_X11_13 dX11_lights_72 w65 tA0 ff_9_1 rl_0 (by decide) rfl (fun s72 u72 w72 => ?_)
      have m72 : s72 a0 1 = .int 0 := by rw [u72]; exact q_up_same
      refine q_iload (pc := 75) hG dX11_lights_75 0 rfl ?_
      refine q_if_ne (pc := 77) hG 83 dX11_lights_77 rfl ?_ ?_
      · intro c77
        refine q_iload (pc := 83) hG dX11_lights_83 5 rfl ?_
        refine q_if_eq (pc := 85) hG 101 dX11_lights_85 rfl ?_ ?_
        · intro c85
          refine q_aload_n (pc := 101) hG dX11_lights_101 1 rfl ?_
          refine q_getV (pc := 102) (v := .ref b57) hG fl_X11_86 dX11_lights_102 tA0 (w72.same tA0 rfl f57) ?_
          refine q_iload_n (pc := 105) hG dX11_lights_105 3 rfl ?_
          have r_12 := q_rle r_9 rl_9 g_8.2
          refine q_cVi (pc := 106) [.int x2] [] hG (c_X2_bestGreen τ s72 b57 x2 w72.1 T57 r_12) my_X2_bestGreen mv_X2_bestGreen w666 dX11_lights_106 T57 (by decide) rfl rfl (Nat.le_of_ble_eq_true rfl) (by decide) (fun v106 s106 p106 => ?_)
          have w106 := w72.trans p106.1 rfl
          refine q_istore (pc := 109) [(6, .int v106), (5, .int v65), (0, .ref a0), (1, .int x1), (2, .int x2), (3, .int x3), (4, .int v5)] hG dX11_lights_109 (by decide) rfl ?_
          refine q_iload_n (pc := 111) hG dX11_lights_111 5 rfl ?_
          refine q_if_ne (pc := 112) hG 128 dX11_lights_112 rfl ?_ ?_
          · intro c112
            refine q_iload (pc := 128) hG dX11_lights_128 0 rfl ?_
            have r_13 := q_rge q_1r r_11 c51
            have r_14 := q_neL (c := 1) p14.1 c17 (by decide)
            have r_15 := q_neL (c := 1) p24.1 c27 (by decide)
            have r_16 := q_zeq c85
            exact q_irt hG hE dX11_lights_130 ⟨w106, (q_r.mono p106.2 (by decide)), (fun t e => by cases e.symm.trans q_1f; exact ⟨0, (p106.1.same tA0 rfl m72), (by have o0 := p5.2.2; have o1 := p14.2.2; have o2 := c17; have o3 := g_3.1; have o4 := g_3.2; have o5 := p24.2.2; have o6 := c27; have o7 := g_8.1; have o8 := g_8.2; have o9 := iL44; have o10 := (by have q := (q_mulN (lo := 2) (hi := 40) e46 rl_2 r_10 (by decide)).1; rw [tl_2] at q; exact q); have o11 := c51; have o12 := c85; have o13 := c112; have o14 := r_13; have o15 := p106.2; have o16 := r_14; have o17 := r_15; have o18 := r_11; have o19 := r_16; have o20 := r_10; have o21 := r_12; have l22 := tl_0; have l23 := tl_1; have l24 := tl_9; have l25 := tl_11; have l26 := tl_20; have l27 := tl_30; unfold q_r at o14 o15 o16 o17 o18 o19 o20 o21; omega)⟩)⟩
          intro c112
          refine q_aload_n (pc := 115) hG dX11_lights_115 2 rfl ?_
          refine q_getV (pc := 116) (v := .ref b57) hG fl_X11_86 dX11_lights_116 tA0 (w106.same tA0 rfl f57) ?_
          refine q_iload (pc := 119) hG dX11_lights_119 0 rfl ?_
          refine q_iload_n (pc := 121) hG dX11_lights_121 4 rfl ?_
          refine q_cVi (pc := 122) [.int v106, .int x2] [] hG (c_X2_waits τ s106 b57 v106 x2 w106.1 T57 p106.2 r_12) my_X2_waits mv_X2_waits w655 dX11_lights_122 T57 (by decide) rfl rfl (Nat.le_of_ble_eq_true rfl) (by decide) (fun v122 s122 p122 => ?_)
          have w122 := w106.trans p122.1 rfl
          refine q_goto (pc := 125) 130 hG dX11_lights_125 rfl ?_
          have r_17 := q_rge q_1r r_11 c51
          have r_18 := q_neL (c := 1) p14.1 c17 (by decide)
          have r_19 := q_neL (c := 1) p24.1 c27 (by decide)
          have r_20 := q_zeq c85
          have r_21 := q_zeq c112
          exact q_irt hG hE dX11_lights_130 ⟨w122, p122.2, (fun t e => by cases e.symm.trans q_1f; exact ⟨0, (p122.1.same tA0 rfl (p106.1.same tA0 rfl m72)), (by have o0 := p5.2.2; have o1 := p14.2.2; have o2 := c17; have o3 := g_3.1; have o4 := g_3.2; have o5 := p24.2.2; have o6 := c27; have o7 := g_8.1; have o8 := g_8.2; have o9 := iL44; have o10 := (by have q := (q_mulN (lo := 2) (hi := 40) e46 rl_2 r_10 (by decide)).1; rw [tl_2] at q; exact q); have o11 := c51; have o12 := c85; have o13 := c112; have o14 := r_17; have o15 := p122.2; have o16 := r_18; have o17 := r_19; have o18 := r_11; have o19 := r_20; have o20 := r_10; have o21 := r_12; have o22 := r_21; have l23 := tl_0; have l24 := tl_1; have l25 := tl_9; have l26 := tl_11; have l27 := tl_20; have l28 := tl_30; unfold q_r at o14 o15 o16 o17 o18 o19 o20 o21 o22; omega)⟩)⟩
        intro c85
        have g_22 := p5.2.2.mp (q_one p5.1 c85)
        have r_23 := q_rge (q_r_any x3) rl_11 g_22.1
        refine q_aload_n (pc := 88) hG dX11_lights_88 1 rfl ?_
        refine q_getV (pc := 89) (v := .ref b57) hG fl_X11_86 dX11_lights_89 tA0 (w72.same tA0 rfl f57) ?_
        refine q_iload_n (pc := 92) hG dX11_lights_92 4 rfl ?_
        refine q_bipush (pc := 93) hG dX11_lights_93 kb_10 ?_
        refine q_isub (pc := 95) hG dX11_lights_95 (fun v95 e95 => ?_)
        have r_24 := q_rle r_23 rl_30 g_22.2
        refine q_iload_n (pc := 96) hG dX11_lights_96 3 rfl ?_
        have r_25 := (q_subN (lo := 1) (hi := 20) e95 r_24 rl_10 (by decide)).2
        have r_26 := q_rle r_9 rl_9 g_8.2
        refine q_cVi (pc := 97) [.int v95, .int x2] [] hG (c_X2_waits τ s72 b57 v95 x2 w72.1 T57 r_25 r_26) my_X2_waits mv_X2_waits w655 dX11_lights_97 T57 (by decide) rfl rfl (Nat.le_of_ble_eq_true rfl) (by decide) (fun v97 s97 p97 => ?_)
        have w97 := w72.trans p97.1 rfl
        have r_27 := q_rge q_1r r_11 c51
        have r_28 := q_neL (c := 1) p14.1 c17 (by decide)
        have r_29 := q_neL (c := 1) p24.1 c27 (by decide)
        have r_30 := q_neL (c := 1) p5.1 c85 (by decide)
        exact q_irt hG hE dX11_lights_100 ⟨w97, p97.2, (fun t e => by cases e.symm.trans q_1f; exact ⟨0, (p97.1.same tA0 rfl m72), (by have o0 := p5.2.2; have o1 := p14.2.2; have o2 := c17; have o3 := g_3.1; have o4 := g_3.2; have o5 := p24.2.2; have o6 := c27; have o7 := g_8.1; have o8 := g_8.2; have o9 := iL44; have o10 := (by have q := (q_mulN (lo := 2) (hi := 40) e46 rl_2 r_10 (by decide)).1; rw [tl_2] at q; exact q); have o11 := c51; have o12 := c85; have o13 := g_22.1; have o14 := g_22.2; have o15 := (q_subN (lo := 1) (hi := 20) e95 r_24 rl_10 (by decide)).1; have o16 := r_27; have o17 := r_28; have o18 := r_29; have o19 := r_11; have o20 := r_30; have o21 := r_25; have o22 := p97.2; have o23 := r_10; have o24 := r_26; have o25 := r_24; have l26 := tl_0; have l27 := tl_1; have l28 := tl_9; have l29 := tl_10; have l30 := tl_11; have l31 := tl_20; have l32 := tl_30; unfold q_r at o16 o17 o18 o19 o20 o21 o22 o23 o24 o25; omega)⟩)⟩
      intro c77
      refine q_bipush (pc := 80) hG dX11_lights_80 kb_m2 ?_
      have r_31 := q_rge q_1r r_11 c51
      have r_32 := q_neL (c := 1) p14.1 c17 (by decide)
      have r_33 := q_neL (c := 1) p24.1 c27 (by decide)
      have r_34 := q_rle r_9 rl_9 g_8.2
      exact q_irt hG hE dX11_lights_82 ⟨w72, (q_r.mono rl_m2 (by decide)), (fun t e => by cases e.symm.trans q_1f; exact ⟨0, m72, (by have o0 := p5.2.2; have o1 := p14.2.2; have o2 := c17; have o3 := g_3.1; have o4 := g_3.2; have o5 := p24.2.2; have o6 := c27; have o7 := g_8.1; have o8 := g_8.2; have o9 := iL44; have o10 := (by have q := (q_mulN (lo := 2) (hi := 40) e46 rl_2 r_10 (by decide)).1; rw [tl_2] at q; exact q); have o11 := c51; have o12 := r_31; have o13 := r_32; have o14 := r_33; have o15 := r_11; have o16 := p5.1; have o17 := r_10; have o18 := r_34; have l19 := tl_m2; have l20 := tl_0; have l21 := tl_1; have l22 := tl_9; have l23 := tl_11; have l24 := tl_20; have l25 := tl_30; unfold q_r at o12 o13 o14 o15 o16 o17 o18; omega)⟩)⟩
    intro c51
    have r_35 := (q_mulN (lo := 2) (hi := 40) e46 rl_2 r_10 (by decide)).2
    refine q_iconst (pc := 54) hG dX11_lights_54 ki_m1 ?_
    have r_36 := q_rlt q_1r r_35 c51 39 (by decide)
    have r_37 := q_neL (c := 1) p14.1 c17 (by decide)
    have r_38 := q_neL (c := 1) p24.1 c27 (by decide)
    have r_39 := q_rle r_9 rl_9 g_8.2
    exact q_irt hG hE dX11_lights_55 ⟨hS0, (q_r.mono rl_m1 (by decide)), (fun t e => by cases e.symm.trans q_1f; exact ⟨q_1v, q_1f, (by have o0 := p5.2.2; have o1 := p14.2.2; have o2 := c17; have o3 := g_3.1; have o4 := g_3.2; have o5 := p24.2.2; have o6 := c27; have o7 := g_8.1; have o8 := g_8.2; have o9 := iL44; have o10 := (by have q := (q_mulN (lo := 2) (hi := 40) e46 rl_2 r_10 (by decide)).1; rw [tl_2] at q; exact q); have o11 := c51; have o12 := r_36; have o13 := r_37; have o14 := r_38; have o15 := r_35; have o16 := p5.1; have o17 := r_10; have o18 := r_39; have l19 := tl_m1; have l20 := tl_0; have l21 := tl_1; have l22 := tl_9; have l23 := tl_11; have l24 := tl_20; have l25 := tl_30; unfold q_r at o12 o13 o14 o15 o16 o17 o18; omega)⟩)⟩
  refine q_if_ne (pc := 32) hG 44 dX11_lights_32 rfl ?_ ?_
  · intro c32
    have g_40 := p5.2.2.mp (q_one p5.1 c32)
    have r_41 := q_rge (q_r_any x3) rl_11 g_40.1
    refine q_lv [1, 2, 3, 4, 0] rfl ?_
    have r_42 := q_neL (c := 1) p5.1 c32 (by decide)
    have r_43 := q_rle r_41 rl_30 g_40.2
    exact J44 (by have o0 := p5.2.2; have o1 := c32; have o2 := g_40.1; have o3 := g_40.2; have o4 := r_42; have o5 := r_43; have l6 := tl_11; have l7 := tl_30; unfold q_r at o4 o5; omega)
  intro c32
  refine q_iload_n (pc := 35) hG dX11_lights_35 4 rfl ?_
  refine q_iconst (pc := 36) hG dX11_lights_36 ki_0 ?_
  refine q_iconst (pc := 37) hG dX11_lights_37 ki_1 ?_
  refine q_pS (pc := 38) [.int x3, .int 0, .int 1] [] hG (c_X11_isIn τ σ x3 0 1 hI) my_X11_isIn w238 w237 dX11_lights_38 rfl rfl (Nat.le_of_ble_eq_true rfl) (by decide) (fun v38 p38 => ?_)
  refine q_if_eq (pc := 41) hG 54 dX11_lights_41 rfl ?_ ?_
  · intro c41
    refine q_iconst (pc := 54) hG dX11_lights_54 ki_m1 ?_
    have r_44 := q_neL (c := 1) p14.1 c17 (by decide)
    have r_45 := q_neL (c := 1) p24.1 c27 (by decide)
    have r_46 := q_zeq c41
    have r_47 := q_zeq c32
    have r_48 := q_rle r_4 rl_20 g_3.2
    have r_49 := q_rle r_9 rl_9 g_8.2
    exact q_irt hG hE dX11_lights_55 ⟨hS0, (q_r.mono rl_m1 (by decide)), (fun t e => by cases e.symm.trans q_1f; exact ⟨q_1v, q_1f, (by have o0 := p5.2.2; have o1 := p14.2.2; have o2 := c17; have o3 := g_3.1; have o4 := g_3.2; have o5 := p24.2.2; have o6 := c27; have o7 := g_8.1; have o8 := g_8.2; have o9 := c32; have o10 := p38.2.2; have o11 := c41; have o12 := q_1r; have o13 := r_44; have o14 := r_45; have o15 := r_46; have o16 := r_47; have o17 := r_48; have o18 := r_49; have l19 := tl_m1; have l20 := tl_0; have l21 := tl_1; have l22 := tl_9; have l23 := tl_11; have l24 := tl_20; have l25 := tl_30; unfold q_r at o12 o13 o14 o15 o16 o17 o18; omega)⟩)⟩
  intro c41
  have g_50 := p38.2.2.mp (q_one p38.1 c41)
  have r_51 := q_rge (q_r_any x3) rl_0 g_50.1
  refine q_lv [1, 2, 3, 4, 0] rfl ?_
  have r_52 := q_neL (c := 1) p38.1 c41 (by decide)
  have r_53 := q_zeq c32
  have r_54 := q_rle r_51 rl_1 g_50.2
  exact J44 (by have o0 := p5.2.2; have o1 := c32; have o2 := p38.2.2; have o3 := c41; have o4 := g_50.1; have o5 := g_50.2; have o6 := r_52; have o7 := r_53; have o8 := r_54; have l9 := tl_0; have l10 := tl_1; have l11 := tl_11; have l12 := tl_30; unfold q_r at o6 o7 o8; omega)
theorem dX11_believed_0 : decode cX11_believed 0 = .ok (.aload_n 0, 1) := by decide +kernel
theorem dX11_believed_1 : decode cX11_believed 1 = .ok (.getfield 41, 3) := by decide +kernel
theorem dX11_believed_4 : decode cX11_believed 4 = .ok (.iload_n 1, 1) := by decide +kernel
theorem dX11_believed_5 : decode cX11_believed 5 = .ok (.invokevirtual 184, 3) := by decide +kernel
theorem dX11_believed_8 : decode cX11_believed 8 = .ok (.ifCond .eq 19, 3) := by decide +kernel
theorem dX11_believed_11 : decode cX11_believed 11 = .ok (.aload_n 0, 1) := by decide +kernel
theorem dX11_believed_12 : decode cX11_believed 12 = .ok (.getfield 41, 3) := by decide +kernel
theorem dX11_believed_15 : decode cX11_believed 15 = .ok (.aload_n 0, 1) := by decide +kernel
theorem dX11_believed_16 : decode cX11_believed 16 = .ok (.getfield 34, 3) := by decide +kernel
theorem dX11_believed_19 : decode cX11_believed 19 = .ok (.iload_n 1, 1) := by decide +kernel
theorem dX11_believed_20 : decode cX11_believed 20 = .ok (.iload_n 2, 1) := by decide +kernel
theorem dX11_believed_21 : decode cX11_believed 21 = .ok (.invokestatic 297, 3) := by decide +kernel
theorem dX11_believed_24 : decode cX11_believed 24 = .ok (.goto 4, 3) := by decide +kernel
theorem dX11_believed_27 : decode cX11_believed 27 = .ok (.iconst (-1), 1) := by decide +kernel
theorem dX11_believed_28 : decode cX11_believed 28 = .ok (.ireturn, 1) := by decide +kernel
def md_X11_believed : List (Nat × Nat) := [(3, 9), (3, 10), (3, 11), (3, 12), (3, 13), (3, 14), (3, 15), (117, 0)]
set_option maxRecDepth 100000 in
set_option maxHeartbeats 4000000 in
theorem c_X11_believed {l : Launch} {D : q_D} (τ : q_T) (σ : q_V) (a0 : Nat) (x1 : Int32) (x2 : Int32) (hI : q_I τ σ) (tA0 : τ a0 = some (9, 1)) (rA2 : q_r x2 0 1) : q_Ci l D yX11_believed cX11_believed 3 (some .int) 6 145 τ σ [.ref a0, .int x1, .int x2] (fun r σ1 => q_S md_X11_believed τ σ σ1 ∧ (q_r r (-1) 2)) := by
  refine q_meti rfl (Nat.le_of_ble_eq_true rfl) (fun X hG hE => ?_)
  show q_O X 0 0 τ σ 0 [(0, .ref a0), (1, .int x1), (2, .int x2)] []
  have hS0 : q_S md_X11_believed τ σ σ := q_S.rf hI
  refine q_aload_n (pc := 0) hG dX11_believed_0 0 rfl ?_
  refine q_getR (pc := 1) (k2 := 6) (n2 := 1) hG fl_X11_41 dX11_believed_1 hI tA0 ff_9_5 (fun b1 f1 T1 => ?_)
  refine q_iload_n (pc := 4) hG dX11_believed_4 1 rfl ?_
  refine q_pV (pc := 5) [.int x1] [] hG (c_X7_isDot τ σ b1 x1 hI T1) my_X7_isDot mv_X7_isDot w517 dX11_believed_5 T1 (by decide) rfl rfl (Nat.le_of_ble_eq_true rfl) (by decide) (fun v5 p5 => ?_)
  refine q_if_eq (pc := 8) hG 27 dX11_believed_8 rfl ?_ ?_
  · intro c8
    refine q_iconst (pc := 27) hG dX11_believed_27 ki_m1 ?_
    exact q_irt hG hE dX11_believed_28 ⟨hS0, (q_r.mono rl_m1 (by decide))⟩
  intro c8
  have g_1 := p5.2.2.1 (q_one p5.1 c8)
  have r_2 := q_rge (q_r_any x1) rl_0 (show (0 : Int32).toInt ≤ _ from g_1.1)
  refine q_aload_n (pc := 11) hG dX11_believed_11 0 rfl ?_
  refine q_getV (pc := 12) (v := .ref b1) hG fl_X11_41 dX11_believed_12 tA0 f1 ?_
  refine q_aload_n (pc := 15) hG dX11_believed_15 0 rfl ?_
  refine q_getR (pc := 16) (k2 := 3) (n2 := 1) hG fl_X11_34 dX11_believed_16 hI tA0 ff_9_4 (fun b16 f16 T16 => ?_)
  refine q_iload_n (pc := 19) hG dX11_believed_19 1 rfl ?_
  refine q_iload_n (pc := 20) hG dX11_believed_20 2 rfl ?_
  have r_3 := q_rle r_2 rl_63 (show _ ≤ (63 : Int32).toInt from g_1.2)
  refine q_cSi (pc := 21) [.ref b1, .ref b16, .int x1, .int x2] [] hG (c_X0_belief τ σ b1 b16 x1 x2 hI T1 T16 r_3 rA2) my_X0_belief w676 w675 dX11_believed_21 rfl rfl (Nat.le_of_ble_eq_true rfl) (by decide) (fun v21 s21 p21 => ?_)
  have w21 := hS0.trans p21.1 rfl
  refine q_goto (pc := 24) 28 hG dX11_believed_24 rfl ?_
  exact q_irt hG hE dX11_believed_28 ⟨w21, (q_r.mono p21.2 (by decide))⟩
theorem dX11_lost_0 : decode cX11_lost 0 = .ok (.iload_n 1, 1) := by decide +kernel
theorem dX11_lost_1 : decode cX11_lost 1 = .ok (.iconst 0, 1) := by decide +kernel
theorem dX11_lost_2 : decode cX11_lost 2 = .ok (.bipush 99, 2) := by decide +kernel
theorem dX11_lost_4 : decode cX11_lost 4 = .ok (.invokestatic 90, 3) := by decide +kernel
theorem dX11_lost_7 : decode cX11_lost 7 = .ok (.ifCond .ne 5, 3) := by decide +kernel
theorem dX11_lost_10 : decode cX11_lost 10 = .ok (.iconst (-1), 1) := by decide +kernel
theorem dX11_lost_11 : decode cX11_lost 11 = .ok (.ireturn, 1) := by decide +kernel
theorem dX11_lost_12 : decode cX11_lost 12 = .ok (.aload_n 0, 1) := by decide +kernel
theorem dX11_lost_13 : decode cX11_lost 13 = .ok (.getfield 72, 3) := by decide +kernel
theorem dX11_lost_16 : decode cX11_lost 16 = .ok (.aload_n 0, 1) := by decide +kernel
theorem dX11_lost_17 : decode cX11_lost 17 = .ok (.getfield 41, 3) := by decide +kernel
theorem dX11_lost_20 : decode cX11_lost 20 = .ok (.aload_n 0, 1) := by decide +kernel
theorem dX11_lost_21 : decode cX11_lost 21 = .ok (.getfield 34, 3) := by decide +kernel
theorem dX11_lost_24 : decode cX11_lost 24 = .ok (.iload_n 1, 1) := by decide +kernel
theorem dX11_lost_25 : decode cX11_lost 25 = .ok (.iload_n 2, 1) := by decide +kernel
theorem dX11_lost_26 : decode cX11_lost 26 = .ok (.invokevirtual 301, 3) := by decide +kernel
theorem dX11_lost_29 : decode cX11_lost 29 = .ok (.ireturn, 1) := by decide +kernel
def md_X11_lost : List (Nat × Nat) := [(3, 9), (3, 10), (3, 11), (3, 12), (3, 13), (3, 14), (3, 15), (117, 0), (211, 0)]
set_option maxRecDepth 100000 in
set_option maxHeartbeats 4000000 in
theorem c_X11_lost {l : Launch} {D : q_D} (τ : q_T) (σ : q_V) (a0 : Nat) (x1 : Int32) (x2 : Int32) (hI : q_I τ σ) (tA0 : τ a0 = some (9, 1)) (rA2 : q_r x2 0 1) : q_Ci l D yX11_lost cX11_lost 3 (some .int) 7 172 τ σ [.ref a0, .int x1, .int x2] (fun r σ1 => q_S md_X11_lost τ σ σ1 ∧ (q_r r (-2147483648) 2147483647)) := by
  refine q_meti rfl (Nat.le_of_ble_eq_true rfl) (fun X hG hE => ?_)
  show q_O X 0 0 τ σ 0 [(0, .ref a0), (1, .int x1), (2, .int x2)] []
  have hS0 : q_S md_X11_lost τ σ σ := q_S.rf hI
  refine q_iload_n (pc := 0) hG dX11_lost_0 1 rfl ?_
  refine q_iconst (pc := 1) hG dX11_lost_1 ki_0 ?_
  refine q_bipush (pc := 2) hG dX11_lost_2 kb_99 ?_
  refine q_pS (pc := 4) [.int x1, .int 0, .int 99] [] hG (c_X11_isIn τ σ x1 0 99 hI) my_X11_isIn w238 w237 dX11_lost_4 rfl rfl (Nat.le_of_ble_eq_true rfl) (by decide) (fun v4 p4 => ?_)
  refine q_if_ne (pc := 7) hG 12 dX11_lost_7 rfl ?_ ?_
  · intro c7
    have g_1 := p4.2.2.mp (q_one p4.1 c7)
    have r_2 := q_rge (q_r_any x1) rl_0 g_1.1
    refine q_aload_n (pc := 12) hG dX11_lost_12 0 rfl ?_
    refine q_getR (pc := 13) (k2 := 0) (n2 := 1) hG fl_X11_72 dX11_lost_13 hI tA0 ff_9_11 (fun b13 f13 T13 => ?_)
    refine q_aload_n (pc := 16) hG dX11_lost_16 0 rfl ?_
    refine q_getR (pc := 17) (k2 := 6) (n2 := 1) hG fl_X11_41 dX11_lost_17 hI tA0 ff_9_5 (fun b17 f17 T17 => ?_)
    refine q_aload_n (pc := 20) hG dX11_lost_20 0 rfl ?_
    refine q_getR (pc := 21) (k2 := 3) (n2 := 1) hG fl_X11_34 dX11_lost_21 hI tA0 ff_9_4 (fun b21 f21 T21 => ?_)
    refine q_iload_n (pc := 24) hG dX11_lost_24 1 rfl ?_
    refine q_iload_n (pc := 25) hG dX11_lost_25 2 rfl ?_
    refine q_cVi (pc := 26) [.ref b17, .ref b21, .int x1, .int x2] [] hG (c_X0_findLost τ σ b13 b17 b21 x1 x2 hI T13 T17 T21 rA2) my_X0_findLost mv_X0_findLost w685 dX11_lost_26 T13 (by decide) rfl rfl (Nat.le_of_ble_eq_true rfl) (by decide) (fun v26 s26 p26 => ?_)
    have w26 := hS0.trans p26.1 rfl
    exact q_irt hG hE dX11_lost_29 ⟨w26, p26.2⟩
  intro c7
  refine q_iconst (pc := 10) hG dX11_lost_10 ki_m1 ?_
  exact q_irt hG hE dX11_lost_11 ⟨hS0, (q_r.mono rl_m1 (by decide))⟩
theorem dX11_burnFirst_0 : decode cX11_burnFirst 0 = .ok (.iload_n 1, 1) := by decide +kernel
theorem dX11_burnFirst_1 : decode cX11_burnFirst 1 = .ok (.iconst 1, 1) := by decide +kernel
theorem dX11_burnFirst_2 : decode cX11_burnFirst 2 = .ok (.aload_n 0, 1) := by decide +kernel
theorem dX11_burnFirst_3 : decode cX11_burnFirst 3 = .ok (.getfield 41, 3) := by decide +kernel
theorem dX11_burnFirst_6 : decode cX11_burnFirst 6 = .ok (.getfield 98, 3) := by decide +kernel
theorem dX11_burnFirst_9 : decode cX11_burnFirst 9 = .ok (.invokestatic 90, 3) := by decide +kernel
theorem dX11_burnFirst_12 : decode cX11_burnFirst 12 = .ok (.ifCond .eq 23, 3) := by decide +kernel
theorem dX11_burnFirst_15 : decode cX11_burnFirst 15 = .ok (.iload_n 2, 1) := by decide +kernel
theorem dX11_burnFirst_16 : decode cX11_burnFirst 16 = .ok (.iconst 0, 1) := by decide +kernel
theorem dX11_burnFirst_17 : decode cX11_burnFirst 17 = .ok (.bipush 99, 2) := by decide +kernel
theorem dX11_burnFirst_19 : decode cX11_burnFirst 19 = .ok (.invokestatic 90, 3) := by decide +kernel
theorem dX11_burnFirst_22 : decode cX11_burnFirst 22 = .ok (.ifCond .eq 13, 3) := by decide +kernel
theorem dX11_burnFirst_25 : decode cX11_burnFirst 25 = .ok (.iload 4, 2) := by decide +kernel
theorem dX11_burnFirst_27 : decode cX11_burnFirst 27 = .ok (.iconst 0, 1) := by decide +kernel
theorem dX11_burnFirst_28 : decode cX11_burnFirst 28 = .ok (.iconst 1, 1) := by decide +kernel
theorem dX11_burnFirst_29 : decode cX11_burnFirst 29 = .ok (.invokestatic 90, 3) := by decide +kernel
theorem dX11_burnFirst_32 : decode cX11_burnFirst 32 = .ok (.ifCond .ne 5, 3) := by decide +kernel
theorem dX11_burnFirst_35 : decode cX11_burnFirst 35 = .ok (.iconst (-1), 1) := by decide +kernel
theorem dX11_burnFirst_36 : decode cX11_burnFirst 36 = .ok (.ireturn, 1) := by decide +kernel
theorem dX11_burnFirst_37 : decode cX11_burnFirst 37 = .ok (.aload_n 0, 1) := by decide +kernel
theorem dX11_burnFirst_38 : decode cX11_burnFirst 38 = .ok (.getfield 72, 3) := by decide +kernel
theorem dX11_burnFirst_41 : decode cX11_burnFirst 41 = .ok (.aload_n 0, 1) := by decide +kernel
theorem dX11_burnFirst_42 : decode cX11_burnFirst 42 = .ok (.getfield 41, 3) := by decide +kernel
theorem dX11_burnFirst_45 : decode cX11_burnFirst 45 = .ok (.aload_n 0, 1) := by decide +kernel
theorem dX11_burnFirst_46 : decode cX11_burnFirst 46 = .ok (.getfield 34, 3) := by decide +kernel
theorem dX11_burnFirst_49 : decode cX11_burnFirst 49 = .ok (.iload_n 2, 1) := by decide +kernel
theorem dX11_burnFirst_50 : decode cX11_burnFirst 50 = .ok (.iload_n 3, 1) := by decide +kernel
theorem dX11_burnFirst_51 : decode cX11_burnFirst 51 = .ok (.invokevirtual 301, 3) := by decide +kernel
theorem dX11_burnFirst_54 : decode cX11_burnFirst 54 = .ok (.istore 5, 2) := by decide +kernel
theorem dX11_burnFirst_56 : decode cX11_burnFirst 56 = .ok (.iconst 0, 1) := by decide +kernel
theorem dX11_burnFirst_57 : decode cX11_burnFirst 57 = .ok (.istore 6, 2) := by decide +kernel
theorem dX11_burnFirst_59 : decode cX11_burnFirst 59 = .ok (.iconst 1, 1) := by decide +kernel
theorem dX11_burnFirst_60 : decode cX11_burnFirst 60 = .ok (.istore 7, 2) := by decide +kernel
theorem dX11_burnFirst_62 : decode cX11_burnFirst 62 = .ok (.iload 7, 2) := by decide +kernel
theorem dX11_burnFirst_64 : decode cX11_burnFirst 64 = .ok (.iload_n 1, 1) := by decide +kernel
theorem dX11_burnFirst_65 : decode cX11_burnFirst 65 = .ok (.iadd, 1) := by decide +kernel
theorem dX11_burnFirst_66 : decode cX11_burnFirst 66 = .ok (.aload_n 0, 1) := by decide +kernel
theorem dX11_burnFirst_67 : decode cX11_burnFirst 67 = .ok (.getfield 41, 3) := by decide +kernel
theorem dX11_burnFirst_70 : decode cX11_burnFirst 70 = .ok (.getfield 98, 3) := by decide +kernel
theorem dX11_burnFirst_73 : decode cX11_burnFirst 73 = .ok (.if_icmp .gt 36, 3) := by decide +kernel
theorem dX11_burnFirst_76 : decode cX11_burnFirst 76 = .ok (.aload_n 0, 1) := by decide +kernel
theorem dX11_burnFirst_77 : decode cX11_burnFirst 77 = .ok (.getfield 72, 3) := by decide +kernel
theorem dX11_burnFirst_80 : decode cX11_burnFirst 80 = .ok (.iload 7, 2) := by decide +kernel
theorem dX11_burnFirst_82 : decode cX11_burnFirst 82 = .ok (.iload_n 1, 1) := by decide +kernel
theorem dX11_burnFirst_83 : decode cX11_burnFirst 83 = .ok (.invokevirtual 304, 3) := by decide +kernel
theorem dX11_burnFirst_86 : decode cX11_burnFirst 86 = .ok (.aload_n 0, 1) := by decide +kernel
theorem dX11_burnFirst_87 : decode cX11_burnFirst 87 = .ok (.getfield 72, 3) := by decide +kernel
theorem dX11_burnFirst_90 : decode cX11_burnFirst 90 = .ok (.iload 6, 2) := by decide +kernel
theorem dX11_burnFirst_92 : decode cX11_burnFirst 92 = .ok (.iload_n 1, 1) := by decide +kernel
theorem dX11_burnFirst_93 : decode cX11_burnFirst 93 = .ok (.invokevirtual 304, 3) := by decide +kernel
theorem dX11_burnFirst_96 : decode cX11_burnFirst 96 = .ok (.if_icmp .le 7, 3) := by decide +kernel
theorem dX11_burnFirst_99 : decode cX11_burnFirst 99 = .ok (.iload 7, 2) := by decide +kernel
theorem dX11_burnFirst_101 : decode cX11_burnFirst 101 = .ok (.istore 6, 2) := by decide +kernel
theorem dX11_burnFirst_103 : decode cX11_burnFirst 103 = .ok (.iinc 7 1, 3) := by decide +kernel
theorem dX11_burnFirst_106 : decode cX11_burnFirst 106 = .ok (.goto (-44), 3) := by decide +kernel
theorem dX11_burnFirst_109 : decode cX11_burnFirst 109 = .ok (.iload 4, 2) := by decide +kernel
theorem dX11_burnFirst_111 : decode cX11_burnFirst 111 = .ok (.ifCond .ne 8, 3) := by decide +kernel
theorem dX11_burnFirst_114 : decode cX11_burnFirst 114 = .ok (.iload 6, 2) := by decide +kernel
theorem dX11_burnFirst_116 : decode cX11_burnFirst 116 = .ok (.goto 16, 3) := by decide +kernel
theorem dX11_burnFirst_119 : decode cX11_burnFirst 119 = .ok (.iload 5, 2) := by decide +kernel
theorem dX11_burnFirst_121 : decode cX11_burnFirst 121 = .ok (.aload_n 0, 1) := by decide +kernel
theorem dX11_burnFirst_122 : decode cX11_burnFirst 122 = .ok (.getfield 72, 3) := by decide +kernel
theorem dX11_burnFirst_125 : decode cX11_burnFirst 125 = .ok (.iload 6, 2) := by decide +kernel
theorem dX11_burnFirst_127 : decode cX11_burnFirst 127 = .ok (.iload_n 1, 1) := by decide +kernel
theorem dX11_burnFirst_128 : decode cX11_burnFirst 128 = .ok (.invokevirtual 304, 3) := by decide +kernel
theorem dX11_burnFirst_131 : decode cX11_burnFirst 131 = .ok (.isub, 1) := by decide +kernel
theorem dX11_burnFirst_132 : decode cX11_burnFirst 132 = .ok (.ireturn, 1) := by decide +kernel
def md_X11_burnFirst : List (Nat × Nat) := [(3, 9), (3, 10), (3, 11), (3, 12), (3, 13), (3, 14), (3, 15), (117, 0), (211, 0)]
set_option maxRecDepth 100000 in
set_option maxHeartbeats 4000000 in
theorem c_X11_burnFirst {l : Launch} {D : q_D} (τ : q_T) (σ : q_V) (a0 : Nat) (x1 : Int32) (x2 : Int32) (x3 : Int32) (x4 : Int32) (hI : q_I τ σ) (tA0 : τ a0 = some (9, 1)) (rA3 : q_r x3 0 1) : q_Ci l D yX11_burnFirst cX11_burnFirst 8 (some .int) 7 172 τ σ [.ref a0, .int x1, .int x2, .int x3, .int x4] (fun r σ1 => q_S md_X11_burnFirst τ σ σ1 ∧ (q_r r (-2147483648) 2147483647)) := by
  refine q_meti rfl (Nat.le_of_ble_eq_true rfl) (fun X hG hE => ?_)
  show q_O X 0 0 τ σ 0 [(0, .ref a0), (1, .int x1), (2, .int x2), (3, .int x3), (4, .int x4)] []
  have hS0 : q_S md_X11_burnFirst τ σ σ := q_S.rf hI
  refine q_iload_n (pc := 0) hG dX11_burnFirst_0 1 rfl ?_
  refine q_iconst (pc := 1) hG dX11_burnFirst_1 ki_1 ?_
  refine q_aload_n (pc := 2) hG dX11_burnFirst_2 0 rfl ?_
  refine q_getR (pc := 3) (k2 := 6) (n2 := 1) hG fl_X11_41 dX11_burnFirst_3 hI tA0 ff_9_5 (fun b3 f3 T3 => ?_)
  refine q_getI (pc := 6) hG fl_X11_98 dX11_burnFirst_6 hI T3 ff_6_0 (fun v6 f6 g6 => ?_)
  refine q_pS (pc := 9) [.int x1, .int 1, .int v6] [] hG (c_X11_isIn τ σ x1 1 v6 hI) my_X11_isIn w238 w237 dX11_burnFirst_9 rfl rfl (Nat.le_of_ble_eq_true rfl) (by decide) (fun v9 p9 => ?_)
  refine q_if_eq (pc := 12) hG 35 dX11_burnFirst_12 rfl ?_ ?_
  · intro c12
    refine q_iconst (pc := 35) hG dX11_burnFirst_35 ki_m1 ?_
    exact q_irt hG hE dX11_burnFirst_36 ⟨hS0, (q_r.mono rl_m1 (by decide))⟩
  intro c12
  have g_1 := p9.2.2.mp (q_one p9.1 c12)
  have r_2 := q_rge (q_r_any x1) rl_1 g_1.1
  refine q_iload_n (pc := 15) hG dX11_burnFirst_15 2 rfl ?_
  refine q_iconst (pc := 16) hG dX11_burnFirst_16 ki_0 ?_
  refine q_bipush (pc := 17) hG dX11_burnFirst_17 kb_99 ?_
  refine q_pS (pc := 19) [.int x2, .int 0, .int 99] [] hG (c_X11_isIn τ σ x2 0 99 hI) my_X11_isIn w238 w237 dX11_burnFirst_19 rfl rfl (Nat.le_of_ble_eq_true rfl) (by decide) (fun v19 p19 => ?_)
  refine q_if_eq (pc := 22) hG 35 dX11_burnFirst_22 rfl ?_ ?_
  · intro c22
    refine q_iconst (pc := 35) hG dX11_burnFirst_35 ki_m1 ?_
    exact q_irt hG hE dX11_burnFirst_36 ⟨hS0, (q_r.mono rl_m1 (by decide))⟩
  intro c22
  have g_3 := p19.2.2.mp (q_one p19.1 c22)
  have r_4 := q_rge (q_r_any x2) rl_0 g_3.1
  refine q_iload (pc := 25) hG dX11_burnFirst_25 4 rfl ?_
  refine q_iconst (pc := 27) hG dX11_burnFirst_27 ki_0 ?_
  refine q_iconst (pc := 28) hG dX11_burnFirst_28 ki_1 ?_
  refine q_pS (pc := 29) [.int x4, .int 0, .int 1] [] hG (c_X11_isIn τ σ x4 0 1 hI) my_X11_isIn w238 w237 dX11_burnFirst_29 rfl rfl (Nat.le_of_ble_eq_true rfl) (by decide) (fun v29 p29 => ?_)
  refine q_if_ne (pc := 32) hG 37 dX11_burnFirst_32 rfl ?_ ?_
  · intro c32
    have g_5 := p29.2.2.mp (q_one p29.1 c32)
    have r_6 := q_rge (q_r_any x4) rl_0 g_5.1
    refine q_aload_n (pc := 37) hG dX11_burnFirst_37 0 rfl ?_
    refine q_getR (pc := 38) (k2 := 0) (n2 := 1) hG fl_X11_72 dX11_burnFirst_38 hI tA0 ff_9_11 (fun b38 f38 T38 => ?_)
    refine q_aload_n (pc := 41) hG dX11_burnFirst_41 0 rfl ?_
    refine q_getV (pc := 42) (v := .ref b3) hG fl_X11_41 dX11_burnFirst_42 tA0 f3 ?_
    refine q_aload_n (pc := 45) hG dX11_burnFirst_45 0 rfl ?_
    refine q_getR (pc := 46) (k2 := 3) (n2 := 1) hG fl_X11_34 dX11_burnFirst_46 hI tA0 ff_9_4 (fun b46 f46 T46 => ?_)
    refine q_iload_n (pc := 49) hG dX11_burnFirst_49 2 rfl ?_
    refine q_iload_n (pc := 50) hG dX11_burnFirst_50 3 rfl ?_
    refine q_cVi (pc := 51) [.ref b3, .ref b46, .int x2, .int x3] [] hG (c_X0_findLost τ σ b38 b3 b46 x2 x3 hI T38 T3 T46 rA3) my_X0_findLost mv_X0_findLost w685 dX11_burnFirst_51 T38 (by decide) rfl rfl (Nat.le_of_ble_eq_true rfl) (by decide) (fun v51 s51 p51 => ?_)
    have w51 := hS0.trans p51.1 rfl
    refine q_istore (pc := 54) [(5, .int v51), (0, .ref a0), (1, .int x1), (2, .int x2), (3, .int x3), (4, .int x4)] hG dX11_burnFirst_54 (by decide) rfl ?_
    refine q_iconst (pc := 56) hG dX11_burnFirst_56 ki_0 ?_
    refine q_istore (pc := 57) [(6, .int 0), (5, .int v51), (0, .ref a0), (1, .int x1), (2, .int x2), (3, .int x3), (4, .int x4)] hG dX11_burnFirst_57 (by decide) rfl ?_
    refine q_iconst (pc := 59) hG dX11_burnFirst_59 ki_1 ?_
    refine q_istore (pc := 60) [(7, .int 1), (6, .int 0), (5, .int v51), (0, .ref a0), (1, .int x1), (2, .int x2), (3, .int x3), (4, .int x4)] hG dX11_burnFirst_60 (by decide) rfl ?_
    have J62 : ∀ (n62 : Nat) (p62_6 : Int32) (p62_7 : Int32), (q_r p62_6 0 63) → (q_r p62_7 1 64) → ((64 - p62_7.toInt).toNat < n62) → q_O X 0 0 τ s51 62 [(0, .ref a0), (1, .int x1), (4, .int x4), (5, .int v51), (6, .int p62_6), (7, .int p62_7)] [] := by
      intro n62
      induction n62 with
      | zero => intro p62_6 p62_7 r62_6 r62_7 hm62; exact absurd hm62 (Nat.not_lt_zero _)
      | succ n62 ih62 =>
        intro p62_6 p62_7 r62_6 r62_7 hm62
        refine q_iload (pc := 62) hG dX11_burnFirst_62 5 rfl ?_
        refine q_iload_n (pc := 64) hG dX11_burnFirst_64 1 rfl ?_
        refine q_iadd (pc := 65) hG dX11_burnFirst_65 (fun v65 e65 => ?_)
        have r_7 := q_rle r_2 g6 g_1.2
        refine q_aload_n (pc := 66) hG dX11_burnFirst_66 0 rfl ?_
        refine q_getV (pc := 67) (v := .ref b3) hG fl_X11_41 dX11_burnFirst_67 tA0 (w51.same tA0 rfl f3) ?_
        refine q_getV (pc := 70) (v := .int v6) hG fl_X11_98 dX11_burnFirst_70 T3 (w51.same T3 rfl f6) ?_
        refine q_icmp_gt (pc := 73) hG 109 dX11_burnFirst_73 rfl ?_ ?_
        · intro c73
          have r_8 := (q_addN (lo := 2) (hi := 128) e65 r62_7 r_7 (by decide)).2
          refine q_iload (pc := 109) hG dX11_burnFirst_109 2 rfl ?_
          refine q_if_ne (pc := 111) hG 119 dX11_burnFirst_111 rfl ?_ ?_
          · intro c111
            have r_9 := q_rle r_6 rl_1 g_5.2
            refine q_iload (pc := 119) hG dX11_burnFirst_119 3 rfl ?_
            refine q_aload_n (pc := 121) hG dX11_burnFirst_121 0 rfl ?_
            refine q_getV (pc := 122) (v := .ref b38) hG fl_X11_72 dX11_burnFirst_122 tA0 (w51.same tA0 rfl f38) ?_
            refine q_iload (pc := 125) hG dX11_burnFirst_125 4 rfl ?_
            refine q_iload_n (pc := 127) hG dX11_burnFirst_127 1 rfl ?_
            refine q_pV (pc := 128) [.int p62_6, .int x1] [.int v51] hG (c_X0_lostIn τ s51 b38 p62_6 x1 w51.1 T38 (q_r.mono r62_6 (by decide)) (q_r.mono r_7 (by decide))) my_X0_lostIn mv_X0_lostIn w695 dX11_burnFirst_128 T38 (by decide) rfl rfl (Nat.le_of_ble_eq_true rfl) (by decide) (fun v128 p128 => ?_)
            refine q_isub (pc := 131) hG dX11_burnFirst_131 (fun v131 e131 => ?_)
            exact q_irt hG hE dX11_burnFirst_132 ⟨w51, (q_r_any v131)⟩
          intro c111
          have r_10 := q_rle r_6 rl_1 g_5.2
          refine q_iload (pc := 114) hG dX11_burnFirst_114 4 rfl ?_
          refine q_goto (pc := 116) 132 hG dX11_burnFirst_116 rfl ?_
          exact q_irt hG hE dX11_burnFirst_132 ⟨w51, (q_r.mono r62_6 (by decide))⟩
        intro c73
        have r_11 := (q_addN (lo := 2) (hi := 128) e65 r62_7 r_7 (by decide)).2
        refine q_aload_n (pc := 76) hG dX11_burnFirst_76 0 rfl ?_
        refine q_getV (pc := 77) (v := .ref b38) hG fl_X11_72 dX11_burnFirst_77 tA0 (w51.same tA0 rfl f38) ?_
        refine q_iload (pc := 80) hG dX11_burnFirst_80 5 rfl ?_
        refine q_iload_n (pc := 82) hG dX11_burnFirst_82 1 rfl ?_
        refine q_pV (pc := 83) [.int p62_7, .int x1] [] hG (c_X0_lostIn τ s51 b38 p62_7 x1 w51.1 T38 (q_r.mono r62_7 (by decide)) (q_r.mono r_7 (by decide))) my_X0_lostIn mv_X0_lostIn w695 dX11_burnFirst_83 T38 (by decide) rfl rfl (Nat.le_of_ble_eq_true rfl) (by decide) (fun v83 p83 => ?_)
        refine q_aload_n (pc := 86) hG dX11_burnFirst_86 0 rfl ?_
        refine q_getV (pc := 87) (v := .ref b38) hG fl_X11_72 dX11_burnFirst_87 tA0 (w51.same tA0 rfl f38) ?_
        refine q_iload (pc := 90) hG dX11_burnFirst_90 4 rfl ?_
        refine q_iload_n (pc := 92) hG dX11_burnFirst_92 1 rfl ?_
        refine q_pV (pc := 93) [.int p62_6, .int x1] [.int v83] hG (c_X0_lostIn τ s51 b38 p62_6 x1 w51.1 T38 (q_r.mono r62_6 (by decide)) (q_r.mono r_7 (by decide))) my_X0_lostIn mv_X0_lostIn w695 dX11_burnFirst_93 T38 (by decide) rfl rfl (Nat.le_of_ble_eq_true rfl) (by decide) (fun v93 p93 => ?_)
        have J103 : ∀ (p103_6 : Int32), (q_r p103_6 0 63) → q_O X 0 0 τ s51 103 [(0, .ref a0), (1, .int x1), (4, .int x4), (5, .int v51), (6, .int p103_6), (7, .int p62_7)] [] := by
          intro p103_6 r103_6
          obtain ⟨v103, e103⟩ : ∃ z : Int32, z = p62_7 + Int32.ofInt 1 := ⟨_, rfl⟩
          have h103 := q_incN (lo := 2) (hi := 65) r62_7 (by decide) (by decide) e103
          refine q_iinc (pc := 103) [(7, .int v103), (0, .ref a0), (1, .int x1), (4, .int x4), (5, .int v51), (6, .int p103_6)] hG dX11_burnFirst_103 5 rfl e103 (by decide) rfl ?_
          refine q_goto (pc := 106) 62 hG dX11_burnFirst_106 rfl ?_
          refine q_lv [1, 2, 3, 4, 5, 0] rfl ?_
          have r_12 := q_rle r_11 g6 c73
          exact ih62 p103_6 v103 r103_6 (show q_r v103 1 64 from ⟨(by have o0 := h103.1; have o1 := (q_addN (lo := 2) (hi := 128) e65 r62_7 r_7 (by decide)).1; have o2 := c73; have o3 := g_1.1; have o4 := g_1.2; have o5 := r62_7; have o6 := h103.2; have o7 := g6; have o8 := r_12; have o9 := r_7; have l10 := tl_1; unfold q_r at o5 o6 o7 o8 o9; omega), (by have o0 := h103.1; have o1 := (q_addN (lo := 2) (hi := 128) e65 r62_7 r_7 (by decide)).1; have o2 := c73; have o3 := g_1.1; have o4 := g_1.2; have o5 := r62_7; have o6 := h103.2; have o7 := g6; have o8 := r_12; have o9 := r_7; have l10 := tl_1; unfold q_r at o5 o6 o7 o8 o9; omega)⟩) (q_measU hm62 (by have o0 := (q_addN (lo := 2) (hi := 128) e65 r62_7 r_7 (by decide)).1; have o1 := c73; have o2 := h103.1; have o3 := g_1.1; have o4 := g_1.2; have o5 := r62_7; have o6 := h103.2; have o7 := g6; have o8 := r_12; have o9 := r_7; have l10 := tl_1; unfold q_r at o5 o6 o7 o8 o9; omega) (by have o0 := h103.1; have o1 := (q_addN (lo := 2) (hi := 128) e65 r62_7 r_7 (by decide)).1; have o2 := c73; have o3 := g_1.1; have o4 := g_1.2; have o5 := r62_7; have o6 := h103.2; have o7 := g6; have o8 := r_12; have o9 := r_7; have l10 := tl_1; unfold q_r at o5 o6 o7 o8 o9; omega))
        refine q_icmp_le (pc := 96) hG 103 dX11_burnFirst_96 rfl ?_ ?_
        · intro c96
          refine q_lv [0, 1, 2, 3, 4, 5] rfl ?_
          exact J103 p62_6 r62_6
        intro c96
        refine q_iload (pc := 99) hG dX11_burnFirst_99 5 rfl ?_
        refine q_istore (pc := 101) [(6, .int p62_7), (0, .ref a0), (1, .int x1), (4, .int x4), (5, .int v51), (7, .int p62_7)] hG dX11_burnFirst_101 (by decide) rfl ?_
        refine q_lv [1, 2, 3, 4, 0, 5] rfl ?_
        have r_13 := q_rle r_11 g6 c73
        exact J103 p62_7 (show q_r p62_7 0 63 from ⟨(by have o0 := (q_addN (lo := 2) (hi := 128) e65 r62_7 r_7 (by decide)).1; have o1 := c73; have o2 := g_1.1; have o3 := g_1.2; have o4 := r62_7; have o5 := g6; have o6 := r_13; have o7 := r_7; have l8 := tl_1; unfold q_r at o4 o5 o6 o7; omega), (by have o0 := (q_addN (lo := 2) (hi := 128) e65 r62_7 r_7 (by decide)).1; have o1 := c73; have o2 := g_1.1; have o3 := g_1.2; have o4 := r62_7; have o5 := g6; have o6 := r_13; have o7 := r_7; have l8 := tl_1; unfold q_r at o4 o5 o6 o7; omega)⟩)
    refine q_lv [3, 4, 7, 2, 1, 0] rfl ?_
    exact J62 _ 0 1 (q_r.mono rl_0 (by decide)) (q_r.mono rl_1 (by decide)) (Nat.lt_succ_self _)
  intro c32
  refine q_iconst (pc := 35) hG dX11_burnFirst_35 ki_m1 ?_
  exact q_irt hG hE dX11_burnFirst_36 ⟨hS0, (q_r.mono rl_m1 (by decide))⟩
theorem dX11_cut_0 : decode cX11_cut 0 = .ok (.iload_n 1, 1) := by decide +kernel
theorem dX11_cut_1 : decode cX11_cut 1 = .ok (.iconst 0, 1) := by decide +kernel
theorem dX11_cut_2 : decode cX11_cut 2 = .ok (.iconst 1, 1) := by decide +kernel
theorem dX11_cut_3 : decode cX11_cut 3 = .ok (.invokestatic 90, 3) := by decide +kernel
theorem dX11_cut_6 : decode cX11_cut 6 = .ok (.ifCond .eq 20, 3) := by decide +kernel
theorem dX11_cut_9 : decode cX11_cut 9 = .ok (.iload_n 2, 1) := by decide +kernel
theorem dX11_cut_10 : decode cX11_cut 10 = .ok (.invokestatic 228, 3) := by decide +kernel
theorem dX11_cut_13 : decode cX11_cut 13 = .ok (.ifCond .eq 13, 3) := by decide +kernel
theorem dX11_cut_16 : decode cX11_cut 16 = .ok (.iload_n 3, 1) := by decide +kernel
theorem dX11_cut_17 : decode cX11_cut 17 = .ok (.iconst 0, 1) := by decide +kernel
theorem dX11_cut_18 : decode cX11_cut 18 = .ok (.bipush 63, 2) := by decide +kernel
theorem dX11_cut_20 : decode cX11_cut 20 = .ok (.invokestatic 90, 3) := by decide +kernel
theorem dX11_cut_23 : decode cX11_cut 23 = .ok (.ifCond .ne 5, 3) := by decide +kernel
theorem dX11_cut_26 : decode cX11_cut 26 = .ok (.iconst (-1), 1) := by decide +kernel
theorem dX11_cut_27 : decode cX11_cut 27 = .ok (.ireturn, 1) := by decide +kernel
theorem dX11_cut_28 : decode cX11_cut 28 = .ok (.iconst 0, 1) := by decide +kernel
theorem dX11_cut_29 : decode cX11_cut 29 = .ok (.istore 4, 2) := by decide +kernel
theorem dX11_cut_31 : decode cX11_cut 31 = .ok (.iconst 0, 1) := by decide +kernel
theorem dX11_cut_32 : decode cX11_cut 32 = .ok (.istore 5, 2) := by decide +kernel
theorem dX11_cut_34 : decode cX11_cut 34 = .ok (.iload 5, 2) := by decide +kernel
theorem dX11_cut_36 : decode cX11_cut 36 = .ok (.aload_n 0, 1) := by decide +kernel
theorem dX11_cut_37 : decode cX11_cut 37 = .ok (.getfield 41, 3) := by decide +kernel
theorem dX11_cut_40 : decode cX11_cut 40 = .ok (.getfield 98, 3) := by decide +kernel
theorem dX11_cut_43 : decode cX11_cut 43 = .ok (.if_icmp .ge 45, 3) := by decide +kernel
theorem dX11_cut_46 : decode cX11_cut 46 = .ok (.aload_n 0, 1) := by decide +kernel
theorem dX11_cut_47 : decode cX11_cut 47 = .ok (.getfield 41, 3) := by decide +kernel
theorem dX11_cut_50 : decode cX11_cut 50 = .ok (.aload_n 0, 1) := by decide +kernel
theorem dX11_cut_51 : decode cX11_cut 51 = .ok (.getfield 34, 3) := by decide +kernel
theorem dX11_cut_54 : decode cX11_cut 54 = .ok (.iload 5, 2) := by decide +kernel
theorem dX11_cut_56 : decode cX11_cut 56 = .ok (.iload_n 1, 1) := by decide +kernel
theorem dX11_cut_57 : decode cX11_cut 57 = .ok (.iload_n 2, 1) := by decide +kernel
theorem dX11_cut_58 : decode cX11_cut 58 = .ok (.invokestatic 307, 3) := by decide +kernel
theorem dX11_cut_61 : decode cX11_cut 61 = .ok (.ifCond .ne 21, 3) := by decide +kernel
theorem dX11_cut_64 : decode cX11_cut 64 = .ok (.aload_n 0, 1) := by decide +kernel
theorem dX11_cut_65 : decode cX11_cut 65 = .ok (.getfield 41, 3) := by decide +kernel
theorem dX11_cut_68 : decode cX11_cut 68 = .ok (.iload 5, 2) := by decide +kernel
theorem dX11_cut_70 : decode cX11_cut 70 = .ok (.iload_n 1, 1) := by decide +kernel
theorem dX11_cut_71 : decode cX11_cut 71 = .ok (.iload_n 2, 1) := by decide +kernel
theorem dX11_cut_72 : decode cX11_cut 72 = .ok (.iload_n 3, 1) := by decide +kernel
theorem dX11_cut_73 : decode cX11_cut 73 = .ok (.invokestatic 311, 3) := by decide +kernel
theorem dX11_cut_76 : decode cX11_cut 76 = .ok (.ifCond .eq 6, 3) := by decide +kernel
theorem dX11_cut_79 : decode cX11_cut 79 = .ok (.iinc 4 1, 3) := by decide +kernel
theorem dX11_cut_82 : decode cX11_cut 82 = .ok (.iinc 5 1, 3) := by decide +kernel
theorem dX11_cut_85 : decode cX11_cut 85 = .ok (.goto (-51), 3) := by decide +kernel
theorem dX11_cut_88 : decode cX11_cut 88 = .ok (.iload 4, 2) := by decide +kernel
theorem dX11_cut_90 : decode cX11_cut 90 = .ok (.ireturn, 1) := by decide +kernel
def md_X11_cut : List (Nat × Nat) := [(3, 9), (3, 10), (3, 11), (3, 12), (3, 13), (3, 14), (3, 15), (117, 0)]
set_option maxRecDepth 100000 in
set_option maxHeartbeats 4000000 in
theorem c_X11_cut {l : Launch} {D : q_D} (τ : q_T) (σ : q_V) (a0 : Nat) (x1 : Int32) (x2 : Int32) (x3 : Int32) (hI : q_I τ σ) (tA0 : τ a0 = some (9, 1)) : q_Ci l D yX11_cut cX11_cut 6 (some .int) 6 143 τ σ [.ref a0, .int x1, .int x2, .int x3] (fun r σ1 => q_S md_X11_cut τ σ σ1 ∧ (q_r r (-2147483648) 2147483647)) := by
  refine q_meti rfl (Nat.le_of_ble_eq_true rfl) (fun X hG hE => ?_)
  show q_O X 0 0 τ σ 0 [(0, .ref a0), (1, .int x1), (2, .int x2), (3, .int x3)] []
  have hS0 : q_S md_X11_cut τ σ σ := q_S.rf hI
  refine q_iload_n (pc := 0) hG dX11_cut_0 1 rfl ?_
  refine q_iconst (pc := 1) hG dX11_cut_1 ki_0 ?_
  refine q_iconst (pc := 2) hG dX11_cut_2 ki_1 ?_
  refine q_pS (pc := 3) [.int x1, .int 0, .int 1] [] hG (c_X11_isIn τ σ x1 0 1 hI) my_X11_isIn w238 w237 dX11_cut_3 rfl rfl (Nat.le_of_ble_eq_true rfl) (by decide) (fun v3 p3 => ?_)
  refine q_if_eq (pc := 6) hG 26 dX11_cut_6 rfl ?_ ?_
  · intro c6
    refine q_iconst (pc := 26) hG dX11_cut_26 ki_m1 ?_
    exact q_irt hG hE dX11_cut_27 ⟨hS0, (q_r.mono rl_m1 (by decide))⟩
  intro c6
  have g_1 := p3.2.2.mp (q_one p3.1 c6)
  have r_2 := q_rge (q_r_any x1) rl_0 g_1.1
  refine q_iload_n (pc := 9) hG dX11_cut_9 2 rfl ?_
  refine q_pS (pc := 10) [.int x2] [] hG (c_X11_isEye τ σ x2 hI) my_X11_isEye w568 w567 dX11_cut_10 rfl rfl (Nat.le_of_ble_eq_true rfl) (by decide) (fun v10 p10 => ?_)
  refine q_if_eq (pc := 13) hG 26 dX11_cut_13 rfl ?_ ?_
  · intro c13
    refine q_iconst (pc := 26) hG dX11_cut_26 ki_m1 ?_
    exact q_irt hG hE dX11_cut_27 ⟨hS0, (q_r.mono rl_m1 (by decide))⟩
  intro c13
  have g_3 := p10.2.mp (q_one p10.1 c13)
  have r_4 := q_rge (q_r_any x2) rl_1 (show (1 : Int32).toInt ≤ _ from g_3.1)
  refine q_iload_n (pc := 16) hG dX11_cut_16 3 rfl ?_
  refine q_iconst (pc := 17) hG dX11_cut_17 ki_0 ?_
  refine q_bipush (pc := 18) hG dX11_cut_18 kb_63 ?_
  refine q_pS (pc := 20) [.int x3, .int 0, .int 63] [] hG (c_X11_isIn τ σ x3 0 63 hI) my_X11_isIn w238 w237 dX11_cut_20 rfl rfl (Nat.le_of_ble_eq_true rfl) (by decide) (fun v20 p20 => ?_)
  refine q_if_ne (pc := 23) hG 28 dX11_cut_23 rfl ?_ ?_
  · intro c23
    have g_5 := p20.2.2.mp (q_one p20.1 c23)
    have r_6 := q_rge (q_r_any x3) rl_0 g_5.1
    refine q_iconst (pc := 28) hG dX11_cut_28 ki_0 ?_
    refine q_istore (pc := 29) [(4, .int 0), (0, .ref a0), (1, .int x1), (2, .int x2), (3, .int x3)] hG dX11_cut_29 (by decide) rfl ?_
    refine q_iconst (pc := 31) hG dX11_cut_31 ki_0 ?_
    refine q_istore (pc := 32) [(5, .int 0), (4, .int 0), (0, .ref a0), (1, .int x1), (2, .int x2), (3, .int x3)] hG dX11_cut_32 (by decide) rfl ?_
    have J34 : ∀ (n34 : Nat) (p34_4 : Int32) (p34_5 : Int32) (σ34 : q_V), (q_r p34_5 0 64) → (q_S md_X11_cut τ σ σ34) → ((64 - p34_5.toInt).toNat < n34) → q_O X 0 0 τ σ34 34 [(0, .ref a0), (1, .int x1), (2, .int x2), (3, .int x3), (4, .int p34_4), (5, .int p34_5)] [] := by
      intro n34
      induction n34 with
      | zero => intro p34_4 p34_5 σ34 r34_5 hS34 hm34; exact absurd hm34 (Nat.not_lt_zero _)
      | succ n34 ih34 =>
        intro p34_4 p34_5 σ34 r34_5 hS34 hm34
        refine q_iload (pc := 34) hG dX11_cut_34 5 rfl ?_
        refine q_aload_n (pc := 36) hG dX11_cut_36 0 rfl ?_
        refine q_getR (pc := 37) (k2 := 6) (n2 := 1) hG fl_X11_41 dX11_cut_37 hS34.1 tA0 ff_9_5 (fun b37 f37 T37 => ?_)
        have f_7 := (hS34.2 _ _ _ _ tA0 rfl).symm.trans f37
        refine q_getI (pc := 40) hG fl_X11_98 dX11_cut_40 hS34.1 T37 ff_6_0 (fun v40 f40 g40 => ?_)
        have f_8 := (hS34.2 _ _ _ _ T37 rfl).symm.trans f40
        refine q_icmp_ge (pc := 43) hG 88 dX11_cut_43 rfl ?_ ?_
        · intro c43
          refine q_iload (pc := 88) hG dX11_cut_88 4 rfl ?_
          exact q_irt hG hE dX11_cut_90 ⟨hS34, (q_r_any p34_4)⟩
        intro c43
        refine q_aload_n (pc := 46) hG dX11_cut_46 0 rfl ?_
        refine q_getV (pc := 47) (v := .ref b37) hG fl_X11_41 dX11_cut_47 tA0 (hS34.same tA0 rfl f_7) ?_
        refine q_aload_n (pc := 50) hG dX11_cut_50 0 rfl ?_
        refine q_getR (pc := 51) (k2 := 3) (n2 := 1) hG fl_X11_34 dX11_cut_51 hS34.1 tA0 ff_9_4 (fun b51 f51 T51 => ?_)
        have f_9 := (hS34.2 _ _ _ _ tA0 rfl).symm.trans f51
        refine q_iload (pc := 54) hG dX11_cut_54 5 rfl ?_
        refine q_iload_n (pc := 56) hG dX11_cut_56 1 rfl ?_
        refine q_iload_n (pc := 57) hG dX11_cut_57 2 rfl ?_
        have r_10 := q_rlt r34_5 g40 c43 63 (by decide)
        have r_11 := q_rle r_2 rl_1 g_1.2
        refine q_cSi (pc := 58) [.ref b37, .ref b51, .int p34_5, .int x1, .int x2] [] hG (c_X9_isBroken τ σ34 b37 b51 p34_5 x1 x2 hS34.1 T37 T51 r_10 r_11) my_X9_isBroken w582 w703 dX11_cut_58 rfl rfl (Nat.le_of_ble_eq_true rfl) (by decide) (fun v58 s58 p58 => ?_)
        have w58 := hS34.trans p58.1 rfl
        have J82 : ∀ (p82_4 : Int32), q_O X 0 0 τ s58 82 [(0, .ref a0), (1, .int x1), (2, .int x2), (3, .int x3), (4, .int p82_4), (5, .int p34_5)] [] := by
          intro p82_4
          obtain ⟨v82, e82⟩ : ∃ z : Int32, z = p34_5 + Int32.ofInt 1 := ⟨_, rfl⟩
          have h82 := q_incN (lo := 1) (hi := 64) r_10 (by decide) (by decide) e82
          refine q_iinc (pc := 82) [(5, .int v82), (0, .ref a0), (1, .int x1), (2, .int x2), (3, .int x3), (4, .int p82_4)] hG dX11_cut_82 5 rfl e82 (by decide) rfl ?_
          refine q_goto (pc := 85) 34 hG dX11_cut_85 rfl ?_
          refine q_lv [1, 2, 3, 4, 5, 0] rfl ?_
          exact ih34 p82_4 v82 s58 (q_r.mono h82.2 (by decide)) w58 (q_measU hm34 (by have o0 := c43; have o1 := h82.1; have o2 := r_10; have o3 := g40; have o4 := h82.2; unfold q_r at o2 o3 o4; omega) (h82.2).2)
        refine q_if_ne (pc := 61) hG 82 dX11_cut_61 rfl ?_ ?_
        · intro c61
          refine q_lv [0, 1, 2, 3, 4, 5] rfl ?_
          exact J82 p34_4
        intro c61
        refine q_aload_n (pc := 64) hG dX11_cut_64 0 rfl ?_
        refine q_getV (pc := 65) (v := .ref b37) hG fl_X11_41 dX11_cut_65 tA0 (w58.same tA0 rfl f_7) ?_
        refine q_iload (pc := 68) hG dX11_cut_68 5 rfl ?_
        refine q_iload_n (pc := 70) hG dX11_cut_70 1 rfl ?_
        refine q_iload_n (pc := 71) hG dX11_cut_71 2 rfl ?_
        refine q_iload_n (pc := 72) hG dX11_cut_72 3 rfl ?_
        refine q_pS (pc := 73) [.ref b37, .int p34_5, .int x1, .int x2, .int x3] [] hG (c_X9_suffices τ s58 b37 p34_5 x1 x2 x3 w58.1 T37 r_10 r_11) my_X9_suffices w586 w704 dX11_cut_73 rfl rfl (Nat.le_of_ble_eq_true rfl) (by decide) (fun v73 p73 => ?_)
        refine q_if_eq (pc := 76) hG 82 dX11_cut_76 rfl ?_ ?_
        · intro c76
          refine q_lv [0, 1, 2, 3, 4, 5] rfl ?_
          exact J82 p34_4
        intro c76
        obtain ⟨v79, e79⟩ : ∃ z : Int32, z = p34_4 + Int32.ofInt 1 := ⟨_, rfl⟩
        refine q_iinc (pc := 79) [(4, .int v79), (0, .ref a0), (1, .int x1), (2, .int x2), (3, .int x3), (5, .int p34_5)] hG dX11_cut_79 4 rfl e79 (by decide) rfl ?_
        refine q_lv [1, 2, 3, 4, 0, 5] rfl ?_
        exact J82 v79
    refine q_lv [2, 3, 4, 5, 1, 0] rfl ?_
    exact J34 _ 0 0 σ (q_r.mono rl_0 (by decide)) hS0 (Nat.lt_succ_self _)
  intro c23
  refine q_iconst (pc := 26) hG dX11_cut_26 ki_m1 ?_
  exact q_irt hG hE dX11_cut_27 ⟨hS0, (q_r.mono rl_m1 (by decide))⟩
theorem dX11_renewed_0 : decode cX11_renewed 0 = .ok (.iload_n 1, 1) := by decide +kernel
theorem dX11_renewed_1 : decode cX11_renewed 1 = .ok (.iconst 1, 1) := by decide +kernel
theorem dX11_renewed_2 : decode cX11_renewed 2 = .ok (.iconst 4, 1) := by decide +kernel
theorem dX11_renewed_3 : decode cX11_renewed 3 = .ok (.invokestatic 90, 3) := by decide +kernel
theorem dX11_renewed_6 : decode cX11_renewed 6 = .ok (.ifCond .eq 30, 3) := by decide +kernel
theorem dX11_renewed_9 : decode cX11_renewed 9 = .ok (.iload_n 2, 1) := by decide +kernel
theorem dX11_renewed_10 : decode cX11_renewed 10 = .ok (.iconst 1, 1) := by decide +kernel
theorem dX11_renewed_11 : decode cX11_renewed 11 = .ok (.bipush 16, 2) := by decide +kernel
theorem dX11_renewed_13 : decode cX11_renewed 13 = .ok (.invokestatic 90, 3) := by decide +kernel
theorem dX11_renewed_16 : decode cX11_renewed 16 = .ok (.ifCond .eq 20, 3) := by decide +kernel
theorem dX11_renewed_19 : decode cX11_renewed 19 = .ok (.iload_n 3, 1) := by decide +kernel
theorem dX11_renewed_20 : decode cX11_renewed 20 = .ok (.bipush 10, 2) := by decide +kernel
theorem dX11_renewed_22 : decode cX11_renewed 22 = .ok (.if_icmp .eq 16, 3) := by decide +kernel
theorem dX11_renewed_25 : decode cX11_renewed 25 = .ok (.iload_n 3, 1) := by decide +kernel
theorem dX11_renewed_26 : decode cX11_renewed 26 = .ok (.iconst 0, 1) := by decide +kernel
theorem dX11_renewed_27 : decode cX11_renewed 27 = .ok (.iload_n 1, 1) := by decide +kernel
theorem dX11_renewed_28 : decode cX11_renewed 28 = .ok (.iconst 1, 1) := by decide +kernel
theorem dX11_renewed_29 : decode cX11_renewed 29 = .ok (.isub, 1) := by decide +kernel
theorem dX11_renewed_30 : decode cX11_renewed 30 = .ok (.invokestatic 90, 3) := by decide +kernel
theorem dX11_renewed_33 : decode cX11_renewed 33 = .ok (.ifCond .ne 5, 3) := by decide +kernel
theorem dX11_renewed_36 : decode cX11_renewed 36 = .ok (.iconst (-1), 1) := by decide +kernel
theorem dX11_renewed_37 : decode cX11_renewed 37 = .ok (.ireturn, 1) := by decide +kernel
theorem dX11_renewed_38 : decode cX11_renewed 38 = .ok (.iload_n 1, 1) := by decide +kernel
theorem dX11_renewed_39 : decode cX11_renewed 39 = .ok (.iload_n 2, 1) := by decide +kernel
theorem dX11_renewed_40 : decode cX11_renewed 40 = .ok (.imul, 1) := by decide +kernel
theorem dX11_renewed_41 : decode cX11_renewed 41 = .ok (.aload_n 0, 1) := by decide +kernel
theorem dX11_renewed_42 : decode cX11_renewed 42 = .ok (.getfield 41, 3) := by decide +kernel
theorem dX11_renewed_45 : decode cX11_renewed 45 = .ok (.getfield 98, 3) := by decide +kernel
theorem dX11_renewed_48 : decode cX11_renewed 48 = .ok (.if_icmp .le 6, 3) := by decide +kernel
theorem dX11_renewed_51 : decode cX11_renewed 51 = .ok (.bipush (-2), 2) := by decide +kernel
theorem dX11_renewed_53 : decode cX11_renewed 53 = .ok (.ireturn, 1) := by decide +kernel
theorem dX11_renewed_54 : decode cX11_renewed 54 = .ok (.aload_n 0, 1) := by decide +kernel
theorem dX11_renewed_55 : decode cX11_renewed 55 = .ok (.getfield 79, 3) := by decide +kernel
theorem dX11_renewed_58 : decode cX11_renewed 58 = .ok (.aload_n 0, 1) := by decide +kernel
theorem dX11_renewed_59 : decode cX11_renewed 59 = .ok (.getfield 41, 3) := by decide +kernel
theorem dX11_renewed_62 : decode cX11_renewed 62 = .ok (.iload_n 1, 1) := by decide +kernel
theorem dX11_renewed_63 : decode cX11_renewed 63 = .ok (.iload_n 2, 1) := by decide +kernel
theorem dX11_renewed_64 : decode cX11_renewed 64 = .ok (.invokevirtual 315, 3) := by decide +kernel
theorem dX11_renewed_67 : decode cX11_renewed 67 = .ok (.istore 4, 2) := by decide +kernel
theorem dX11_renewed_69 : decode cX11_renewed 69 = .ok (.iload_n 3, 1) := by decide +kernel
theorem dX11_renewed_70 : decode cX11_renewed 70 = .ok (.bipush 10, 2) := by decide +kernel
theorem dX11_renewed_72 : decode cX11_renewed 72 = .ok (.if_icmp .ne 8, 3) := by decide +kernel
theorem dX11_renewed_75 : decode cX11_renewed 75 = .ok (.iload 4, 2) := by decide +kernel
theorem dX11_renewed_77 : decode cX11_renewed 77 = .ok (.goto 12, 3) := by decide +kernel
theorem dX11_renewed_80 : decode cX11_renewed 80 = .ok (.aload_n 0, 1) := by decide +kernel
theorem dX11_renewed_81 : decode cX11_renewed 81 = .ok (.getfield 79, 3) := by decide +kernel
theorem dX11_renewed_84 : decode cX11_renewed 84 = .ok (.getfield 319, 3) := by decide +kernel
theorem dX11_renewed_87 : decode cX11_renewed 87 = .ok (.iload_n 3, 1) := by decide +kernel
theorem dX11_renewed_88 : decode cX11_renewed 88 = .ok (.iaload, 1) := by decide +kernel
theorem dX11_renewed_89 : decode cX11_renewed 89 = .ok (.ireturn, 1) := by decide +kernel
def md_X11_renewed : List (Nat × Nat) := [(140, 0), (141, 0)]
set_option maxRecDepth 100000 in
set_option maxHeartbeats 4000000 in
theorem c_X11_renewed {l : Launch} {D : q_D} (τ : q_T) (σ : q_V) (a0 : Nat) (x1 : Int32) (x2 : Int32) (x3 : Int32) (hI : q_I τ σ) (tA0 : τ a0 = some (9, 1)) : q_Ci l D yX11_renewed cX11_renewed 5 (some .int) 3 78 τ σ [.ref a0, .int x1, .int x2, .int x3] (fun r σ1 => q_S md_X11_renewed τ σ σ1 ∧ (q_r r (-2147483648) 2147483647)) := by
  refine q_meti rfl (Nat.le_of_ble_eq_true rfl) (fun X hG hE => ?_)
  show q_O X 0 0 τ σ 0 [(0, .ref a0), (1, .int x1), (2, .int x2), (3, .int x3)] []
  have hS0 : q_S md_X11_renewed τ σ σ := q_S.rf hI
  refine q_iload_n (pc := 0) hG dX11_renewed_0 1 rfl ?_
  refine q_iconst (pc := 1) hG dX11_renewed_1 ki_1 ?_
  refine q_iconst (pc := 2) hG dX11_renewed_2 ki_4 ?_
  refine q_pS (pc := 3) [.int x1, .int 1, .int 4] [] hG (c_X11_isIn τ σ x1 1 4 hI) my_X11_isIn w238 w237 dX11_renewed_3 rfl rfl (Nat.le_of_ble_eq_true rfl) (by decide) (fun v3 p3 => ?_)
  refine q_if_eq (pc := 6) hG 36 dX11_renewed_6 rfl ?_ ?_
  · intro c6
    refine q_iconst (pc := 36) hG dX11_renewed_36 ki_m1 ?_
    exact q_irt hG hE dX11_renewed_37 ⟨hS0, (q_r.mono rl_m1 (by decide))⟩
  intro c6
  have g_1 := p3.2.2.mp (q_one p3.1 c6)
  have r_2 := q_rge (q_r_any x1) rl_1 g_1.1
  refine q_iload_n (pc := 9) hG dX11_renewed_9 2 rfl ?_
  refine q_iconst (pc := 10) hG dX11_renewed_10 ki_1 ?_
  refine q_bipush (pc := 11) hG dX11_renewed_11 kb_16 ?_
  refine q_pS (pc := 13) [.int x2, .int 1, .int 16] [] hG (c_X11_isIn τ σ x2 1 16 hI) my_X11_isIn w238 w237 dX11_renewed_13 rfl rfl (Nat.le_of_ble_eq_true rfl) (by decide) (fun v13 p13 => ?_)
  refine q_if_eq (pc := 16) hG 36 dX11_renewed_16 rfl ?_ ?_
  · intro c16
    refine q_iconst (pc := 36) hG dX11_renewed_36 ki_m1 ?_
    exact q_irt hG hE dX11_renewed_37 ⟨hS0, (q_r.mono rl_m1 (by decide))⟩
  intro c16
  have g_3 := p13.2.2.mp (q_one p13.1 c16)
  have r_4 := q_rge (q_r_any x2) rl_1 g_3.1
  refine q_iload_n (pc := 19) hG dX11_renewed_19 3 rfl ?_
  refine q_bipush (pc := 20) hG dX11_renewed_20 kb_10 ?_
  have J38 : (x3.toInt = 10 ∨ (0 ≤ x3.toInt ∧ x3.toInt ≤ 3)) → q_O X 0 0 τ σ 38 [(0, .ref a0), (1, .int x1), (2, .int x2), (3, .int x3)] [] := by
    intro iA38
    refine q_iload_n (pc := 38) hG dX11_renewed_38 1 rfl ?_
    refine q_iload_n (pc := 39) hG dX11_renewed_39 2 rfl ?_
    refine q_imul (pc := 40) hG dX11_renewed_40 (fun v40 e40 => ?_)
    have r_5 := q_rle r_2 rl_4 g_1.2
    have r_6 := q_rle r_4 rl_16 g_3.2
    refine q_aload_n (pc := 41) hG dX11_renewed_41 0 rfl ?_
    refine q_getR (pc := 42) (k2 := 6) (n2 := 1) hG fl_X11_41 dX11_renewed_42 hI tA0 ff_9_5 (fun b42 f42 T42 => ?_)
    refine q_getI (pc := 45) hG fl_X11_98 dX11_renewed_45 hI T42 ff_6_0 (fun v45 f45 g45 => ?_)
    refine q_icmp_le (pc := 48) hG 54 dX11_renewed_48 rfl ?_ ?_
    · intro c48
      have r_7 := (q_mulN (lo := 1) (hi := 64) e40 r_5 r_6 (by decide)).2
      refine q_aload_n (pc := 54) hG dX11_renewed_54 0 rfl ?_
      refine q_getR (pc := 55) (k2 := 8) (n2 := 1) hG fl_X11_79 dX11_renewed_55 hI tA0 ff_9_12 (fun b55 f55 T55 => ?_)
      refine q_aload_n (pc := 58) hG dX11_renewed_58 0 rfl ?_
      refine q_getV (pc := 59) (v := .ref b42) hG fl_X11_41 dX11_renewed_59 tA0 f42 ?_
      refine q_iload_n (pc := 62) hG dX11_renewed_62 1 rfl ?_
      refine q_iload_n (pc := 63) hG dX11_renewed_63 2 rfl ?_
      refine q_cVi (pc := 64) [.ref b42, .int x1, .int x2] [] hG (c_X10_choose τ σ b55 b42 x1 x2 hI T55 T42 r_5 r_6) my_X10_choose mv_X10_choose w709 dX11_renewed_64 T55 (by decide) rfl rfl (Nat.le_of_ble_eq_true rfl) (by decide) (fun v64 s64 p64 => ?_)
      have w64 := hS0.trans p64.1 rfl
      refine q_istore (pc := 67) [(4, .int v64), (0, .ref a0), (1, .int x1), (2, .int x2), (3, .int x3)] hG dX11_renewed_67 (by decide) rfl ?_
      refine q_iload_n (pc := 69) hG dX11_renewed_69 4 rfl ?_
      refine q_bipush (pc := 70) hG dX11_renewed_70 kb_10 ?_
      refine q_icmp_ne (pc := 72) hG 80 dX11_renewed_72 rfl ?_ ?_
      · intro c72
        refine q_aload_n (pc := 80) hG dX11_renewed_80 1 rfl ?_
        refine q_getV (pc := 81) (v := .ref b55) hG fl_X11_79 dX11_renewed_81 tA0 (w64.same tA0 rfl f55) ?_
        refine q_getR (pc := 84) (k2 := 141) (n2 := 4) hG fl_X11_319 dX11_renewed_84 w64.1 T55 ff_8_1 (fun b84 f84 T84 => ?_)
        have f_8 := (w64.2 _ _ _ _ T55 rfl).symm.trans f84
        refine q_iload_n (pc := 87) hG dX11_renewed_87 4 rfl ?_
        refine q_iald (pc := 88) hG dX11_renewed_88 w64.1 ai_141 T84 (by have o0 := iA38; have o1 := (q_mulN (lo := 1) (hi := 64) e40 r_5 r_6 (by decide)).1; have o2 := c48; have o3 := c72; have o4 := g_1.1; have o5 := g_1.2; have o6 := g_3.1; have o7 := g_3.2; have o8 := r_7; have o9 := g45; have o10 := r_5; have o11 := r_6; have l12 := tl_1; have l13 := tl_4; have l14 := tl_10; have l15 := tl_16; unfold q_r at o8 o9 o10 o11; omega) (fun v88 f88 g88 => ?_)
        exact q_irt hG hE dX11_renewed_89 ⟨w64, g88⟩
      intro c72
      refine q_iload (pc := 75) hG dX11_renewed_75 0 rfl ?_
      refine q_goto (pc := 77) 89 hG dX11_renewed_77 rfl ?_
      exact q_irt hG hE dX11_renewed_89 ⟨w64, p64.2⟩
    intro c48
    have r_9 := (q_mulN (lo := 1) (hi := 64) e40 r_5 r_6 (by decide)).2
    refine q_bipush (pc := 51) hG dX11_renewed_51 kb_m2 ?_
    exact q_irt hG hE dX11_renewed_53 ⟨hS0, (q_r.mono rl_m2 (by decide))⟩
  refine q_icmp_eq (pc := 22) hG 38 dX11_renewed_22 rfl ?_ ?_
  · intro c22
    refine q_lv [0, 1, 2, 3] rfl ?_
    have r_10 := q_rle r_2 rl_4 g_1.2
    have r_11 := q_req rl_10 c22
    exact J38 (by have o0 := g_1.1; have o1 := g_1.2; have o2 := c22; have o3 := r_10; have o4 := r_11; have l5 := tl_1; have l6 := tl_4; have l7 := tl_10; unfold q_r at o3 o4; omega)
  intro c22
  refine q_iload_n (pc := 25) hG dX11_renewed_25 3 rfl ?_
  refine q_iconst (pc := 26) hG dX11_renewed_26 ki_0 ?_
  refine q_iload_n (pc := 27) hG dX11_renewed_27 1 rfl ?_
  refine q_iconst (pc := 28) hG dX11_renewed_28 ki_1 ?_
  refine q_isub (pc := 29) hG dX11_renewed_29 (fun v29 e29 => ?_)
  have r_12 := q_rle r_2 rl_4 g_1.2
  refine q_pS (pc := 30) [.int x3, .int 0, .int v29] [] hG (c_X11_isIn τ σ x3 0 v29 hI) my_X11_isIn w238 w237 dX11_renewed_30 rfl rfl (Nat.le_of_ble_eq_true rfl) (by decide) (fun v30 p30 => ?_)
  refine q_if_ne (pc := 33) hG 38 dX11_renewed_33 rfl ?_ ?_
  · intro c33
    have g_13 := p30.2.2.mp (q_one p30.1 c33)
    have r_14 := q_rge (q_r_any x3) rl_0 g_13.1
    have r_15 := (q_subN (lo := 0) (hi := 3) e29 r_12 rl_1 (by decide)).2
    refine q_lv [0, 1, 2, 3] rfl ?_
    have r_16 := q_rle r_14 r_15 g_13.2
    exact J38 (by have o0 := g_1.1; have o1 := g_1.2; have o2 := c22; have o3 := (q_subN (lo := 0) (hi := 3) e29 r_12 rl_1 (by decide)).1; have o4 := g_13.1; have o5 := g_13.2; have o6 := r_15; have o7 := r_12; have o8 := r_16; have l9 := tl_0; have l10 := tl_1; have l11 := tl_4; have l12 := tl_10; unfold q_r at o6 o7 o8; omega)
  intro c33
  refine q_iconst (pc := 36) hG dX11_renewed_36 ki_m1 ?_
  exact q_irt hG hE dX11_renewed_37 ⟨hS0, (q_r.mono rl_m1 (by decide))⟩
theorem dX11_who_0 : decode cX11_who 0 = .ok (.iload_n 1, 1) := by decide +kernel
theorem dX11_who_1 : decode cX11_who 1 = .ok (.iconst 0, 1) := by decide +kernel
theorem dX11_who_2 : decode cX11_who 2 = .ok (.iconst 2, 1) := by decide +kernel
theorem dX11_who_3 : decode cX11_who 3 = .ok (.invokestatic 90, 3) := by decide +kernel
theorem dX11_who_6 : decode cX11_who 6 = .ok (.ifCond .ne 5, 3) := by decide +kernel
theorem dX11_who_9 : decode cX11_who 9 = .ok (.iconst (-1), 1) := by decide +kernel
theorem dX11_who_10 : decode cX11_who 10 = .ok (.ireturn, 1) := by decide +kernel
theorem dX11_who_11 : decode cX11_who 11 = .ok (.aload_n 0, 1) := by decide +kernel
theorem dX11_who_12 : decode cX11_who 12 = .ok (.getfield 72, 3) := by decide +kernel
theorem dX11_who_15 : decode cX11_who 15 = .ok (.aload_n 0, 1) := by decide +kernel
theorem dX11_who_16 : decode cX11_who 16 = .ok (.getfield 41, 3) := by decide +kernel
theorem dX11_who_19 : decode cX11_who 19 = .ok (.invokevirtual 322, 3) := by decide +kernel
theorem dX11_who_22 : decode cX11_who 22 = .ok (.iload_n 1, 1) := by decide +kernel
theorem dX11_who_23 : decode cX11_who 23 = .ok (.lookupswitch 41 #[(0, 25), (1, 33)], 25) := by decide +kernel
theorem dX11_who_48 : decode cX11_who 48 = .ok (.aload_n 0, 1) := by decide +kernel
theorem dX11_who_49 : decode cX11_who 49 = .ok (.getfield 72, 3) := by decide +kernel
theorem dX11_who_52 : decode cX11_who 52 = .ok (.getfield 325, 3) := by decide +kernel
theorem dX11_who_55 : decode cX11_who 55 = .ok (.ireturn, 1) := by decide +kernel
theorem dX11_who_56 : decode cX11_who 56 = .ok (.aload_n 0, 1) := by decide +kernel
theorem dX11_who_57 : decode cX11_who 57 = .ok (.getfield 72, 3) := by decide +kernel
theorem dX11_who_60 : decode cX11_who 60 = .ok (.getfield 328, 3) := by decide +kernel
theorem dX11_who_63 : decode cX11_who 63 = .ok (.ireturn, 1) := by decide +kernel
theorem dX11_who_64 : decode cX11_who 64 = .ok (.aload_n 0, 1) := by decide +kernel
theorem dX11_who_65 : decode cX11_who 65 = .ok (.getfield 72, 3) := by decide +kernel
theorem dX11_who_68 : decode cX11_who 68 = .ok (.getfield 331, 3) := by decide +kernel
theorem dX11_who_71 : decode cX11_who 71 = .ok (.ireturn, 1) := by decide +kernel
def md_X11_who : List (Nat × Nat) := [(0, 1), (0, 2), (0, 3)]
set_option maxRecDepth 100000 in
set_option maxHeartbeats 4000000 in
theorem c_X11_who {l : Launch} {D : q_D} (τ : q_T) (σ : q_V) (a0 : Nat) (x1 : Int32) (hI : q_I τ σ) (tA0 : τ a0 = some (9, 1)) : q_Ci l D yX11_who cX11_who 2 (some .int) 6 139 τ σ [.ref a0, .int x1] (fun r σ1 => q_S md_X11_who τ σ σ1 ∧ (q_r r (-2147483648) 2147483647) ∧ ((r.toInt, fx_N σ1) = f_X11_who (fx_N σ) a0 x1.toInt)) := by
  refine q_meti rfl (Nat.le_of_ble_eq_true rfl) (fun X hG hE => ?_)
  show q_O X 0 0 τ σ 0 [(0, .ref a0), (1, .int x1)] []
  have hS0 : q_S md_X11_who τ σ σ := q_S.rf hI
  obtain ⟨Fv, hF⟩ : ∃ z, fx_eq z (f_X11_who (fx_N σ) a0 x1.toInt) := ⟨_, fx_rf⟩
  have hF0 := hF
  unfold f_X11_who at hF
  refine q_iload_n (pc := 0) hG dX11_who_0 1 rfl ?_
  refine q_iconst (pc := 1) hG dX11_who_1 ki_0 ?_
  refine q_iconst (pc := 2) hG dX11_who_2 ki_2 ?_
  refine q_pS (pc := 3) [.int x1, .int 0, .int 2] [] hG (c_X11_isIn τ σ x1 0 2 hI) my_X11_isIn w238 w237 dX11_who_3 rfl rfl (Nat.le_of_ble_eq_true rfl) (by decide) (fun v3 p3 => ?_)
  have fq3 := p3.2.1
  rewrite [tl_0, tl_2] at fq3
  replace hF := fx_E hF fq3
  refine q_if_ne (pc := 6) hG 11 dX11_who_6 rfl ?_ ?_
  · intro c6
    have g_1 := p3.2.2.mp (q_one p3.1 c6)
    have r_2 := q_rge (q_r_any x1) rl_0 g_1.1
    replace hF := fx_eq2 hF rfl rfl c6
    refine q_aload_n (pc := 11) hG dX11_who_11 0 rfl ?_
    refine q_getR (pc := 12) (k2 := 0) (n2 := 1) hG fl_X11_72 dX11_who_12 hI tA0 ff_9_11 (fun b12 f12 T12 => ?_)
    replace hF := fx_R hF f12 rfl
    refine q_aload_n (pc := 15) hG dX11_who_15 0 rfl ?_
    refine q_getR (pc := 16) (k2 := 6) (n2 := 1) hG fl_X11_41 dX11_who_16 hI tA0 ff_9_5 (fun b16 f16 T16 => ?_)
    replace hF := fx_R hF f16 rfl
    refine q_cVv (pc := 19) [.ref b16] [] hG (c_X0_suspect τ σ b12 b16 hI T12 T16) my_X0_suspect mv_X0_suspect w724 dX11_who_19 T12 (by decide) rfl rfl (Nat.le_of_ble_eq_true rfl) (by decide) (fun s19 p19 => ?_)
    have w19 := hS0.trans p19.1 rfl
    replace hF := fx_S hF p19.2
    refine q_iload_n (pc := 22) hG dX11_who_22 1 rfl ?_
    by_cases z23_0 : x1.toInt = 0
    · skip
      replace hF := fx_eq1 hF rfl rfl z23_0
      refine q_ls (pc := 23) (off := 25) 48 hG dX11_who_23 rfl (by rw [z23_0]; rfl) rfl ?_
      refine q_aload_n (pc := 48) hG dX11_who_48 0 rfl ?_
      refine q_getV (pc := 49) (v := .ref b12) hG fl_X11_72 dX11_who_49 tA0 (w19.same tA0 rfl f12) ?_
      refine q_getI (pc := 52) hG fl_X11_325 dX11_who_52 w19.1 T12 ff_0_1 (fun v52 f52 g52 => ?_)
      replace hF := fx_I hF f52 rfl
      exact q_irt hG hE dX11_who_55 ⟨w19, g52, (fx_end hF hF0)⟩
    by_cases z23_1 : x1.toInt = 1
    · skip
      replace hF := fx_eq2 hF rfl rfl z23_0
      replace hF := fx_eq1 hF rfl rfl z23_1
      refine q_ls (pc := 23) (off := 33) 56 hG dX11_who_23 rfl (by rw [z23_1]; rfl) rfl ?_
      refine q_aload_n (pc := 56) hG dX11_who_56 0 rfl ?_
      refine q_getV (pc := 57) (v := .ref b12) hG fl_X11_72 dX11_who_57 tA0 (w19.same tA0 rfl f12) ?_
      refine q_getI (pc := 60) hG fl_X11_328 dX11_who_60 w19.1 T12 ff_0_2 (fun v60 f60 g60 => ?_)
      replace hF := fx_I hF f60 rfl
      exact q_irt hG hE dX11_who_63 ⟨w19, g60, (fx_end hF hF0)⟩
    replace hF := fx_eq2 hF rfl rfl z23_0
    replace hF := fx_eq2 hF rfl rfl z23_1
    refine q_ls (pc := 23) (off := 41) 64 hG dX11_who_23 rfl (by show Op.lookupswitch.offset [(0, 25), (1, 33)] 41 _ = _; rw [Op.lookupswitch.offset_cons, if_neg (fun q => z23_0 q.symm), Op.lookupswitch.offset_cons, if_neg (fun q => z23_1 q.symm), Op.lookupswitch.offset_nil]) rfl ?_
    refine q_aload_n (pc := 64) hG dX11_who_64 0 rfl ?_
    refine q_getV (pc := 65) (v := .ref b12) hG fl_X11_72 dX11_who_65 tA0 (w19.same tA0 rfl f12) ?_
    refine q_getI (pc := 68) hG fl_X11_331 dX11_who_68 w19.1 T12 ff_0_3 (fun v68 f68 g68 => ?_)
    replace hF := fx_I hF f68 rfl
    exact q_irt hG hE dX11_who_71 ⟨w19, g68, (fx_end hF hF0)⟩
  intro c6
  replace hF := fx_eq1 hF rfl rfl c6
  refine q_iconst (pc := 9) hG dX11_who_9 ki_m1 ?_
  exact q_irt hG hE dX11_who_10 ⟨hS0, (q_r.mono rl_m1 (by decide)), (by rw [tl_m1]; exact fx_end hF hF0)⟩
theorem dX11_keep_0 : decode cX11_keep 0 = .ok (.aload_n 0, 1) := by decide +kernel
theorem dX11_keep_1 : decode cX11_keep 1 = .ok (.getfield 45, 3) := by decide +kernel
theorem dX11_keep_4 : decode cX11_keep 4 = .ok (.aload_n 0, 1) := by decide +kernel
theorem dX11_keep_5 : decode cX11_keep 5 = .ok (.getfield 41, 3) := by decide +kernel
theorem dX11_keep_8 : decode cX11_keep 8 = .ok (.invokevirtual 167, 3) := by decide +kernel
theorem dX11_keep_11 : decode cX11_keep 11 = .ok (.aload_n 0, 1) := by decide +kernel
theorem dX11_keep_12 : decode cX11_keep 12 = .ok (.iconst 1, 1) := by decide +kernel
theorem dX11_keep_13 : decode cX11_keep 13 = .ok (.putfield 51, 3) := by decide +kernel
theorem dX11_keep_16 : decode cX11_keep 16 = .ok (.aload_n 0, 1) := by decide +kernel
theorem dX11_keep_17 : decode cX11_keep 17 = .ok (.getfield 41, 3) := by decide +kernel
theorem dX11_keep_20 : decode cX11_keep 20 = .ok (.invokevirtual 171, 3) := by decide +kernel
theorem dX11_keep_23 : decode cX11_keep 23 = .ok (.ireturn, 1) := by decide +kernel
def md_X11_keep : List (Nat × Nat) := [(6, 0), (6, 15), (6, 16), (6, 17), (9, 8), (118, 0), (119, 0), (120, 0), (121, 0), (122, 0), (123, 0), (124, 0), (125, 0), (126, 0), (127, 0), (128, 0), (210, 0)]
set_option maxRecDepth 100000 in
set_option maxHeartbeats 4000000 in
theorem c_X11_keep {l : Launch} {D : q_D} (τ : q_T) (σ : q_V) (a0 : Nat) (hI : q_I τ σ) (tA0 : τ a0 = some (9, 1)) : q_Ci l D yX11_keep cX11_keep 1 (some .int) 2 48 τ σ [.ref a0] (fun r σ1 => q_S md_X11_keep τ σ σ1 ∧ (q_r r (-2147483648) 2147483647) ∧ ((r.toInt, fx_N σ1) = f_X11_keep (fx_N σ) a0) ∧ (σ1 a0 8 = .int 1) ∧ (∀ br bk : Nat, σ a0 5 = .ref br → σ a0 6 = .ref bk → σ1 bk 0 = σ br 0 ∧ ∀ b : Nat, b ≠ bk → τ b = some (6, 1) → σ1 b 0 = σ b 0) ∧ (∀ br bk c0 c1 c2 d0 d1 d2 : Nat, σ a0 5 = .ref br → σ a0 6 = .ref bk → σ bk 1 = .ref c0 → σ bk 2 = .ref c1 → σ bk 3 = .ref c2 → σ br 1 = .ref d0 → σ br 2 = .ref d1 → σ br 3 = .ref d2 → zz_rx τ σ σ1 c0 c1 c2 ∧ (zz_a6 c0 c1 c2 d0 d1 d2 → zz_rc σ σ1 c0 c1 c2 d0 d1 d2))) := by
  refine q_meti rfl (Nat.le_of_ble_eq_true rfl) (fun X hG hE => ?_)
  show q_O X 0 0 τ σ 0 [(0, .ref a0)] []
  have hS0 : q_S md_X11_keep τ σ σ := q_S.rf hI
  obtain ⟨Fv, hF⟩ : ∃ z, fx_eq z (f_X11_keep (fx_N σ) a0) := ⟨_, fx_rf⟩
  have hF0 := hF
  unfold f_X11_keep at hF
  obtain ⟨q_1b, q_1f, q_1T⟩ := (hI a0 9 1 tA0 5 (by decide)).ref (k := 6) (n := 1) rfl
  replace hF := fx_R hF q_1f rfl
  obtain ⟨q_2b, q_2f, q_2T⟩ := (hI a0 9 1 tA0 6 (by decide)).ref (k := 6) (n := 1) rfl
  replace hF := fx_R hF q_2f rfl
  refine q_aload_n (pc := 0) hG dX11_keep_0 0 rfl ?_
  refine q_getV (pc := 1) (v := .ref q_2b) hG fl_X11_45 dX11_keep_1 tA0 q_2f ?_
  refine q_aload_n (pc := 4) hG dX11_keep_4 0 rfl ?_
  refine q_getV (pc := 5) (v := .ref q_1b) hG fl_X11_41 dX11_keep_5 tA0 q_1f ?_
  refine q_cVv (pc := 8) [.ref q_1b] [] hG (c_X7_copyFrom τ σ q_2b q_1b hI q_2T q_1T) my_X7_copyFrom mv_X7_copyFrom w488 dX11_keep_8 q_2T (by decide) rfl rfl (Nat.le_of_ble_eq_true rfl) (by decide) (fun s8 p8 => ?_)
  have w8 := hS0.trans p8.1 rfl
  replace hF := fx_S hF p8.2.1
  refine q_aload_n (pc := 11) hG dX11_keep_11 0 rfl ?_
  refine q_iconst (pc := 12) hG dX11_keep_12 ki_1 ?_
  refine q_putZ (pc := 13) hG fl_X11_51 dX11_keep_13 w8 tA0 ff_9_8 (q_r.mono rl_1 (by decide)) (by decide) rfl (fun s13 u13 w13 => ?_)
  replace hF := fx_P hF u13 rfl tl_1
  have m13 : s13 a0 8 = .int 1 := by rw [u13]; exact q_up_same
  refine q_aload_n (pc := 16) hG dX11_keep_16 0 rfl ?_
  refine q_getV (pc := 17) (v := .ref q_1b) hG fl_X11_41 dX11_keep_17 tA0 (w13.same tA0 rfl q_1f) ?_
  refine q_pV (pc := 20) [] [] hG (c_X7_paintedDots τ s13 q_1b w13.1 q_1T) my_X7_paintedDots mv_X7_paintedDots w495 dX11_keep_20 q_1T (by decide) rfl rfl (Nat.le_of_ble_eq_true rfl) (by decide) (fun v20 p20 => ?_)
  replace hF := fx_E hF p20.2
  exact q_irt hG hE dX11_keep_23 ⟨w13, p20.1, (fx_end hF hF0), m13, (fun br bk hbr hbk => by cases hbr.symm.trans q_1f; cases hbk.symm.trans q_2f; exact ⟨(by rw [u13, q_keepK q_2T tA0 (by decide)]; exact p8.2.2.1), fun b hb hT => (by rw [u13, q_keepK hT tA0 (by decide)]; exact p8.2.2.2.1 b hb hT)⟩), (fun br bk c0 c1 c2 d0 d1 d2 hbr hbk h0 h1 h2 g0 g1 g2 => by cases hbr.symm.trans q_1f; cases hbk.symm.trans q_2f; exact ⟨(zz_rx.S (p8.2.2.2.2 c0 c1 c2 d0 d1 d2 h0 h1 h2 g0 g1 g2).1 (fun _ hc => (zz_sP u13 tA0 (by decide) hc))), fun ap => (zz_rc.S ((p8.2.2.2.2 c0 c1 c2 d0 d1 d2 h0 h1 h2 g0 g1 g2).2 ap) (zz_sP u13 tA0 (by decide) (zz_refT hI q_2T (j := 1) (by decide) h0 rfl)) (zz_sP u13 tA0 (by decide) (zz_refT hI q_2T (j := 2) (by decide) h1 rfl)) (zz_sP u13 tA0 (by decide) (zz_refT hI q_2T (j := 3) (by decide) h2 rfl)))⟩)⟩
theorem dX11_undo_0 : decode cX11_undo 0 = .ok (.aload_n 0, 1) := by decide +kernel
theorem dX11_undo_1 : decode cX11_undo 1 = .ok (.getfield 51, 3) := by decide +kernel
theorem dX11_undo_4 : decode cX11_undo 4 = .ok (.ifCond .ne 5, 3) := by decide +kernel
theorem dX11_undo_7 : decode cX11_undo 7 = .ok (.iconst 0, 1) := by decide +kernel
theorem dX11_undo_8 : decode cX11_undo 8 = .ok (.ireturn, 1) := by decide +kernel
theorem dX11_undo_9 : decode cX11_undo 9 = .ok (.aload_n 0, 1) := by decide +kernel
theorem dX11_undo_10 : decode cX11_undo 10 = .ok (.getfield 41, 3) := by decide +kernel
theorem dX11_undo_13 : decode cX11_undo 13 = .ok (.aload_n 0, 1) := by decide +kernel
theorem dX11_undo_14 : decode cX11_undo 14 = .ok (.getfield 45, 3) := by decide +kernel
theorem dX11_undo_17 : decode cX11_undo 17 = .ok (.invokevirtual 167, 3) := by decide +kernel
theorem dX11_undo_20 : decode cX11_undo 20 = .ok (.iconst 1, 1) := by decide +kernel
theorem dX11_undo_21 : decode cX11_undo 21 = .ok (.ireturn, 1) := by decide +kernel
def md_X11_undo : List (Nat × Nat) := [(6, 0), (6, 15), (6, 16), (6, 17), (118, 0), (119, 0), (120, 0), (121, 0), (122, 0), (123, 0), (124, 0), (125, 0), (126, 0), (127, 0), (128, 0), (210, 0)]
set_option maxRecDepth 100000 in
set_option maxHeartbeats 4000000 in
theorem c_X11_undo {l : Launch} {D : q_D} (τ : q_T) (σ : q_V) (a0 : Nat) (hI : q_I τ σ) (tA0 : τ a0 = some (9, 1)) : q_Ci l D yX11_undo cX11_undo 1 (some .boolean) 2 48 τ σ [.ref a0] (fun r σ1 => q_S md_X11_undo τ σ σ1 ∧ (q_r r 0 1) ∧ ((r.toInt, fx_N σ1) = f_X11_undo (fx_N σ) a0) ∧ (∀ k : Int32, σ a0 8 = .int k → (r.toInt = 1 ↔ k.toInt ≠ 0)) ∧ (∀ br bk : Nat, σ a0 5 = .ref br → σ a0 6 = .ref bk → (r.toInt = 1 → σ1 br 0 = σ bk 0) ∧ (r.toInt = 0 → σ1 br 0 = σ br 0) ∧ ∀ b : Nat, b ≠ br → τ b = some (6, 1) → σ1 b 0 = σ b 0) ∧ (∀ br bk c0 c1 c2 d0 d1 d2 : Nat, σ a0 5 = .ref br → σ a0 6 = .ref bk → σ br 1 = .ref c0 → σ br 2 = .ref c1 → σ br 3 = .ref c2 → σ bk 1 = .ref d0 → σ bk 2 = .ref d1 → σ bk 3 = .ref d2 → (r.toInt = 1 → zz_rx τ σ σ1 c0 c1 c2 ∧ (zz_a6 c0 c1 c2 d0 d1 d2 → zz_rc σ σ1 c0 c1 c2 d0 d1 d2)) ∧ (r.toInt = 0 → ∀ c : Nat, τ c = some (118, 64) → σ1 c = σ c))) := by
  refine q_meti rfl (Nat.le_of_ble_eq_true rfl) (fun X hG hE => ?_)
  show q_O X 0 0 τ σ 0 [(0, .ref a0)] []
  have hS0 : q_S md_X11_undo τ σ σ := q_S.rf hI
  obtain ⟨Fv, hF⟩ : ∃ z, fx_eq z (f_X11_undo (fx_N σ) a0) := ⟨_, fx_rf⟩
  have hF0 := hF
  unfold f_X11_undo at hF
  obtain ⟨q_1v, q_1f, q_1r⟩ := (hI a0 9 1 tA0 8 (by decide)).int ff_9_8
  replace hF := fx_I hF q_1f rfl
  obtain ⟨q_2b, q_2f, q_2T⟩ := (hI a0 9 1 tA0 5 (by decide)).ref (k := 6) (n := 1) rfl
  replace hF := fx_R hF q_2f rfl
  obtain ⟨q_3b, q_3f, q_3T⟩ := (hI a0 9 1 tA0 6 (by decide)).ref (k := 6) (n := 1) rfl
  replace hF := fx_R hF q_3f rfl
  refine q_aload_n (pc := 0) hG dX11_undo_0 0 rfl ?_
  refine q_getV (pc := 1) (v := .int q_1v) hG fl_X11_51 dX11_undo_1 tA0 q_1f ?_
  refine q_if_ne (pc := 4) hG 9 dX11_undo_4 rfl ?_ ?_
  · intro c4
    replace hF := fx_eq2 hF rfl rfl c4
    refine q_aload_n (pc := 9) hG dX11_undo_9 0 rfl ?_
    refine q_getV (pc := 10) (v := .ref q_2b) hG fl_X11_41 dX11_undo_10 tA0 q_2f ?_
    refine q_aload_n (pc := 13) hG dX11_undo_13 0 rfl ?_
    refine q_getV (pc := 14) (v := .ref q_3b) hG fl_X11_45 dX11_undo_14 tA0 q_3f ?_
    refine q_cVv (pc := 17) [.ref q_3b] [] hG (c_X7_copyFrom τ σ q_2b q_3b hI q_2T q_3T) my_X7_copyFrom mv_X7_copyFrom w488 dX11_undo_17 q_2T (by decide) rfl rfl (Nat.le_of_ble_eq_true rfl) (by decide) (fun s17 p17 => ?_)
    have w17 := hS0.trans p17.1 rfl
    replace hF := fx_S hF p17.2.1
    refine q_iconst (pc := 20) hG dX11_undo_20 ki_1 ?_
    have r_4 := q_neL (c := 1) q_1r c4 (by decide)
    exact q_zrt hG hE dX11_undo_21 (q_r.mono rl_1 (by decide)) ⟨w17, (q_r.mono rl_1 (by decide)), (by rw [tl_1]; exact fx_end hF hF0), (fun k e => by have q := e.symm.trans q_1f; cases q; exact (by have o0 := c4; have o1 := r_4; have l2 := tl_1; unfold q_r at o1; omega)), (fun br bk hbr hbk => by cases hbr.symm.trans q_2f; cases hbk.symm.trans q_3f; exact ⟨fun _ => (by exact p17.2.2.1), fun q => absurd q (by have l0 := tl_1; omega), fun b hb hT => (by exact p17.2.2.2.1 b hb hT)⟩), (fun br bk c0 c1 c2 d0 d1 d2 hbr hbk h0 h1 h2 g0 g1 g2 => by cases hbr.symm.trans q_2f; cases hbk.symm.trans q_3f; exact ⟨fun _ => p17.2.2.2.2 c0 c1 c2 d0 d1 d2 h0 h1 h2 g0 g1 g2, fun q => absurd q (by have l0 := tl_1; omega)⟩)⟩
  intro c4
  replace hF := fx_eq1 hF rfl rfl c4
  refine q_iconst (pc := 7) hG dX11_undo_7 ki_0 ?_
  have r_5 := q_zeq c4
  exact q_zrt hG hE dX11_undo_8 (q_r.mono rl_0 (by decide)) ⟨hS0, (q_r.mono rl_0 (by decide)), (by rw [tl_0]; exact fx_end hF hF0), (fun k e => by have q := e.symm.trans q_1f; cases q; exact (by have o0 := c4; have o1 := r_5; have l2 := tl_0; unfold q_r at o1; omega)), (fun br bk hbr hbk => by cases hbr.symm.trans q_2f; cases hbk.symm.trans q_3f; exact ⟨fun q => absurd q (by have l0 := tl_0; omega), fun _ => rfl, fun _ _ _ => rfl⟩), (fun br bk c0 c1 c2 d0 d1 d2 hbr hbk h0 h1 h2 g0 g1 g2 => by cases hbr.symm.trans q_2f; cases hbk.symm.trans q_3f; exact ⟨fun q => absurd q (by have l0 := tl_0; omega), fun _ => (fun c hc => rfl)⟩)⟩
theorem dX11_check_0 : decode cX11_check 0 = .ok (.iload_n 1, 1) := by decide +kernel
theorem dX11_check_1 : decode cX11_check 1 = .ok (.iconst 0, 1) := by decide +kernel
theorem dX11_check_2 : decode cX11_check 2 = .ok (.aload_n 0, 1) := by decide +kernel
theorem dX11_check_3 : decode cX11_check 3 = .ok (.getfield 41, 3) := by decide +kernel
theorem dX11_check_6 : decode cX11_check 6 = .ok (.getfield 98, 3) := by decide +kernel
theorem dX11_check_9 : decode cX11_check 9 = .ok (.invokestatic 90, 3) := by decide +kernel
theorem dX11_check_12 : decode cX11_check 12 = .ok (.ifCond .eq 11, 3) := by decide +kernel
theorem dX11_check_15 : decode cX11_check 15 = .ok (.iload_n 1, 1) := by decide +kernel
theorem dX11_check_16 : decode cX11_check 16 = .ok (.aload_n 0, 1) := by decide +kernel
theorem dX11_check_17 : decode cX11_check 17 = .ok (.getfield 13, 3) := by decide +kernel
theorem dX11_check_20 : decode cX11_check 20 = .ok (.if_icmp .le 6, 3) := by decide +kernel
theorem dX11_check_23 : decode cX11_check 23 = .ok (.bipush (-2), 2) := by decide +kernel
theorem dX11_check_25 : decode cX11_check 25 = .ok (.ireturn, 1) := by decide +kernel
theorem dX11_check_26 : decode cX11_check 26 = .ok (.aload_n 0, 1) := by decide +kernel
theorem dX11_check_27 : decode cX11_check 27 = .ok (.iconst 0, 1) := by decide +kernel
theorem dX11_check_28 : decode cX11_check 28 = .ok (.putfield 13, 3) := by decide +kernel
theorem dX11_check_31 : decode cX11_check 31 = .ok (.iconst 0, 1) := by decide +kernel
theorem dX11_check_32 : decode cX11_check 32 = .ok (.istore_n 2, 1) := by decide +kernel
theorem dX11_check_33 : decode cX11_check 33 = .ok (.iload_n 2, 1) := by decide +kernel
theorem dX11_check_34 : decode cX11_check 34 = .ok (.iload_n 1, 1) := by decide +kernel
theorem dX11_check_35 : decode cX11_check 35 = .ok (.if_icmp .ge 49, 3) := by decide +kernel
theorem dX11_check_38 : decode cX11_check 38 = .ok (.aload_n 0, 1) := by decide +kernel
theorem dX11_check_39 : decode cX11_check 39 = .ok (.getfield 41, 3) := by decide +kernel
theorem dX11_check_42 : decode cX11_check 42 = .ok (.iload_n 2, 1) := by decide +kernel
theorem dX11_check_43 : decode cX11_check 43 = .ok (.invokevirtual 157, 3) := by decide +kernel
theorem dX11_check_46 : decode cX11_check 46 = .ok (.ifCond .eq 18, 3) := by decide +kernel
theorem dX11_check_49 : decode cX11_check 49 = .ok (.aload_n 0, 1) := by decide +kernel
theorem dX11_check_50 : decode cX11_check 50 = .ok (.getfield 41, 3) := by decide +kernel
theorem dX11_check_53 : decode cX11_check 53 = .ok (.getfield 200, 3) := by decide +kernel
theorem dX11_check_56 : decode cX11_check 56 = .ok (.iload_n 2, 1) := by decide +kernel
theorem dX11_check_57 : decode cX11_check 57 = .ok (.iaload, 1) := by decide +kernel
theorem dX11_check_58 : decode cX11_check 58 = .ok (.bipush 100, 2) := by decide +kernel
theorem dX11_check_60 : decode cX11_check 60 = .ok (.iadd, 1) := by decide +kernel
theorem dX11_check_61 : decode cX11_check 61 = .ok (.goto 4, 3) := by decide +kernel
theorem dX11_check_64 : decode cX11_check 64 = .ok (.iconst 0, 1) := by decide +kernel
theorem dX11_check_65 : decode cX11_check 65 = .ok (.istore_n 3, 1) := by decide +kernel
theorem dX11_check_66 : decode cX11_check 66 = .ok (.aload_n 0, 1) := by decide +kernel
theorem dX11_check_67 : decode cX11_check 67 = .ok (.getfield 9, 3) := by decide +kernel
theorem dX11_check_70 : decode cX11_check 70 = .ok (.iload_n 2, 1) := by decide +kernel
theorem dX11_check_71 : decode cX11_check 71 = .ok (.iaload, 1) := by decide +kernel
theorem dX11_check_72 : decode cX11_check 72 = .ok (.iload_n 3, 1) := by decide +kernel
theorem dX11_check_73 : decode cX11_check 73 = .ok (.if_icmp .eq 5, 3) := by decide +kernel
theorem dX11_check_76 : decode cX11_check 76 = .ok (.iload_n 2, 1) := by decide +kernel
theorem dX11_check_77 : decode cX11_check 77 = .ok (.ireturn, 1) := by decide +kernel
theorem dX11_check_78 : decode cX11_check 78 = .ok (.iinc 2 1, 3) := by decide +kernel
theorem dX11_check_81 : decode cX11_check 81 = .ok (.goto (-48), 3) := by decide +kernel
theorem dX11_check_84 : decode cX11_check 84 = .ok (.iconst (-1), 1) := by decide +kernel
theorem dX11_check_85 : decode cX11_check 85 = .ok (.ireturn, 1) := by decide +kernel
def md_X11_check : List (Nat × Nat) := [(9, 1)]
set_option maxRecDepth 100000 in
set_option maxHeartbeats 4000000 in
theorem c_X11_check {l : Launch} {D : q_D} (τ : q_T) (σ : q_V) (a0 : Nat) (x1 : Int32) (hI : q_I τ σ) (tA0 : τ a0 = some (9, 1)) : q_Ci l D yX11_check cX11_check 4 (some .int) 1 22 τ σ [.ref a0, .int x1] (fun r σ1 => q_S md_X11_check τ σ σ1 ∧ (q_r r (-2) 63) ∧ (∀ t : Int32, σ a0 1 = .int t → ∀ (bd : Nat) (dd : Int32), σ a0 5 = .ref bd → σ bd 0 = .int dd → ∃ z : Int32, σ1 a0 1 = .int z ∧ (((0 ≤ x1.toInt ∧ x1.toInt ≤ dd.toInt) ∧ x1.toInt ≤ t.toInt) → z.toInt = 0) ∧ (¬ ((0 ≤ x1.toInt ∧ x1.toInt ≤ dd.toInt) ∧ x1.toInt ≤ t.toInt) → z.toInt = t.toInt))) := by
  refine q_meti rfl (Nat.le_of_ble_eq_true rfl) (fun X hG hE => ?_)
  show q_O X 0 0 τ σ 0 [(0, .ref a0), (1, .int x1)] []
  have hS0 : q_S md_X11_check τ σ σ := q_S.rf hI
  obtain ⟨q_1v, q_1f, q_1r⟩ := (hI a0 9 1 tA0 1 (by decide)).int ff_9_1
  obtain ⟨q_2b, q_2f, q_2T⟩ := (hI a0 9 1 tA0 5 (by decide)).ref (k := 6) (n := 1) rfl
  obtain ⟨q_3v, q_3f, q_3r⟩ := (hI q_2b 6 1 q_2T 0 (by decide)).int ff_6_0
  refine q_iload_n (pc := 0) hG dX11_check_0 1 rfl ?_
  refine q_iconst (pc := 1) hG dX11_check_1 ki_0 ?_
  refine q_aload_n (pc := 2) hG dX11_check_2 0 rfl ?_
  refine q_getV (pc := 3) (v := .ref q_2b) hG fl_X11_41 dX11_check_3 tA0 q_2f ?_
  refine q_getV (pc := 6) (v := .int q_3v) hG fl_X11_98 dX11_check_6 q_2T q_3f ?_
  refine q_pS (pc := 9) [.int x1, .int 0, .int q_3v] [] hG (c_X11_isIn τ σ x1 0 q_3v hI) my_X11_isIn w238 w237 dX11_check_9 rfl rfl (Nat.le_of_ble_eq_true rfl) (by decide) (fun v9 p9 => ?_)
  refine q_if_eq (pc := 12) hG 23 dX11_check_12 rfl ?_ ?_
  · intro c12
    refine q_bipush (pc := 23) hG dX11_check_23 kb_m2 ?_
    have r_4 := q_zeq c12
    exact q_irt hG hE dX11_check_25 ⟨hS0, (q_r.mono rl_m2 (by decide)), (fun t e bd dd e1 e2 => by cases e.symm.trans q_1f; cases e1.symm.trans q_2f; cases e2.symm.trans q_3f; exact ⟨q_1v, q_1f, (by have o0 := p9.2.2; have o1 := c12; have o2 := q_1r; have o3 := q_3r; have o4 := r_4; have l5 := tl_m2; have l6 := tl_0; unfold q_r at o2 o3 o4; omega)⟩)⟩
  intro c12
  have g_5 := p9.2.2.mp (q_one p9.1 c12)
  have r_6 := q_rge (q_r_any x1) rl_0 g_5.1
  refine q_iload_n (pc := 15) hG dX11_check_15 1 rfl ?_
  refine q_aload_n (pc := 16) hG dX11_check_16 0 rfl ?_
  refine q_getV (pc := 17) (v := .int q_1v) hG fl_X11_13 dX11_check_17 tA0 q_1f ?_
  refine q_icmp_le (pc := 20) hG 26 dX11_check_20 rfl ?_ ?_
  · intro c20
    have r_7 := q_rle r_6 q_3r g_5.2
    refine q_aload_n (pc := 26) hG dX11_check_26 0 rfl ?_
    refine q_iconst (pc := 27) hG dX11_check_27 ki_0 ?_
    refine q_putI (pc := 28) hG fl_X11_13 dX11_check_28 hS0 tA0 ff_9_1 rl_0 (by decide) rfl (fun s28 u28 w28 => ?_)
    have m28 : s28 a0 1 = .int 0 := by rw [u28]; exact q_up_same
    refine q_iconst (pc := 31) hG dX11_check_31 ki_0 ?_
    refine q_istore_n (pc := 32) [(2, .int 0), (0, .ref a0), (1, .int x1)] hG dX11_check_32 (by decide) rfl ?_
    have J33 : ∀ (n33 : Nat) (p33_2 : Int32), (q_r p33_2 0 64) → ((64 - p33_2.toInt).toNat < n33) → q_O X 0 0 τ s28 33 [(0, .ref a0), (1, .int x1), (2, .int p33_2)] [] := by
      intro n33
      induction n33 with
      | zero => intro p33_2 r33_2 hm33; exact absurd hm33 (Nat.not_lt_zero _)
      | succ n33 ih33 =>
        intro p33_2 r33_2 hm33
        refine q_iload_n (pc := 33) hG dX11_check_33 2 rfl ?_
        refine q_iload_n (pc := 34) hG dX11_check_34 1 rfl ?_
        refine q_icmp_ge (pc := 35) hG 84 dX11_check_35 rfl ?_ ?_
        · intro c35
          refine q_iconst (pc := 84) hG dX11_check_84 ki_m1 ?_
          have r_8 := q_neL (c := 1) p9.1 c12 (by decide)
          exact q_irt hG hE dX11_check_85 ⟨w28, (q_r.mono rl_m1 (by decide)), (fun t e bd dd e1 e2 => by cases e.symm.trans q_1f; cases e1.symm.trans q_2f; cases e2.symm.trans q_3f; exact ⟨0, m28, (by have o0 := p9.2.2; have o1 := c12; have o2 := g_5.1; have o3 := g_5.2; have o4 := c20; have o5 := c35; have o6 := r33_2; have o7 := q_1r; have o8 := q_3r; have o9 := r_8; have o10 := r_7; have l11 := tl_m1; have l12 := tl_0; unfold q_r at o6 o7 o8 o9 o10; omega)⟩)⟩
        intro c35
        refine q_aload_n (pc := 38) hG dX11_check_38 0 rfl ?_
        refine q_getV (pc := 39) (v := .ref q_2b) hG fl_X11_41 dX11_check_39 tA0 (w28.same tA0 rfl q_2f) ?_
        refine q_iload_n (pc := 42) hG dX11_check_42 2 rfl ?_
        have r_9 := q_rlt r33_2 r_7 c35 63 (by decide)
        refine q_pV (pc := 43) [.int p33_2] [] hG (c_X7_isPainted τ s28 q_2b p33_2 w28.1 q_2T r_9) my_X7_isPainted mv_X7_isPainted w392 dX11_check_43 q_2T (by decide) rfl rfl (Nat.le_of_ble_eq_true rfl) (by decide) (fun v43 p43 => ?_)
        have J65 : ∀ (p65_s0 : Int32), q_O X 0 0 τ s28 65 [(0, .ref a0), (1, .int x1), (2, .int p33_2)] [.int p65_s0] := by
          intro p65_s0
          refine q_istore_n (pc := 65) [(3, .int p65_s0), (0, .ref a0), (1, .int x1), (2, .int p33_2)] hG dX11_check_65 (by decide) rfl ?_
          refine q_aload_n (pc := 66) hG dX11_check_66 1 rfl ?_
          refine q_getR (pc := 67) (k2 := 110) (n2 := 260) hG fl_X11_9 dX11_check_67 w28.1 tA0 ff_9_0 (fun b67 f67 T67 => ?_)
          have f_10 := (w28.2 _ _ _ _ tA0 rfl).symm.trans f67
          refine q_iload_n (pc := 70) hG dX11_check_70 3 rfl ?_
          refine q_iald (pc := 71) hG dX11_check_71 w28.1 ai_110 T67 (q_ix r_9 (by decide)) (fun v71 f71 g71 => ?_)
          have f_11 := (w28.2 _ _ _ _ T67 rfl).symm.trans f71
          refine q_iload_n (pc := 72) hG dX11_check_72 0 rfl ?_
          refine q_icmp_eq (pc := 73) hG 78 dX11_check_73 rfl ?_ ?_
          · intro c73
            obtain ⟨v78, e78⟩ : ∃ z : Int32, z = p33_2 + Int32.ofInt 1 := ⟨_, rfl⟩
            have h78 := q_incN (lo := 1) (hi := 64) r_9 (by decide) (by decide) e78
            refine q_iinc (pc := 78) [(2, .int v78), (3, .int p65_s0), (0, .ref a0), (1, .int x1)] hG dX11_check_78 3 rfl e78 (by decide) rfl ?_
            refine q_goto (pc := 81) 33 hG dX11_check_81 rfl ?_
            refine q_lv [2, 3, 0] rfl ?_
            have r_12 := q_neL (c := 1) p9.1 c12 (by decide)
            have r_13 := q_rgt r_7 r33_2 c35 1 (by decide)
            exact ih33 v78 (q_r.mono h78.2 (by decide)) (q_measU hm33 (by have o0 := c35; have o1 := h78.1; have o2 := p9.2.2; have o3 := c12; have o4 := g_5.1; have o5 := g_5.2; have o6 := c20; have o7 := r_9; have o8 := q_1r; have o9 := q_3r; have o10 := h78.2; have o11 := r_12; have o12 := r_13; have l13 := tl_0; unfold q_r at o7 o8 o9 o10 o11 o12; omega) (h78.2).2)
          intro c73
          refine q_iload_n (pc := 76) hG dX11_check_76 3 rfl ?_
          have r_14 := q_neL (c := 1) p9.1 c12 (by decide)
          have r_15 := q_rgt r_7 r33_2 c35 1 (by decide)
          exact q_irt hG hE dX11_check_77 ⟨w28, (q_r.mono r_9 (by decide)), (fun t e bd dd e1 e2 => by cases e.symm.trans q_1f; cases e1.symm.trans q_2f; cases e2.symm.trans q_3f; exact ⟨0, m28, (by have o0 := p9.2.2; have o1 := c12; have o2 := g_5.1; have o3 := g_5.2; have o4 := c20; have o5 := c35; have o6 := r_9; have o7 := q_1r; have o8 := q_3r; have o9 := r_14; have o10 := r_15; have l11 := tl_0; unfold q_r at o6 o7 o8 o9 o10; omega)⟩)⟩
        refine q_if_eq (pc := 46) hG 64 dX11_check_46 rfl ?_ ?_
        · intro c46
          refine q_iconst (pc := 64) hG dX11_check_64 ki_0 ?_
          refine q_lv [0, 1, 2] rfl ?_
          exact J65 0
        intro c46
        refine q_aload_n (pc := 49) hG dX11_check_49 0 rfl ?_
        refine q_getV (pc := 50) (v := .ref q_2b) hG fl_X11_41 dX11_check_50 tA0 (w28.same tA0 rfl q_2f) ?_
        refine q_getR (pc := 53) (k2 := 120) (n2 := 64) hG fl_X11_200 dX11_check_53 w28.1 q_2T ff_6_5 (fun b53 f53 T53 => ?_)
        have f_16 := (w28.2 _ _ _ _ q_2T rfl).symm.trans f53
        refine q_iload_n (pc := 56) hG dX11_check_56 2 rfl ?_
        refine q_iald (pc := 57) hG dX11_check_57 w28.1 ai_120 T53 (q_ix r_9 (by decide)) (fun v57 f57 g57 => ?_)
        have f_17 := (w28.2 _ _ _ _ T53 rfl).symm.trans f57
        refine q_bipush (pc := 58) hG dX11_check_58 kb_100 ?_
        refine q_iadd (pc := 60) hG dX11_check_60 (fun v60 e60 => ?_)
        refine q_goto (pc := 61) 65 hG dX11_check_61 rfl ?_
        refine q_lv [0, 1, 2] rfl ?_
        exact J65 v60
    refine q_lv [1, 2, 0] rfl ?_
    exact J33 _ 0 (q_r.mono rl_0 (by decide)) (Nat.lt_succ_self _)
  intro c20
  have r_18 := q_rle r_6 q_3r g_5.2
  refine q_bipush (pc := 23) hG dX11_check_23 kb_m2 ?_
  have r_19 := q_rlt q_1r r_18 c20 63 (by decide)
  have r_20 := q_neL (c := 1) p9.1 c12 (by decide)
  have r_21 := q_rgt r_18 q_1r c20 1 (by decide)
  exact q_irt hG hE dX11_check_25 ⟨hS0, (q_r.mono rl_m2 (by decide)), (fun t e bd dd e1 e2 => by cases e.symm.trans q_1f; cases e1.symm.trans q_2f; cases e2.symm.trans q_3f; exact ⟨q_1v, q_1f, (by have o0 := p9.2.2; have o1 := c12; have o2 := g_5.1; have o3 := g_5.2; have o4 := c20; have o5 := r_19; have o6 := q_3r; have o7 := r_20; have o8 := r_21; have l9 := tl_m2; have l10 := tl_0; unfold q_r at o5 o6 o7 o8; omega)⟩)⟩
theorem dX11_count_0 : decode cX11_count 0 = .ok (.iload_n 1, 1) := by decide +kernel
theorem dX11_count_1 : decode cX11_count 1 = .ok (.bipush 10, 2) := by decide +kernel
theorem dX11_count_3 : decode cX11_count 3 = .ok (.bipush 11, 2) := by decide +kernel
theorem dX11_count_5 : decode cX11_count 5 = .ok (.invokestatic 90, 3) := by decide +kernel
theorem dX11_count_8 : decode cX11_count 8 = .ok (.ifCond .eq 24, 3) := by decide +kernel
theorem dX11_count_11 : decode cX11_count 11 = .ok (.aload_n 0, 1) := by decide +kernel
theorem dX11_count_12 : decode cX11_count 12 = .ok (.getfield 41, 3) := by decide +kernel
theorem dX11_count_15 : decode cX11_count 15 = .ok (.getfield 138, 3) := by decide +kernel
theorem dX11_count_18 : decode cX11_count 18 = .ok (.iload_n 1, 1) := by decide +kernel
theorem dX11_count_19 : decode cX11_count 19 = .ok (.bipush 10, 2) := by decide +kernel
theorem dX11_count_21 : decode cX11_count 21 = .ok (.isub, 1) := by decide +kernel
theorem dX11_count_22 : decode cX11_count 22 = .ok (.baload, 1) := by decide +kernel
theorem dX11_count_23 : decode cX11_count 23 = .ok (.ifCond .eq 7, 3) := by decide +kernel
theorem dX11_count_26 : decode cX11_count 26 = .ok (.iconst 1, 1) := by decide +kernel
theorem dX11_count_27 : decode cX11_count 27 = .ok (.goto 4, 3) := by decide +kernel
theorem dX11_count_30 : decode cX11_count 30 = .ok (.iconst 0, 1) := by decide +kernel
theorem dX11_count_31 : decode cX11_count 31 = .ok (.ireturn, 1) := by decide +kernel
theorem dX11_count_32 : decode cX11_count 32 = .ok (.iload_n 1, 1) := by decide +kernel
theorem dX11_count_33 : decode cX11_count 33 = .ok (.bipush 20, 2) := by decide +kernel
theorem dX11_count_35 : decode cX11_count 35 = .ok (.bipush 21, 2) := by decide +kernel
theorem dX11_count_37 : decode cX11_count 37 = .ok (.invokestatic 90, 3) := by decide +kernel
theorem dX11_count_40 : decode cX11_count 40 = .ok (.ifCond .eq 19, 3) := by decide +kernel
theorem dX11_count_43 : decode cX11_count 43 = .ok (.aload_n 0, 1) := by decide +kernel
theorem dX11_count_44 : decode cX11_count 44 = .ok (.getfield 41, 3) := by decide +kernel
theorem dX11_count_47 : decode cX11_count 47 = .ok (.getfield 142, 3) := by decide +kernel
theorem dX11_count_50 : decode cX11_count 50 = .ok (.iload_n 1, 1) := by decide +kernel
theorem dX11_count_51 : decode cX11_count 51 = .ok (.bipush 20, 2) := by decide +kernel
theorem dX11_count_53 : decode cX11_count 53 = .ok (.isub, 1) := by decide +kernel
theorem dX11_count_54 : decode cX11_count 54 = .ok (.iaload, 1) := by decide +kernel
theorem dX11_count_55 : decode cX11_count 55 = .ok (.bipush 100, 2) := by decide +kernel
theorem dX11_count_57 : decode cX11_count 57 = .ok (.iadd, 1) := by decide +kernel
theorem dX11_count_58 : decode cX11_count 58 = .ok (.ireturn, 1) := by decide +kernel
theorem dX11_count_59 : decode cX11_count 59 = .ok (.iload_n 1, 1) := by decide +kernel
theorem dX11_count_60 : decode cX11_count 60 = .ok (.bipush 30, 2) := by decide +kernel
theorem dX11_count_62 : decode cX11_count 62 = .ok (.bipush 41, 2) := by decide +kernel
theorem dX11_count_64 : decode cX11_count 64 = .ok (.invokestatic 90, 3) := by decide +kernel
theorem dX11_count_67 : decode cX11_count 67 = .ok (.ifCond .eq 16, 3) := by decide +kernel
theorem dX11_count_70 : decode cX11_count 70 = .ok (.aload_n 0, 1) := by decide +kernel
theorem dX11_count_71 : decode cX11_count 71 = .ok (.getfield 41, 3) := by decide +kernel
theorem dX11_count_74 : decode cX11_count 74 = .ok (.getfield 145, 3) := by decide +kernel
theorem dX11_count_77 : decode cX11_count 77 = .ok (.iload_n 1, 1) := by decide +kernel
theorem dX11_count_78 : decode cX11_count 78 = .ok (.bipush 30, 2) := by decide +kernel
theorem dX11_count_80 : decode cX11_count 80 = .ok (.isub, 1) := by decide +kernel
theorem dX11_count_81 : decode cX11_count 81 = .ok (.iaload, 1) := by decide +kernel
theorem dX11_count_82 : decode cX11_count 82 = .ok (.ireturn, 1) := by decide +kernel
theorem dX11_count_83 : decode cX11_count 83 = .ok (.iload_n 1, 1) := by decide +kernel
theorem dX11_count_84 : decode cX11_count 84 = .ok (.bipush 50, 2) := by decide +kernel
theorem dX11_count_86 : decode cX11_count 86 = .ok (.bipush 61, 2) := by decide +kernel
theorem dX11_count_88 : decode cX11_count 88 = .ok (.invokestatic 90, 3) := by decide +kernel
theorem dX11_count_91 : decode cX11_count 91 = .ok (.ifCond .eq 16, 3) := by decide +kernel
theorem dX11_count_94 : decode cX11_count 94 = .ok (.aload_n 0, 1) := by decide +kernel
theorem dX11_count_95 : decode cX11_count 95 = .ok (.getfield 41, 3) := by decide +kernel
theorem dX11_count_98 : decode cX11_count 98 = .ok (.getfield 148, 3) := by decide +kernel
theorem dX11_count_101 : decode cX11_count 101 = .ok (.iload_n 1, 1) := by decide +kernel
theorem dX11_count_102 : decode cX11_count 102 = .ok (.bipush 50, 2) := by decide +kernel
theorem dX11_count_104 : decode cX11_count 104 = .ok (.isub, 1) := by decide +kernel
theorem dX11_count_105 : decode cX11_count 105 = .ok (.iaload, 1) := by decide +kernel
theorem dX11_count_106 : decode cX11_count 106 = .ok (.ireturn, 1) := by decide +kernel
theorem dX11_count_107 : decode cX11_count 107 = .ok (.iload_n 1, 1) := by decide +kernel
theorem dX11_count_108 : decode cX11_count 108 = .ok (.tableswitch 125 0 7 #[48, 56, 64, 72, 80, 88, 112, 120], 48) := by decide +kernel
theorem dX11_count_156 : decode cX11_count 156 = .ok (.aload_n 0, 1) := by decide +kernel
theorem dX11_count_157 : decode cX11_count 157 = .ok (.getfield 41, 3) := by decide +kernel
theorem dX11_count_160 : decode cX11_count 160 = .ok (.getfield 98, 3) := by decide +kernel
theorem dX11_count_163 : decode cX11_count 163 = .ok (.ireturn, 1) := by decide +kernel
theorem dX11_count_164 : decode cX11_count 164 = .ok (.aload_n 0, 1) := by decide +kernel
theorem dX11_count_165 : decode cX11_count 165 = .ok (.getfield 41, 3) := by decide +kernel
theorem dX11_count_168 : decode cX11_count 168 = .ok (.getfield 334, 3) := by decide +kernel
theorem dX11_count_171 : decode cX11_count 171 = .ok (.ireturn, 1) := by decide +kernel
theorem dX11_count_172 : decode cX11_count 172 = .ok (.aload_n 0, 1) := by decide +kernel
theorem dX11_count_173 : decode cX11_count 173 = .ok (.getfield 41, 3) := by decide +kernel
theorem dX11_count_176 : decode cX11_count 176 = .ok (.invokevirtual 171, 3) := by decide +kernel
theorem dX11_count_179 : decode cX11_count 179 = .ok (.ireturn, 1) := by decide +kernel
theorem dX11_count_180 : decode cX11_count 180 = .ok (.aload_n 0, 1) := by decide +kernel
theorem dX11_count_181 : decode cX11_count 181 = .ok (.getfield 41, 3) := by decide +kernel
theorem dX11_count_184 : decode cX11_count 184 = .ok (.invokevirtual 175, 3) := by decide +kernel
theorem dX11_count_187 : decode cX11_count 187 = .ok (.ireturn, 1) := by decide +kernel
theorem dX11_count_188 : decode cX11_count 188 = .ok (.aload_n 0, 1) := by decide +kernel
theorem dX11_count_189 : decode cX11_count 189 = .ok (.getfield 41, 3) := by decide +kernel
theorem dX11_count_192 : decode cX11_count 192 = .ok (.getfield 151, 3) := by decide +kernel
theorem dX11_count_195 : decode cX11_count 195 = .ok (.ireturn, 1) := by decide +kernel
theorem dX11_count_196 : decode cX11_count 196 = .ok (.aload_n 0, 1) := by decide +kernel
theorem dX11_count_197 : decode cX11_count 197 = .ok (.getfield 41, 3) := by decide +kernel
theorem dX11_count_200 : decode cX11_count 200 = .ok (.getfield 154, 3) := by decide +kernel
theorem dX11_count_203 : decode cX11_count 203 = .ok (.iconst (-1), 1) := by decide +kernel
theorem dX11_count_204 : decode cX11_count 204 = .ok (.if_icmp .ne 8, 3) := by decide +kernel
theorem dX11_count_207 : decode cX11_count 207 = .ok (.bipush (-2), 2) := by decide +kernel
theorem dX11_count_209 : decode cX11_count 209 = .ok (.goto 10, 3) := by decide +kernel
theorem dX11_count_212 : decode cX11_count 212 = .ok (.aload_n 0, 1) := by decide +kernel
theorem dX11_count_213 : decode cX11_count 213 = .ok (.getfield 41, 3) := by decide +kernel
theorem dX11_count_216 : decode cX11_count 216 = .ok (.getfield 154, 3) := by decide +kernel
theorem dX11_count_219 : decode cX11_count 219 = .ok (.ireturn, 1) := by decide +kernel
theorem dX11_count_220 : decode cX11_count 220 = .ok (.aload_n 0, 1) := by decide +kernel
theorem dX11_count_221 : decode cX11_count 221 = .ok (.getfield 34, 3) := by decide +kernel
theorem dX11_count_224 : decode cX11_count 224 = .ok (.getfield 129, 3) := by decide +kernel
theorem dX11_count_227 : decode cX11_count 227 = .ok (.ireturn, 1) := by decide +kernel
theorem dX11_count_228 : decode cX11_count 228 = .ok (.aload_n 0, 1) := by decide +kernel
theorem dX11_count_229 : decode cX11_count 229 = .ok (.getfield 13, 3) := by decide +kernel
theorem dX11_count_232 : decode cX11_count 232 = .ok (.ireturn, 1) := by decide +kernel
theorem dX11_count_233 : decode cX11_count 233 = .ok (.iconst (-1), 1) := by decide +kernel
theorem dX11_count_234 : decode cX11_count 234 = .ok (.ireturn, 1) := by decide +kernel
set_option maxRecDepth 100000 in
set_option maxHeartbeats 4000000 in
theorem c_X11_count {l : Launch} {D : q_D} (τ : q_T) (σ : q_V) (a0 : Nat) (x1 : Int32) (hI : q_I τ σ) (tA0 : τ a0 = some (9, 1)) : q_Cp l D yX11_count cX11_count 2 (some .int) 2 43 τ σ [.ref a0, .int x1] (fun r => q_r r (-2147483648) 2147483647) := by
  refine q_meti rfl (Nat.le_of_ble_eq_true rfl) (fun X hG hE => ?_)
  show q_O X 0 0 τ σ 0 [(0, .ref a0), (1, .int x1)] []
  refine q_iload_n (pc := 0) hG dX11_count_0 1 rfl ?_
  refine q_bipush (pc := 1) hG dX11_count_1 kb_10 ?_
  refine q_bipush (pc := 3) hG dX11_count_3 kb_11 ?_
  refine q_pS (pc := 5) [.int x1, .int 10, .int 11] [] hG (c_X11_isIn τ σ x1 10 11 hI) my_X11_isIn w238 w237 dX11_count_5 rfl rfl (Nat.le_of_ble_eq_true rfl) (by decide) (fun v5 p5 => ?_)
  refine q_if_eq (pc := 8) hG 32 dX11_count_8 rfl ?_ ?_
  · intro c8
    refine q_iload_n (pc := 32) hG dX11_count_32 1 rfl ?_
    refine q_bipush (pc := 33) hG dX11_count_33 kb_20 ?_
    refine q_bipush (pc := 35) hG dX11_count_35 kb_21 ?_
    refine q_pS (pc := 37) [.int x1, .int 20, .int 21] [] hG (c_X11_isIn τ σ x1 20 21 hI) my_X11_isIn w238 w237 dX11_count_37 rfl rfl (Nat.le_of_ble_eq_true rfl) (by decide) (fun v37 p37 => ?_)
    refine q_if_eq (pc := 40) hG 59 dX11_count_40 rfl ?_ ?_
    · intro c40
      refine q_iload_n (pc := 59) hG dX11_count_59 1 rfl ?_
      refine q_bipush (pc := 60) hG dX11_count_60 kb_30 ?_
      refine q_bipush (pc := 62) hG dX11_count_62 kb_41 ?_
      refine q_pS (pc := 64) [.int x1, .int 30, .int 41] [] hG (c_X11_isIn τ σ x1 30 41 hI) my_X11_isIn w238 w237 dX11_count_64 rfl rfl (Nat.le_of_ble_eq_true rfl) (by decide) (fun v64 p64 => ?_)
      refine q_if_eq (pc := 67) hG 83 dX11_count_67 rfl ?_ ?_
      · intro c67
        refine q_iload_n (pc := 83) hG dX11_count_83 1 rfl ?_
        refine q_bipush (pc := 84) hG dX11_count_84 kb_50 ?_
        refine q_bipush (pc := 86) hG dX11_count_86 kb_61 ?_
        refine q_pS (pc := 88) [.int x1, .int 50, .int 61] [] hG (c_X11_isIn τ σ x1 50 61 hI) my_X11_isIn w238 w237 dX11_count_88 rfl rfl (Nat.le_of_ble_eq_true rfl) (by decide) (fun v88 p88 => ?_)
        refine q_if_eq (pc := 91) hG 107 dX11_count_91 rfl ?_ ?_
        · intro c91
          refine q_iload_n (pc := 107) hG dX11_count_107 1 rfl ?_
          by_cases z108_0 : x1.toInt = 0
          · skip
            refine q_tsIn (pc := 108) 0 156 hG dX11_count_108 z108_0 (by decide) rfl rfl ?_
            refine q_aload_n (pc := 156) hG dX11_count_156 0 rfl ?_
            refine q_getR (pc := 157) (k2 := 6) (n2 := 1) hG fl_X11_41 dX11_count_157 hI tA0 ff_9_5 (fun b157 f157 T157 => ?_)
            refine q_getI (pc := 160) hG fl_X11_98 dX11_count_160 hI T157 ff_6_0 (fun v160 f160 g160 => ?_)
            exact q_irt hG hE dX11_count_163 ⟨rfl, (q_r.mono g160 (by decide))⟩
          by_cases z108_1 : x1.toInt = 1
          · skip
            refine q_tsIn (pc := 108) 1 164 hG dX11_count_108 z108_1 (by decide) rfl rfl ?_
            refine q_aload_n (pc := 164) hG dX11_count_164 0 rfl ?_
            refine q_getR (pc := 165) (k2 := 6) (n2 := 1) hG fl_X11_41 dX11_count_165 hI tA0 ff_9_5 (fun b165 f165 T165 => ?_)
            refine q_getI (pc := 168) hG fl_X11_334 dX11_count_168 hI T165 ff_6_17 (fun v168 f168 g168 => ?_)
            exact q_irt hG hE dX11_count_171 ⟨rfl, g168⟩
          by_cases z108_2 : x1.toInt = 2
          · skip
            refine q_tsIn (pc := 108) 2 172 hG dX11_count_108 z108_2 (by decide) rfl rfl ?_
            refine q_aload_n (pc := 172) hG dX11_count_172 0 rfl ?_
            refine q_getR (pc := 173) (k2 := 6) (n2 := 1) hG fl_X11_41 dX11_count_173 hI tA0 ff_9_5 (fun b173 f173 T173 => ?_)
            refine q_pV (pc := 176) [] [] hG (c_X7_paintedDots τ σ b173 hI T173) my_X7_paintedDots mv_X7_paintedDots w495 dX11_count_176 T173 (by decide) rfl rfl (Nat.le_of_ble_eq_true rfl) (by decide) (fun v176 p176 => ?_)
            exact q_irt hG hE dX11_count_179 ⟨rfl, p176.1⟩
          by_cases z108_3 : x1.toInt = 3
          · skip
            refine q_tsIn (pc := 108) 3 180 hG dX11_count_108 z108_3 (by decide) rfl rfl ?_
            refine q_aload_n (pc := 180) hG dX11_count_180 0 rfl ?_
            refine q_getR (pc := 181) (k2 := 6) (n2 := 1) hG fl_X11_41 dX11_count_181 hI tA0 ff_9_5 (fun b181 f181 T181 => ?_)
            refine q_pV (pc := 184) [] [] hG (c_X7_spoiltDots τ σ b181 hI T181) my_X7_spoiltDots mv_X7_spoiltDots w499 dX11_count_184 T181 (by decide) rfl rfl (Nat.le_of_ble_eq_true rfl) (by decide) (fun v184 p184 => ?_)
            exact q_irt hG hE dX11_count_187 ⟨rfl, p184.1⟩
          by_cases z108_4 : x1.toInt = 4
          · skip
            refine q_tsIn (pc := 108) 4 188 hG dX11_count_108 z108_4 (by decide) rfl rfl ?_
            refine q_aload_n (pc := 188) hG dX11_count_188 0 rfl ?_
            refine q_getR (pc := 189) (k2 := 6) (n2 := 1) hG fl_X11_41 dX11_count_189 hI tA0 ff_9_5 (fun b189 f189 T189 => ?_)
            refine q_getI (pc := 192) hG fl_X11_151 dX11_count_192 hI T189 ff_6_15 (fun v192 f192 g192 => ?_)
            exact q_irt hG hE dX11_count_195 ⟨rfl, g192⟩
          by_cases z108_5 : x1.toInt = 5
          · skip
            refine q_tsIn (pc := 108) 5 196 hG dX11_count_108 z108_5 (by decide) rfl rfl ?_
            refine q_aload_n (pc := 196) hG dX11_count_196 0 rfl ?_
            refine q_getR (pc := 197) (k2 := 6) (n2 := 1) hG fl_X11_41 dX11_count_197 hI tA0 ff_9_5 (fun b197 f197 T197 => ?_)
            refine q_getI (pc := 200) hG fl_X11_154 dX11_count_200 hI T197 ff_6_16 (fun v200 f200 g200 => ?_)
            refine q_iconst (pc := 203) hG dX11_count_203 ki_m1 ?_
            refine q_icmp_ne (pc := 204) hG 212 dX11_count_204 rfl ?_ ?_
            · intro c204
              refine q_aload_n (pc := 212) hG dX11_count_212 0 rfl ?_
              refine q_getV (pc := 213) (v := .ref b197) hG fl_X11_41 dX11_count_213 tA0 f197 ?_
              refine q_getV (pc := 216) (v := .int v200) hG fl_X11_154 dX11_count_216 T197 f200 ?_
              exact q_irt hG hE dX11_count_219 ⟨rfl, g200⟩
            intro c204
            refine q_bipush (pc := 207) hG dX11_count_207 kb_m2 ?_
            refine q_goto (pc := 209) 219 hG dX11_count_209 rfl ?_
            exact q_irt hG hE dX11_count_219 ⟨rfl, (q_r.mono rl_m2 (by decide))⟩
          by_cases z108_6 : x1.toInt = 6
          · skip
            refine q_tsIn (pc := 108) 6 220 hG dX11_count_108 z108_6 (by decide) rfl rfl ?_
            refine q_aload_n (pc := 220) hG dX11_count_220 0 rfl ?_
            refine q_getR (pc := 221) (k2 := 3) (n2 := 1) hG fl_X11_34 dX11_count_221 hI tA0 ff_9_4 (fun b221 f221 T221 => ?_)
            refine q_getI (pc := 224) hG fl_X11_129 dX11_count_224 hI T221 ff_3_0 (fun v224 f224 g224 => ?_)
            exact q_irt hG hE dX11_count_227 ⟨rfl, (q_r.mono g224 (by decide))⟩
          by_cases z108_7 : x1.toInt = 7
          · skip
            refine q_tsIn (pc := 108) 7 228 hG dX11_count_108 z108_7 (by decide) rfl rfl ?_
            refine q_aload_n (pc := 228) hG dX11_count_228 0 rfl ?_
            refine q_getI (pc := 229) hG fl_X11_13 dX11_count_229 hI tA0 ff_9_1 (fun v229 f229 g229 => ?_)
            exact q_irt hG hE dX11_count_232 ⟨rfl, (q_r.mono g229 (by decide))⟩
          refine q_tsOut (pc := 108) 233 hG dX11_count_108 (by have q := (q_r_any x1); unfold q_r at q; omega) rfl ?_
          refine q_iconst (pc := 233) hG dX11_count_233 ki_m1 ?_
          exact q_irt hG hE dX11_count_234 ⟨rfl, (q_r.mono rl_m1 (by decide))⟩
        intro c91
        have g_1 := p88.2.2.mp (q_one p88.1 c91)
        have r_2 := q_rge (q_r_any x1) rl_50 g_1.1
        refine q_aload_n (pc := 94) hG dX11_count_94 0 rfl ?_
        refine q_getR (pc := 95) (k2 := 6) (n2 := 1) hG fl_X11_41 dX11_count_95 hI tA0 ff_9_5 (fun b95 f95 T95 => ?_)
        refine q_getR (pc := 98) (k2 := 128) (n2 := 12) hG fl_X11_148 dX11_count_98 hI T95 ff_6_14 (fun b98 f98 T98 => ?_)
        refine q_iload_n (pc := 101) hG dX11_count_101 1 rfl ?_
        refine q_bipush (pc := 102) hG dX11_count_102 kb_50 ?_
        refine q_isub (pc := 104) hG dX11_count_104 (fun v104 e104 => ?_)
        have r_3 := q_rle r_2 rl_61 g_1.2
        have r_4 := (q_subN (lo := 0) (hi := 11) e104 r_3 rl_50 (by decide)).2
        refine q_iald (pc := 105) hG dX11_count_105 hI ai_128 T98 (q_ix r_4 (by decide)) (fun v105 f105 g105 => ?_)
        exact q_irt hG hE dX11_count_106 ⟨rfl, g105⟩
      intro c67
      have g_5 := p64.2.2.mp (q_one p64.1 c67)
      have r_6 := q_rge (q_r_any x1) rl_30 g_5.1
      refine q_aload_n (pc := 70) hG dX11_count_70 0 rfl ?_
      refine q_getR (pc := 71) (k2 := 6) (n2 := 1) hG fl_X11_41 dX11_count_71 hI tA0 ff_9_5 (fun b71 f71 T71 => ?_)
      refine q_getR (pc := 74) (k2 := 127) (n2 := 12) hG fl_X11_145 dX11_count_74 hI T71 ff_6_13 (fun b74 f74 T74 => ?_)
      refine q_iload_n (pc := 77) hG dX11_count_77 1 rfl ?_
      refine q_bipush (pc := 78) hG dX11_count_78 kb_30 ?_
      refine q_isub (pc := 80) hG dX11_count_80 (fun v80 e80 => ?_)
      have r_7 := q_rle r_6 rl_41 g_5.2
      have r_8 := (q_subN (lo := 0) (hi := 11) e80 r_7 rl_30 (by decide)).2
      refine q_iald (pc := 81) hG dX11_count_81 hI ai_127 T74 (q_ix r_8 (by decide)) (fun v81 f81 g81 => ?_)
      exact q_irt hG hE dX11_count_82 ⟨rfl, g81⟩
    intro c40
    have g_9 := p37.2.2.mp (q_one p37.1 c40)
    have r_10 := q_rge (q_r_any x1) rl_20 g_9.1
    refine q_aload_n (pc := 43) hG dX11_count_43 0 rfl ?_
    refine q_getR (pc := 44) (k2 := 6) (n2 := 1) hG fl_X11_41 dX11_count_44 hI tA0 ff_9_5 (fun b44 f44 T44 => ?_)
    refine q_getR (pc := 47) (k2 := 126) (n2 := 2) hG fl_X11_142 dX11_count_47 hI T44 ff_6_12 (fun b47 f47 T47 => ?_)
    refine q_iload_n (pc := 50) hG dX11_count_50 1 rfl ?_
    refine q_bipush (pc := 51) hG dX11_count_51 kb_20 ?_
    refine q_isub (pc := 53) hG dX11_count_53 (fun v53 e53 => ?_)
    have r_11 := q_rle r_10 rl_21 g_9.2
    have r_12 := (q_subN (lo := 0) (hi := 1) e53 r_11 rl_20 (by decide)).2
    refine q_iald (pc := 54) hG dX11_count_54 hI ai_126 T47 (q_ix r_12 (by decide)) (fun v54 f54 g54 => ?_)
    refine q_bipush (pc := 55) hG dX11_count_55 kb_100 ?_
    refine q_iadd (pc := 57) hG dX11_count_57 (fun v57 e57 => ?_)
    exact q_irt hG hE dX11_count_58 ⟨rfl, (q_r_any v57)⟩
  intro c8
  have g_13 := p5.2.2.mp (q_one p5.1 c8)
  have r_14 := q_rge (q_r_any x1) rl_10 g_13.1
  refine q_aload_n (pc := 11) hG dX11_count_11 0 rfl ?_
  refine q_getR (pc := 12) (k2 := 6) (n2 := 1) hG fl_X11_41 dX11_count_12 hI tA0 ff_9_5 (fun b12 f12 T12 => ?_)
  refine q_getR (pc := 15) (k2 := 210) (n2 := 2) hG fl_X11_138 dX11_count_15 hI T12 ff_6_9 (fun b15 f15 T15 => ?_)
  refine q_iload_n (pc := 18) hG dX11_count_18 1 rfl ?_
  refine q_bipush (pc := 19) hG dX11_count_19 kb_10 ?_
  refine q_isub (pc := 21) hG dX11_count_21 (fun v21 e21 => ?_)
  have r_15 := q_rle r_14 rl_11 g_13.2
  have r_16 := (q_subN (lo := 0) (hi := 1) e21 r_15 rl_10 (by decide)).2
  refine q_zald (pc := 22) hG dX11_count_22 hI ai_210 T15 (q_ix r_16 (by decide)) (fun v22 f22 g22 => ?_)
  refine q_if_eq (pc := 23) hG 30 dX11_count_23 rfl ?_ ?_
  · intro c23
    refine q_iconst (pc := 30) hG dX11_count_30 ki_0 ?_
    exact q_irt hG hE dX11_count_31 ⟨rfl, (q_r.mono rl_0 (by decide))⟩
  intro c23
  refine q_iconst (pc := 26) hG dX11_count_26 ki_1 ?_
  refine q_goto (pc := 27) 31 hG dX11_count_27 rfl ?_
  exact q_irt hG hE dX11_count_31 ⟨rfl, (q_r.mono rl_1 (by decide))⟩
